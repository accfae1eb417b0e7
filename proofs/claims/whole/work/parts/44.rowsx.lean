/-! ===== the class: Rows, exchange, renumberBases, rest ===== -/
theorem m1_le {g : Nat} (h : g < 2147483648) : (-1 : Int32) ≤ nI g := by
  have h1 : (0 : Int32) ≤ nI g := nI_pos' h
  exact Int32.le_trans (by decide) h1
theorem v_exchange {r : Nat} (hr : isR r) {M : vM} {R : vRw} (h : rRw M r R) (hn : R.1 ≤ 8) {p q : Nat} (hp : p < R.1) (hq : q < R.1) : wpF F_X7_exchange [.ref r, .int (nI p), .int (nI q)] gA M (fun v G' M' => G' = gA ∧ v = none ∧ rRw M' r (rwSwp R p q) ∧ frR r M M') := by
  obtain ⟨r0, r1, r2, r3, r4, r5, r6⟩ := id hr
  obtain ⟨n, b, o⟩ := R
  obtain ⟨h1, h2⟩ := h
  simp only at h1 h2 hn hp hq
  refine run_wp ⟨Nat.le_of_ble_eq_true rfl, rfl⟩ ?_
  simp only [K_X7_exchange_54, D_X7_exchange, wp_con, wp_ild0, wp_ald0, wp_ist0, wp_inc0, wp_ild1, wp_ald1, wp_ist1n, wp_inc1n, wp_ist1i, wp_inc1i, wp_ist1r, wp_inc1r, wp_ild2, wp_ald2, wp_ist2n, wp_inc2n, wp_ist2i, wp_inc2i, wp_ist2r, wp_inc2r, wp_ild3, wp_ald3, wp_ist3n, wp_inc3n, wp_ist3i, wp_inc3i, wp_ist3r, wp_inc3r, wp_ild4, wp_ald4, wp_ist4n, wp_inc4n, wp_ist4i, wp_inc4i, wp_ist4r, wp_inc4r, wp_ild5, wp_ald5, wp_ist5n, wp_inc5n, wp_ist5i, wp_inc5i, wp_ist5r, wp_inc5r, wp_ild6, wp_ald6, wp_ist6n, wp_inc6n, wp_ist6i, wp_inc6i, wp_ist6r, wp_inc6r, wp_ild7, wp_ald7, wp_ist7n, wp_inc7n, wp_ist7i, wp_inc7i, wp_ist7r, wp_inc7r, wp_ild8, wp_ald8, wp_ist8n, wp_inc8n, wp_ist8i, wp_inc8i, wp_ist8r, wp_inc8r, wp_ild9, wp_ald9, wp_ist9n, wp_inc9n, wp_ist9i, wp_inc9i, wp_ist9r, wp_inc9r, wp_bin, wp_div, wp_dupi, wp_dupr, wp_dup2, wp_popi, wp_popr, wp_ifeq, wp_ifne, wp_iflt, wp_ifge, wp_ifgt, wp_ifle, wp_iceq, wp_icne, wp_iclt, wp_icge, wp_icgt, wp_icle, wp_jmp, wp_seq, sq_j, sq_r, lq_j, lq_r, eq_r, wp_kil, wp_ret, wp_zret, wp_vret, wp_aret, wp_gfi, wp_gfr, wp_pfi, wp_pfz, wp_ial, wp_ias, wp_aal, wp_gst, wp_sal, wp_min, wp_calV0, wp_calV1, wp_calS1, wp_calV2, wp_calS2, wp_calV3, wp_calS3, wp_calV4, wp_calS4, wp_calV5, wp_calS5, wp_acp, wp_i2l, wp_l2i, wp_lcon, wp_lbin, wp_ldiv, psh_s, psh_n, en, List.map_cons, List.map_nil, List.cons_append, List.nil_append, List.length_cons, List.length_nil, List.replicate_succ, List.replicate_zero, List.zipWith_cons_cons, List.zipWith_nil_left, List.zipWith_nil_right, if_true, if_false, Bool.false_eq_true, Nat.reduceAdd, Nat.reduceSub, Nat.reduceLeDiff, Nat.reduceEqDiff, Nat.reduceMul, true_and, and_true, Option.some.injEq, exists_eq_left', Nat.le_refl, Nat.zero_le, reduceIte, Nat.add_zero, Nat.zero_add, l_0, r0, r1, r3, r4, N_cl (show p < 2147483648 by omega), N_in (show p < 8 by omega) (by decide), wpF_eq (v_changeBase hr (show q < 8 by omega) (M (r + 1) p) M)]
  refine wp_for 6 (fun i L M' => L = [some (.ref r), some (.int (nI p)), some (.int (nI q)), some (.int (nI i)), none] ∧ (∀ a, a ≠ r + 2 → M' a = mset (mset M (r + 1) q (M (r + 1) p)) (r + 1) p (M (r + 1) q) a) ∧ ∀ j k, j < 8 → k < 6 → M' (r + 2) (j * 6 + k) = if k < i then M (r + 2) (swp p q j * 6 + k) else M (r + 2) (j * 6 + k)) ?_ ?_ 4000 0 _ _ (by omega) (by omega) ⟨rfl, fun _ _ => rfl, fun j k _ _ => ?_⟩
  · rintro i L M' hi ⟨rfl, e1, e2⟩
    simp only [B_X7_exchange_19, K_X7_exchange_54, wp_con, wp_ild0, wp_ald0, wp_ist0, wp_inc0, wp_ild1, wp_ald1, wp_ist1n, wp_inc1n, wp_ist1i, wp_inc1i, wp_ist1r, wp_inc1r, wp_ild2, wp_ald2, wp_ist2n, wp_inc2n, wp_ist2i, wp_inc2i, wp_ist2r, wp_inc2r, wp_ild3, wp_ald3, wp_ist3n, wp_inc3n, wp_ist3i, wp_inc3i, wp_ist3r, wp_inc3r, wp_ild4, wp_ald4, wp_ist4n, wp_inc4n, wp_ist4i, wp_inc4i, wp_ist4r, wp_inc4r, wp_ild5, wp_ald5, wp_ist5n, wp_inc5n, wp_ist5i, wp_inc5i, wp_ist5r, wp_inc5r, wp_ild6, wp_ald6, wp_ist6n, wp_inc6n, wp_ist6i, wp_inc6i, wp_ist6r, wp_inc6r, wp_ild7, wp_ald7, wp_ist7n, wp_inc7n, wp_ist7i, wp_inc7i, wp_ist7r, wp_inc7r, wp_ild8, wp_ald8, wp_ist8n, wp_inc8n, wp_ist8i, wp_inc8i, wp_ist8r, wp_inc8r, wp_ild9, wp_ald9, wp_ist9n, wp_inc9n, wp_ist9i, wp_inc9i, wp_ist9r, wp_inc9r, wp_bin, wp_div, wp_dupi, wp_dupr, wp_dup2, wp_popi, wp_popr, wp_ifeq, wp_ifne, wp_iflt, wp_ifge, wp_ifgt, wp_ifle, wp_iceq, wp_icne, wp_iclt, wp_icge, wp_icgt, wp_icle, wp_jmp, wp_seq, sq_j, sq_r, lq_j, lq_r, eq_r, wp_kil, wp_ret, wp_zret, wp_vret, wp_aret, wp_gfi, wp_gfr, wp_pfi, wp_pfz, wp_ial, wp_ias, wp_aal, wp_gst, wp_sal, wp_min, wp_calV0, wp_calV1, wp_calS1, wp_calV2, wp_calS2, wp_calV3, wp_calS3, wp_calV4, wp_calS4, wp_calV5, wp_calS5, wp_acp, wp_i2l, wp_l2i, wp_lcon, wp_lbin, wp_ldiv, psh_s, psh_n, en, List.map_cons, List.map_nil, List.cons_append, List.nil_append, List.length_cons, List.length_nil, List.replicate_succ, List.replicate_zero, List.zipWith_cons_cons, List.zipWith_nil_left, List.zipWith_nil_right, if_true, if_false, Bool.false_eq_true, Nat.reduceAdd, Nat.reduceSub, Nat.reduceLeDiff, Nat.reduceEqDiff, Nat.reduceMul, true_and, and_true, Option.some.injEq, exists_eq_left', Nat.le_refl, Nat.zero_le, reduceIte, Nat.add_zero, Nat.zero_add, l_6, N_s, N_le (show 6 < 2147483648 by decide) (show i < 2147483648 by omega), r0, wpF_eq (v_ownValue hr (show p < 8 by omega) hi M'), wpF_eq (v_changeOwn hr (show q < 8 by omega) hi (M' (r + 2) (p * 6 + i)) M'), wpF_eq (v_changeOwn hr (show p < 8 by omega) hi (M' (r + 2) (q * 6 + i)) (mset M' (r + 2) (q * 6 + i) (M' (r + 2) (p * 6 + i))))]
    refine ⟨fun h => absurd h (by omega), fun _ => ⟨fun a ha => ?_, fun j k hj hk => ?_⟩⟩
    · rw [ms_a ha, ms_a ha, e1 a ha]
    · have ep := e2 p i (by omega) hi
      have eq := e2 q i (by omega) hi
      rw [if_neg (by omega)] at ep eq
      by_cases hki : k = i
      · subst hki
        rw [if_pos (by omega)]
        by_cases hjp : j = p
        · subst hjp
          rw [ms_eq, eq]
          simp [swp]
        · rw [ms_k (by omega)]
          by_cases hjq : j = q
          · subst hjq
            rw [ms_eq, ep]
            simp [swp, hjp]
          · rw [ms_k (by omega), e2 j k hj hk, if_neg (by omega)]
            simp [swp, hjp, hjq]
      · rw [ms_k (by omega), ms_k (by omega), e2 j k hj hk]
        by_cases hk2 : k < i
        · rw [if_pos hk2, if_pos (by omega)]
        · rw [if_neg hk2, if_neg (by omega)]
  · rintro L M' ⟨rfl, e1, e2⟩
    simp only [B_X7_exchange_19, K_X7_exchange_54, wp_con, wp_ild0, wp_ald0, wp_ist0, wp_inc0, wp_ild1, wp_ald1, wp_ist1n, wp_inc1n, wp_ist1i, wp_inc1i, wp_ist1r, wp_inc1r, wp_ild2, wp_ald2, wp_ist2n, wp_inc2n, wp_ist2i, wp_inc2i, wp_ist2r, wp_inc2r, wp_ild3, wp_ald3, wp_ist3n, wp_inc3n, wp_ist3i, wp_inc3i, wp_ist3r, wp_inc3r, wp_ild4, wp_ald4, wp_ist4n, wp_inc4n, wp_ist4i, wp_inc4i, wp_ist4r, wp_inc4r, wp_ild5, wp_ald5, wp_ist5n, wp_inc5n, wp_ist5i, wp_inc5i, wp_ist5r, wp_inc5r, wp_ild6, wp_ald6, wp_ist6n, wp_inc6n, wp_ist6i, wp_inc6i, wp_ist6r, wp_inc6r, wp_ild7, wp_ald7, wp_ist7n, wp_inc7n, wp_ist7i, wp_inc7i, wp_ist7r, wp_inc7r, wp_ild8, wp_ald8, wp_ist8n, wp_inc8n, wp_ist8i, wp_inc8i, wp_ist8r, wp_inc8r, wp_ild9, wp_ald9, wp_ist9n, wp_inc9n, wp_ist9i, wp_inc9i, wp_ist9r, wp_inc9r, wp_bin, wp_div, wp_dupi, wp_dupr, wp_dup2, wp_popi, wp_popr, wp_ifeq, wp_ifne, wp_iflt, wp_ifge, wp_ifgt, wp_ifle, wp_iceq, wp_icne, wp_iclt, wp_icge, wp_icgt, wp_icle, wp_jmp, wp_seq, sq_j, sq_r, lq_j, lq_r, eq_r, wp_kil, wp_ret, wp_zret, wp_vret, wp_aret, wp_gfi, wp_gfr, wp_pfi, wp_pfz, wp_ial, wp_ias, wp_aal, wp_gst, wp_sal, wp_min, wp_calV0, wp_calV1, wp_calS1, wp_calV2, wp_calS2, wp_calV3, wp_calS3, wp_calV4, wp_calS4, wp_calV5, wp_calS5, wp_acp, wp_i2l, wp_l2i, wp_lcon, wp_lbin, wp_ldiv, psh_s, psh_n, en, List.map_cons, List.map_nil, List.cons_append, List.nil_append, List.length_cons, List.length_nil, List.replicate_succ, List.replicate_zero, List.zipWith_cons_cons, List.zipWith_nil_left, List.zipWith_nil_right, if_true, if_false, Bool.false_eq_true, Nat.reduceAdd, Nat.reduceSub, Nat.reduceLeDiff, Nat.reduceEqDiff, Nat.reduceMul, true_and, and_true, Option.some.injEq, exists_eq_left', Nat.le_refl, Nat.zero_le, reduceIte, Nat.add_zero, Nat.zero_add, l_6, N_le (show 6 < 2147483648 by decide) (show 6 < 2147483648 by decide)]
    refine ⟨fun _ => ⟨⟨?_, fun j hj => ⟨?_, fun k hk => ?_⟩⟩, fun a a0 a1 a2 => ?_, ?_⟩, fun h => absurd (by decide) h⟩
    · rw [e1 r (by omega), ms_a (by omega), ms_a (by omega), h1]
      rfl
    · simp only [rwSwp] at hj ⊢
      rw [e1 (r + 1) (by omega)]
      by_cases hjp : j = p
      · subst hjp
        rw [ms_eq, (h2 q hq).1]
        simp [swp]
      · rw [ms_k hjp]
        by_cases hjq : j = q
        · subst hjq
          rw [ms_eq, (h2 p hp).1]
          simp [swp, hjp]
        · rw [ms_k hjq, (h2 j hj).1]
          simp [swp, hjp, hjq]
    · simp only [rwSwp] at hj ⊢
      rw [e2 j k (by omega) hk, if_pos hk]
      refine (h2 (swp p q j) ?_).2 k hk
      unfold swp
      split
      · exact hq
      · split
        · exact hp
        · exact hj
    · rw [e1 a a2, ms_a a1, ms_a a1]
    · rw [e1 r (by omega), ms_a (by omega), ms_a (by omega)]
  · rw [if_neg (by omega), ms_a (by omega), ms_a (by omega)]
theorem v_renumber {r : Nat} (hr : isR r) {M : vM} {R : vRw} (h : rRw M r R) (hn : R.1 ≤ 8) {g : Nat} (hg : g < 8) (hb : ∀ j, j < R.1 → ∀ t, R.2.1 j = some t → t < 8) : wpF F_X7_renumberBases [.ref r, .int (nI g)] gA M (fun v G' M' => G' = gA ∧ v = none ∧ rRw M' r (rwRen R g) ∧ frR r M M') := by
  obtain ⟨r0, r1, r2, r3, r4, r5, r6⟩ := id hr
  obtain ⟨n, b, o⟩ := R
  obtain ⟨h1, h2⟩ := h
  simp only at h1 h2 hn hb
  refine run_wp ⟨Nat.le_of_ble_eq_true rfl, rfl⟩ ?_
  simp only [K_X7_renumberBases_30, K_X7_renumberBases_36, D_X7_renumberBases, wp_con, wp_ild0, wp_ald0, wp_ist0, wp_inc0, wp_ild1, wp_ald1, wp_ist1n, wp_inc1n, wp_ist1i, wp_inc1i, wp_ist1r, wp_inc1r, wp_ild2, wp_ald2, wp_ist2n, wp_inc2n, wp_ist2i, wp_inc2i, wp_ist2r, wp_inc2r, wp_ild3, wp_ald3, wp_ist3n, wp_inc3n, wp_ist3i, wp_inc3i, wp_ist3r, wp_inc3r, wp_ild4, wp_ald4, wp_ist4n, wp_inc4n, wp_ist4i, wp_inc4i, wp_ist4r, wp_inc4r, wp_ild5, wp_ald5, wp_ist5n, wp_inc5n, wp_ist5i, wp_inc5i, wp_ist5r, wp_inc5r, wp_ild6, wp_ald6, wp_ist6n, wp_inc6n, wp_ist6i, wp_inc6i, wp_ist6r, wp_inc6r, wp_ild7, wp_ald7, wp_ist7n, wp_inc7n, wp_ist7i, wp_inc7i, wp_ist7r, wp_inc7r, wp_ild8, wp_ald8, wp_ist8n, wp_inc8n, wp_ist8i, wp_inc8i, wp_ist8r, wp_inc8r, wp_ild9, wp_ald9, wp_ist9n, wp_inc9n, wp_ist9i, wp_inc9i, wp_ist9r, wp_inc9r, wp_bin, wp_div, wp_dupi, wp_dupr, wp_dup2, wp_popi, wp_popr, wp_ifeq, wp_ifne, wp_iflt, wp_ifge, wp_ifgt, wp_ifle, wp_iceq, wp_icne, wp_iclt, wp_icge, wp_icgt, wp_icle, wp_jmp, wp_seq, sq_j, sq_r, lq_j, lq_r, eq_r, wp_kil, wp_ret, wp_zret, wp_vret, wp_aret, wp_gfi, wp_gfr, wp_pfi, wp_pfz, wp_ial, wp_ias, wp_aal, wp_gst, wp_sal, wp_min, wp_calV0, wp_calV1, wp_calS1, wp_calV2, wp_calS2, wp_calV3, wp_calS3, wp_calV4, wp_calS4, wp_calV5, wp_calS5, wp_acp, wp_i2l, wp_l2i, wp_lcon, wp_lbin, wp_ldiv, psh_s, psh_n, en, List.map_cons, List.map_nil, List.cons_append, List.nil_append, List.length_cons, List.length_nil, List.replicate_succ, List.replicate_zero, List.zipWith_cons_cons, List.zipWith_nil_left, List.zipWith_nil_right, if_true, if_false, Bool.false_eq_true, Nat.reduceAdd, Nat.reduceSub, Nat.reduceLeDiff, Nat.reduceEqDiff, Nat.reduceMul, true_and, and_true, Option.some.injEq, exists_eq_left', Nat.le_refl, Nat.zero_le, reduceIte, Nat.add_zero, Nat.zero_add, l_0]
  refine wp_for n (fun i L M' => L = [some (.ref r), some (.int (nI g)), some (.int (nI i))] ∧ (∀ a, a ≠ r + 1 → M' a = M a) ∧ ∀ j, j < n → M' (r + 1) j = if j < i then nO (ren g (b j)) else nO (b j)) ?_ ?_ 4000 0 _ _ (by omega) (by omega) ⟨rfl, fun _ _ => rfl, fun j hj => ?_⟩
  · rintro i L M' hi ⟨rfl, e1, e2⟩
    have ei := e2 i hi
    rw [if_neg (by omega)] at ei
    simp only [K_X7_renumberBases_30, B_X7_renumberBases_2, K_X7_renumberBases_36, wp_con, wp_ild0, wp_ald0, wp_ist0, wp_inc0, wp_ild1, wp_ald1, wp_ist1n, wp_inc1n, wp_ist1i, wp_inc1i, wp_ist1r, wp_inc1r, wp_ild2, wp_ald2, wp_ist2n, wp_inc2n, wp_ist2i, wp_inc2i, wp_ist2r, wp_inc2r, wp_ild3, wp_ald3, wp_ist3n, wp_inc3n, wp_ist3i, wp_inc3i, wp_ist3r, wp_inc3r, wp_ild4, wp_ald4, wp_ist4n, wp_inc4n, wp_ist4i, wp_inc4i, wp_ist4r, wp_inc4r, wp_ild5, wp_ald5, wp_ist5n, wp_inc5n, wp_ist5i, wp_inc5i, wp_ist5r, wp_inc5r, wp_ild6, wp_ald6, wp_ist6n, wp_inc6n, wp_ist6i, wp_inc6i, wp_ist6r, wp_inc6r, wp_ild7, wp_ald7, wp_ist7n, wp_inc7n, wp_ist7i, wp_inc7i, wp_ist7r, wp_inc7r, wp_ild8, wp_ald8, wp_ist8n, wp_inc8n, wp_ist8i, wp_inc8i, wp_ist8r, wp_inc8r, wp_ild9, wp_ald9, wp_ist9n, wp_inc9n, wp_ist9i, wp_inc9i, wp_ist9r, wp_inc9r, wp_bin, wp_div, wp_dupi, wp_dupr, wp_dup2, wp_popi, wp_popr, wp_ifeq, wp_ifne, wp_iflt, wp_ifge, wp_ifgt, wp_ifle, wp_iceq, wp_icne, wp_iclt, wp_icge, wp_icgt, wp_icle, wp_jmp, wp_seq, sq_j, sq_r, lq_j, lq_r, eq_r, wp_kil, wp_ret, wp_zret, wp_vret, wp_aret, wp_gfi, wp_gfr, wp_pfi, wp_pfz, wp_ial, wp_ias, wp_aal, wp_gst, wp_sal, wp_min, wp_calV0, wp_calV1, wp_calS1, wp_calV2, wp_calS2, wp_calV3, wp_calS3, wp_calV4, wp_calS4, wp_calV5, wp_calS5, wp_acp, wp_i2l, wp_l2i, wp_lcon, wp_lbin, wp_ldiv, psh_s, psh_n, en, List.map_cons, List.map_nil, List.cons_append, List.nil_append, List.length_cons, List.length_nil, List.replicate_succ, List.replicate_zero, List.zipWith_cons_cons, List.zipWith_nil_left, List.zipWith_nil_right, if_true, if_false, Bool.false_eq_true, Nat.reduceAdd, Nat.reduceSub, Nat.reduceLeDiff, Nat.reduceEqDiff, Nat.reduceMul, true_and, and_true, Option.some.injEq, exists_eq_left', Nat.le_refl, Nat.zero_le, reduceIte, Nat.add_zero, Nat.zero_add, N_s, r0, r1, r3, r4, e1 r (by omega), h1, N_le (show n < 2147483648 by omega) (show i < 2147483648 by omega), N_cl (show i < 2147483648 by omega), N_in (show i < 8 by omega) (by decide), ei, f_sub]
    refine ⟨fun h => absurd h (by omega), fun _ => ⟨fun hle => ⟨e1, fun j hj => ?_⟩, fun hgt => ⟨fun a ha => ?_, fun j hj => ?_⟩⟩⟩
    · by_cases hji : j = i
      · subst hji
        rw [ei, if_pos (by omega)]
        cases hbj : b j with
        | none => rfl
        | some t =>
          have ht := hb j hi t hbj
          rw [hbj, nO_s, N_le (by omega) (by omega)] at hle
          simp [ren, show ¬ g < t by omega]
      · rw [e2 j hj]
        by_cases hjl : j < i
        · rw [if_pos hjl, if_pos (by omega)]
        · rw [if_neg hjl, if_neg (by omega)]
    · rw [ms_a ha, e1 a ha]
    · by_cases hji : j = i
      · subst hji
        rw [ms_eq, if_pos (by omega)]
        cases hbj : b j with
        | none => exact absurd (by rw [hbj]; exact m1_le (by omega)) hgt
        | some t =>
          have ht := hb j hi t hbj
          rw [hbj, nO_s, N_le (by omega) (by omega)] at hgt
          rw [nO_s, N_p t (by omega)]
          simp [ren, show g < t by omega, nO]
      · rw [ms_k hji, e2 j hj]
        by_cases hjl : j < i
        · rw [if_pos hjl, if_pos (by omega)]
        · rw [if_neg hjl, if_neg (by omega)]
  · rintro L M' ⟨rfl, e1, e2⟩
    simp only [K_X7_renumberBases_30, B_X7_renumberBases_2, K_X7_renumberBases_36, wp_con, wp_ild0, wp_ald0, wp_ist0, wp_inc0, wp_ild1, wp_ald1, wp_ist1n, wp_inc1n, wp_ist1i, wp_inc1i, wp_ist1r, wp_inc1r, wp_ild2, wp_ald2, wp_ist2n, wp_inc2n, wp_ist2i, wp_inc2i, wp_ist2r, wp_inc2r, wp_ild3, wp_ald3, wp_ist3n, wp_inc3n, wp_ist3i, wp_inc3i, wp_ist3r, wp_inc3r, wp_ild4, wp_ald4, wp_ist4n, wp_inc4n, wp_ist4i, wp_inc4i, wp_ist4r, wp_inc4r, wp_ild5, wp_ald5, wp_ist5n, wp_inc5n, wp_ist5i, wp_inc5i, wp_ist5r, wp_inc5r, wp_ild6, wp_ald6, wp_ist6n, wp_inc6n, wp_ist6i, wp_inc6i, wp_ist6r, wp_inc6r, wp_ild7, wp_ald7, wp_ist7n, wp_inc7n, wp_ist7i, wp_inc7i, wp_ist7r, wp_inc7r, wp_ild8, wp_ald8, wp_ist8n, wp_inc8n, wp_ist8i, wp_inc8i, wp_ist8r, wp_inc8r, wp_ild9, wp_ald9, wp_ist9n, wp_inc9n, wp_ist9i, wp_inc9i, wp_ist9r, wp_inc9r, wp_bin, wp_div, wp_dupi, wp_dupr, wp_dup2, wp_popi, wp_popr, wp_ifeq, wp_ifne, wp_iflt, wp_ifge, wp_ifgt, wp_ifle, wp_iceq, wp_icne, wp_iclt, wp_icge, wp_icgt, wp_icle, wp_jmp, wp_seq, sq_j, sq_r, lq_j, lq_r, eq_r, wp_kil, wp_ret, wp_zret, wp_vret, wp_aret, wp_gfi, wp_gfr, wp_pfi, wp_pfz, wp_ial, wp_ias, wp_aal, wp_gst, wp_sal, wp_min, wp_calV0, wp_calV1, wp_calS1, wp_calV2, wp_calS2, wp_calV3, wp_calS3, wp_calV4, wp_calS4, wp_calV5, wp_calS5, wp_acp, wp_i2l, wp_l2i, wp_lcon, wp_lbin, wp_ldiv, psh_s, psh_n, en, List.map_cons, List.map_nil, List.cons_append, List.nil_append, List.length_cons, List.length_nil, List.replicate_succ, List.replicate_zero, List.zipWith_cons_cons, List.zipWith_nil_left, List.zipWith_nil_right, if_true, if_false, Bool.false_eq_true, Nat.reduceAdd, Nat.reduceSub, Nat.reduceLeDiff, Nat.reduceEqDiff, Nat.reduceMul, true_and, and_true, Option.some.injEq, exists_eq_left', Nat.le_refl, Nat.zero_le, reduceIte, Nat.add_zero, Nat.zero_add, r0, e1 r (by omega), h1, N_le (show n < 2147483648 by omega) (show n < 2147483648 by omega)]
    refine ⟨fun _ => ⟨⟨?_, fun j hj => ⟨?_, fun k hk => ?_⟩⟩, fun a a0 a1 a2 => e1 a a1, ?_⟩, fun h => absurd trivial h⟩
    · rw [e1 r (by omega), h1]
      rfl
    · simp only [rwRen] at hj ⊢
      rw [e2 j hj, if_pos hj]
    · rw [e1 (r + 2) (by omega)]
      exact (h2 j hj).2 k hk
    · rw [e1 r (by omega)]
  · rw [if_neg (by omega)]
    exact (h2 j hj).1
theorem v_rest {r : Nat} (hr : isR r) {M : vM} {R : vRw} (h : rRw M r R) (hn : R.1 ≤ 8) {j : Nat} (hj : j < R.1) (nb : Option Nat) {l bl : Nat} (hl : l < 2147483648) (hbl : bl < 2147483648) : wpF F_X7_rest [.ref r, .int (nI j), .int (nO nb), .int (nI l), .int (nI bl)] gA M (fun v G' M' => G' = gA ∧ v = none ∧ rRw M' r (rwRest R j nb l bl) ∧ frR r M M') := by
  obtain ⟨r0, r1, r2, r3, r4, r5, r6⟩ := id hr
  obtain ⟨n, b, o⟩ := R
  obtain ⟨h1, h2⟩ := h
  simp only at h1 h2 hn hj
  refine run_wp ⟨Nat.le_of_ble_eq_true rfl, rfl⟩ ?_
  simp only [K_X7_rest_47, K_X7_rest_57, D_X7_rest, wp_con, wp_ild0, wp_ald0, wp_ist0, wp_inc0, wp_ild1, wp_ald1, wp_ist1n, wp_inc1n, wp_ist1i, wp_inc1i, wp_ist1r, wp_inc1r, wp_ild2, wp_ald2, wp_ist2n, wp_inc2n, wp_ist2i, wp_inc2i, wp_ist2r, wp_inc2r, wp_ild3, wp_ald3, wp_ist3n, wp_inc3n, wp_ist3i, wp_inc3i, wp_ist3r, wp_inc3r, wp_ild4, wp_ald4, wp_ist4n, wp_inc4n, wp_ist4i, wp_inc4i, wp_ist4r, wp_inc4r, wp_ild5, wp_ald5, wp_ist5n, wp_inc5n, wp_ist5i, wp_inc5i, wp_ist5r, wp_inc5r, wp_ild6, wp_ald6, wp_ist6n, wp_inc6n, wp_ist6i, wp_inc6i, wp_ist6r, wp_inc6r, wp_ild7, wp_ald7, wp_ist7n, wp_inc7n, wp_ist7i, wp_inc7i, wp_ist7r, wp_inc7r, wp_ild8, wp_ald8, wp_ist8n, wp_inc8n, wp_ist8i, wp_inc8i, wp_ist8r, wp_inc8r, wp_ild9, wp_ald9, wp_ist9n, wp_inc9n, wp_ist9i, wp_inc9i, wp_ist9r, wp_inc9r, wp_bin, wp_div, wp_dupi, wp_dupr, wp_dup2, wp_popi, wp_popr, wp_ifeq, wp_ifne, wp_iflt, wp_ifge, wp_ifgt, wp_ifle, wp_iceq, wp_icne, wp_iclt, wp_icge, wp_icgt, wp_icle, wp_jmp, wp_seq, sq_j, sq_r, lq_j, lq_r, eq_r, wp_kil, wp_ret, wp_zret, wp_vret, wp_aret, wp_gfi, wp_gfr, wp_pfi, wp_pfz, wp_ial, wp_ias, wp_aal, wp_gst, wp_sal, wp_min, wp_calV0, wp_calV1, wp_calS1, wp_calV2, wp_calS2, wp_calV3, wp_calS3, wp_calV4, wp_calS4, wp_calV5, wp_calS5, wp_acp, wp_i2l, wp_l2i, wp_lcon, wp_lbin, wp_ldiv, psh_s, psh_n, en, List.map_cons, List.map_nil, List.cons_append, List.nil_append, List.length_cons, List.length_nil, List.replicate_succ, List.replicate_zero, List.zipWith_cons_cons, List.zipWith_nil_left, List.zipWith_nil_right, if_true, if_false, Bool.false_eq_true, Nat.reduceAdd, Nat.reduceSub, Nat.reduceLeDiff, Nat.reduceEqDiff, Nat.reduceMul, true_and, and_true, Option.some.injEq, exists_eq_left', Nat.le_refl, Nat.zero_le, reduceIte, Nat.add_zero, Nat.zero_add, l_0, r0, r1, r3, r4, N_cl (show j < 2147483648 by omega), N_in (show j < 8 by omega) (by decide)]
  refine wp_for 6 (fun i L M' => L = [some (.ref r), some (.int (nI j)), none, some (.int (nI l)), some (.int (nI bl)), some (.int (nI i)), none] ∧ (∀ a, a ≠ r + 2 → M' a = mset M (r + 1) j (nO nb) a) ∧ ∀ j' k, j' < 8 → k < 6 → M' (r + 2) (j' * 6 + k) = if j' = j ∧ k < i then nO (if un l k = un bl k then none else some (un l k)) else M (r + 2) (j' * 6 + k)) ?_ ?_ 4000 0 _ _ (by omega) (by omega) ⟨rfl, fun _ _ => rfl, fun j' k _ _ => ?_⟩
  · rintro i L M' hi ⟨rfl, e1, e2⟩
    have u1 := un_lt l i hi
    have u2 := un_lt bl i hi
    have key : ∀ x : Int32, x = nO (if un l i = un bl i then none else some (un l i)) → (∀ a, a ≠ r + 2 → mset M' (r + 2) (j * 6 + i) x a = mset M (r + 1) j (nO nb) a) ∧ ∀ j' k, j' < 8 → k < 6 → mset M' (r + 2) (j * 6 + i) x (r + 2) (j' * 6 + k) = if j' = j ∧ k < i + 1 then nO (if un l k = un bl k then none else some (un l k)) else M (r + 2) (j' * 6 + k) := by
      rintro x rfl
      refine ⟨fun a ha => by rw [ms_a ha, e1 a ha], fun j' k hj' hk => ?_⟩
      by_cases hx : j' = j ∧ k = i
      · obtain ⟨rfl, rfl⟩ := hx
        rw [ms_eq, if_pos (show j' = j' ∧ k < k + 1 from ⟨rfl, by omega⟩)]
      · rw [ms_k (by omega), e2 j' k hj' hk]
        by_cases hy : j' = j ∧ k < i
        · rw [if_pos hy, if_pos (show j' = j ∧ k < i + 1 from ⟨hy.1, by omega⟩)]
        · rw [if_neg hy, if_neg (show ¬ (j' = j ∧ k < i + 1) by omega)]
    simp only [K_X7_rest_47, B_X7_rest_10, K_X7_rest_57, wp_con, wp_ild0, wp_ald0, wp_ist0, wp_inc0, wp_ild1, wp_ald1, wp_ist1n, wp_inc1n, wp_ist1i, wp_inc1i, wp_ist1r, wp_inc1r, wp_ild2, wp_ald2, wp_ist2n, wp_inc2n, wp_ist2i, wp_inc2i, wp_ist2r, wp_inc2r, wp_ild3, wp_ald3, wp_ist3n, wp_inc3n, wp_ist3i, wp_inc3i, wp_ist3r, wp_inc3r, wp_ild4, wp_ald4, wp_ist4n, wp_inc4n, wp_ist4i, wp_inc4i, wp_ist4r, wp_inc4r, wp_ild5, wp_ald5, wp_ist5n, wp_inc5n, wp_ist5i, wp_inc5i, wp_ist5r, wp_inc5r, wp_ild6, wp_ald6, wp_ist6n, wp_inc6n, wp_ist6i, wp_inc6i, wp_ist6r, wp_inc6r, wp_ild7, wp_ald7, wp_ist7n, wp_inc7n, wp_ist7i, wp_inc7i, wp_ist7r, wp_inc7r, wp_ild8, wp_ald8, wp_ist8n, wp_inc8n, wp_ist8i, wp_inc8i, wp_ist8r, wp_inc8r, wp_ild9, wp_ald9, wp_ist9n, wp_inc9n, wp_ist9i, wp_inc9i, wp_ist9r, wp_inc9r, wp_bin, wp_div, wp_dupi, wp_dupr, wp_dup2, wp_popi, wp_popr, wp_ifeq, wp_ifne, wp_iflt, wp_ifge, wp_ifgt, wp_ifle, wp_iceq, wp_icne, wp_iclt, wp_icge, wp_icgt, wp_icle, wp_jmp, wp_seq, sq_j, sq_r, lq_j, lq_r, eq_r, wp_kil, wp_ret, wp_zret, wp_vret, wp_aret, wp_gfi, wp_gfr, wp_pfi, wp_pfz, wp_ial, wp_ias, wp_aal, wp_gst, wp_sal, wp_min, wp_calV0, wp_calV1, wp_calS1, wp_calV2, wp_calS2, wp_calV3, wp_calS3, wp_calV4, wp_calS4, wp_calV5, wp_calS5, wp_acp, wp_i2l, wp_l2i, wp_lcon, wp_lbin, wp_ldiv, psh_s, psh_n, en, List.map_cons, List.map_nil, List.cons_append, List.nil_append, List.length_cons, List.length_nil, List.replicate_succ, List.replicate_zero, List.zipWith_cons_cons, List.zipWith_nil_left, List.zipWith_nil_right, if_true, if_false, Bool.false_eq_true, Nat.reduceAdd, Nat.reduceSub, Nat.reduceLeDiff, Nat.reduceEqDiff, Nat.reduceMul, true_and, and_true, Option.some.injEq, exists_eq_left', Nat.le_refl, Nat.zero_le, reduceIte, Nat.add_zero, Nat.zero_add, l_6, N_s, N_le (show 6 < 2147483648 by decide) (show i < 2147483648 by omega), r0, wpF_eq (v_inLook hi hl M'), wpF_eq (v_inLook hi hbl M'), N_eq (show un l i < 2147483648 by omega) (show un bl i < 2147483648 by omega), wpF_eq (v_changeOwn hr (show j < 8 by omega) hi (nI (un l i)) M'), wpF_eq (v_changeOwn hr (show j < 8 by omega) hi (-1) M')]
    refine ⟨fun h => absurd h (by omega), fun _ => ⟨fun hne => ?_, fun heq => ?_⟩⟩
    · exact key _ (by rw [if_neg hne]; rfl)
    · exact key _ (by rw [if_pos heq]; rfl)
  · rintro L M' ⟨rfl, e1, e2⟩
    simp only [K_X7_rest_47, B_X7_rest_10, K_X7_rest_57, wp_con, wp_ild0, wp_ald0, wp_ist0, wp_inc0, wp_ild1, wp_ald1, wp_ist1n, wp_inc1n, wp_ist1i, wp_inc1i, wp_ist1r, wp_inc1r, wp_ild2, wp_ald2, wp_ist2n, wp_inc2n, wp_ist2i, wp_inc2i, wp_ist2r, wp_inc2r, wp_ild3, wp_ald3, wp_ist3n, wp_inc3n, wp_ist3i, wp_inc3i, wp_ist3r, wp_inc3r, wp_ild4, wp_ald4, wp_ist4n, wp_inc4n, wp_ist4i, wp_inc4i, wp_ist4r, wp_inc4r, wp_ild5, wp_ald5, wp_ist5n, wp_inc5n, wp_ist5i, wp_inc5i, wp_ist5r, wp_inc5r, wp_ild6, wp_ald6, wp_ist6n, wp_inc6n, wp_ist6i, wp_inc6i, wp_ist6r, wp_inc6r, wp_ild7, wp_ald7, wp_ist7n, wp_inc7n, wp_ist7i, wp_inc7i, wp_ist7r, wp_inc7r, wp_ild8, wp_ald8, wp_ist8n, wp_inc8n, wp_ist8i, wp_inc8i, wp_ist8r, wp_inc8r, wp_ild9, wp_ald9, wp_ist9n, wp_inc9n, wp_ist9i, wp_inc9i, wp_ist9r, wp_inc9r, wp_bin, wp_div, wp_dupi, wp_dupr, wp_dup2, wp_popi, wp_popr, wp_ifeq, wp_ifne, wp_iflt, wp_ifge, wp_ifgt, wp_ifle, wp_iceq, wp_icne, wp_iclt, wp_icge, wp_icgt, wp_icle, wp_jmp, wp_seq, sq_j, sq_r, lq_j, lq_r, eq_r, wp_kil, wp_ret, wp_zret, wp_vret, wp_aret, wp_gfi, wp_gfr, wp_pfi, wp_pfz, wp_ial, wp_ias, wp_aal, wp_gst, wp_sal, wp_min, wp_calV0, wp_calV1, wp_calS1, wp_calV2, wp_calS2, wp_calV3, wp_calS3, wp_calV4, wp_calS4, wp_calV5, wp_calS5, wp_acp, wp_i2l, wp_l2i, wp_lcon, wp_lbin, wp_ldiv, psh_s, psh_n, en, List.map_cons, List.map_nil, List.cons_append, List.nil_append, List.length_cons, List.length_nil, List.replicate_succ, List.replicate_zero, List.zipWith_cons_cons, List.zipWith_nil_left, List.zipWith_nil_right, if_true, if_false, Bool.false_eq_true, Nat.reduceAdd, Nat.reduceSub, Nat.reduceLeDiff, Nat.reduceEqDiff, Nat.reduceMul, true_and, and_true, Option.some.injEq, exists_eq_left', Nat.le_refl, Nat.zero_le, reduceIte, Nat.add_zero, Nat.zero_add, l_6, N_le (show 6 < 2147483648 by decide) (show 6 < 2147483648 by decide)]
    refine ⟨fun _ => ⟨⟨?_, fun i hi => ⟨?_, fun k hk => ?_⟩⟩, fun a a0 a1 a2 => ?_, ?_⟩, fun h => absurd (by decide) h⟩
    · rw [e1 r (by omega), ms_a (by omega), h1]
      rfl
    · simp only [rwRest] at hi ⊢
      rw [e1 (r + 1) (by omega)]
      by_cases hij : i = j
      · rw [hij, ms_eq, if_pos rfl]
      · rw [ms_k hij, if_neg hij]
        exact (h2 i hi).1
    · simp only [rwRest] at hi ⊢
      rw [e2 i k (by omega) hk]
      by_cases hij : i = j
      · rw [if_pos ⟨hij, hk⟩, if_pos hij]
      · rw [if_neg (by omega), if_neg hij]
        exact (h2 i hi).2 k hk
    · rw [e1 a a2, ms_a a1]
    · rw [e1 r (by omega), ms_a (by omega)]
  · rw [if_neg (by omega), ms_a (by omega)]
