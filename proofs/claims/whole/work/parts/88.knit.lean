-- the reference: the cheapest sum, parents chosen
theorem mn_far {R : Nat → Nat → Nat} {F F' : Nat → Nat} {m : Nat} (hm : m < 256) (hF : ∀ s, s < m → F' s = min (F s) 1000000) : ∀ l, l ≤ 8 → mn 1000000 R F' m l = min (mn BIG R F m l) 1000000 := by
  intro l
  induction l with
  | zero => intro _; rfl
  | succ l ih =>
    intro hl
    have ih := ih (by omega)
    unfold mn
    cases hb : m.testBit l
    · exact ih
    · simp only [if_true]
      have := (sub_bit hm (show l < 8 by omega) hb).2.2
      rw [ih, hF _ this]
      omega
theorem sD_far {R : Nat → Nat → Nat} {n : Nat} (hn : n ≤ 8) : ∀ m, m < 256 → sD 1000000 R n m = min (sD BIG R n m) 1000000 := by
  intro m
  induction m using Nat.strongRecOn with
  | _ m ih =>
    intro hm
    by_cases e : m = 0
    · rw [e]; rfl
    · rw [sD_s (by omega), sD_s (by omega)]
      exact mn_far hm (fun s hs => ih s hs (by omega)) n hn
theorem m_grown {M : vM} {n gl : Nat} {lk : Nat → Nat} {pn : Nat → Option (Option Nat)} (hn : n ≤ 8) (hl : lOK n lk) (hK : rLn M n lk gl) (hP : rPp M n pn) (hy : ∀ s, s < n → ∀ y, pn s = some (some y) → y < 100) : wpF F_X11_grown [.ref 190, .int (nI n)] gA M (fun v G' M' => G' = gA ∧ v = some (.int (nI (sD 1000000 (RR lk gl n pn) n (2 ^ n - 1)))) ∧ (∀ s, s < 2 ^ n → M' 200 s = nI (sD 1000000 (RR lk gl n pn) n s)) ∧ ∀ a, a ≠ 200 → M' a = M a) := by
  have h256 : 2 ^ n ≤ 256 := pow_le (n := 8) hn
  have hpos : 0 < 2 ^ n := Nat.two_pow_pos n
  have z0 : (0 : Int32).toNatClampNeg = 0 := by decide
  have zi : inB 0 256 = true := by decide
  have b1 : ((nI 1 : Int32) = 1) = True := by simp [nI]
  have b0 : ((nI 0 : Int32) = 1) = False := by simp [nI]
  refine run_wp ⟨Nat.le_of_ble_eq_true rfl, rfl⟩ ?_
  simp only [D_X11_grown, wp_con, wp_ild0, wp_ald0, wp_ist0, wp_inc0, wp_ild1, wp_ald1, wp_ist1n, wp_inc1n, wp_ist1i, wp_inc1i, wp_ist1r, wp_inc1r, wp_ild2, wp_ald2, wp_ist2n, wp_inc2n, wp_ist2i, wp_inc2i, wp_ist2r, wp_inc2r, wp_ild3, wp_ald3, wp_ist3n, wp_inc3n, wp_ist3i, wp_inc3i, wp_ist3r, wp_inc3r, wp_ild4, wp_ald4, wp_ist4n, wp_inc4n, wp_ist4i, wp_inc4i, wp_ist4r, wp_inc4r, wp_ild5, wp_ald5, wp_ist5n, wp_inc5n, wp_ist5i, wp_inc5i, wp_ist5r, wp_inc5r, wp_ild6, wp_ald6, wp_ist6n, wp_inc6n, wp_ist6i, wp_inc6i, wp_ist6r, wp_inc6r, wp_ild7, wp_ald7, wp_ist7n, wp_inc7n, wp_ist7i, wp_inc7i, wp_ist7r, wp_inc7r, wp_ild8, wp_ald8, wp_ist8n, wp_inc8n, wp_ist8i, wp_inc8i, wp_ist8r, wp_inc8r, wp_ild9, wp_ald9, wp_ist9n, wp_inc9n, wp_ist9i, wp_inc9i, wp_ist9r, wp_inc9r, wp_bin, wp_div, wp_dupi, wp_dupr, wp_dup2, wp_popi, wp_popr, wp_ifeq, wp_ifne, wp_iflt, wp_ifge, wp_ifgt, wp_ifle, wp_iceq, wp_icne, wp_iclt, wp_icge, wp_icgt, wp_icle, wp_jmp, wp_seq, sq_j, sq_r, lq_j, lq_r, eq_r, wp_kil, wp_ret, wp_zret, wp_vret, wp_aret, wp_gfi, wp_gfr, wp_pfi, wp_pfz, wp_ial, wp_ias, wp_aal, wp_gst, wp_sal, wp_min, wp_calV0, wp_calV1, wp_calS1, wp_calV2, wp_calS2, wp_calV3, wp_calS3, wp_calV4, wp_calS4, wp_calV5, wp_calS5, wp_acp, wp_i2l, wp_l2i, wp_lcon, wp_lbin, wp_ldiv, psh_s, psh_n, en, List.map_cons, List.map_nil, List.cons_append, List.nil_append, List.length_cons, List.length_nil, List.replicate_succ, List.replicate_zero, List.zipWith_cons_cons, List.zipWith_nil_left, List.zipWith_nil_right, if_true, if_false, Bool.false_eq_true, Nat.reduceAdd, Nat.reduceSub, Nat.reduceLeDiff, Nat.reduceEqDiff, Nat.reduceMul, true_and, and_true, Option.some.injEq, exists_eq_left', Nat.le_refl, Nat.zero_le, reduceIte, Nat.add_zero, Nat.zero_add, mF, f_shl, one_shl n (by omega), f_sub, N_p (2 ^ n) hpos, z0, zi]
  simp only [l_1]
  refine wp_for (2 ^ n) (fun m L M' => L = [some (.ref 190), some (.int (nI n)), some (.int (nI (2 ^ n - 1))), some (.int (nI m)), none, none, none, none] ∧ 0 < m ∧ (∀ s, s < m → M' 200 s = nI (sD 1000000 (RR lk gl n pn) n s)) ∧ ∀ a, a ≠ 200 → M' a = M a) ?_ ?_ 4000 1 _ _ (by omega) (by omega) ⟨rfl, by decide, fun s hs => ?_, fun a ha => ms_a ha⟩
  · rintro m L M' hm ⟨rfl, hm0, e1, e2⟩
    have hK' : rLn M' n lk gl := by unfold rLn; rw [e2 199 (by decide)]; exact hK
    have hP' : rPp M' n pn := by unfold rPp; rw [e2 201 (by decide)]; exact hP
    simp only [B_X11_grown_15, wp_con, wp_ild0, wp_ald0, wp_ist0, wp_inc0, wp_ild1, wp_ald1, wp_ist1n, wp_inc1n, wp_ist1i, wp_inc1i, wp_ist1r, wp_inc1r, wp_ild2, wp_ald2, wp_ist2n, wp_inc2n, wp_ist2i, wp_inc2i, wp_ist2r, wp_inc2r, wp_ild3, wp_ald3, wp_ist3n, wp_inc3n, wp_ist3i, wp_inc3i, wp_ist3r, wp_inc3r, wp_ild4, wp_ald4, wp_ist4n, wp_inc4n, wp_ist4i, wp_inc4i, wp_ist4r, wp_inc4r, wp_ild5, wp_ald5, wp_ist5n, wp_inc5n, wp_ist5i, wp_inc5i, wp_ist5r, wp_inc5r, wp_ild6, wp_ald6, wp_ist6n, wp_inc6n, wp_ist6i, wp_inc6i, wp_ist6r, wp_inc6r, wp_ild7, wp_ald7, wp_ist7n, wp_inc7n, wp_ist7i, wp_inc7i, wp_ist7r, wp_inc7r, wp_ild8, wp_ald8, wp_ist8n, wp_inc8n, wp_ist8i, wp_inc8i, wp_ist8r, wp_inc8r, wp_ild9, wp_ald9, wp_ist9n, wp_inc9n, wp_ist9i, wp_inc9i, wp_ist9r, wp_inc9r, wp_bin, wp_div, wp_dupi, wp_dupr, wp_dup2, wp_popi, wp_popr, wp_ifeq, wp_ifne, wp_iflt, wp_ifge, wp_ifgt, wp_ifle, wp_iceq, wp_icne, wp_iclt, wp_icge, wp_icgt, wp_icle, wp_jmp, wp_seq, sq_j, sq_r, lq_j, lq_r, eq_r, wp_kil, wp_ret, wp_zret, wp_vret, wp_aret, wp_gfi, wp_gfr, wp_pfi, wp_pfz, wp_ial, wp_ias, wp_aal, wp_gst, wp_sal, wp_min, wp_calV0, wp_calV1, wp_calS1, wp_calV2, wp_calS2, wp_calV3, wp_calS3, wp_calV4, wp_calS4, wp_calV5, wp_calS5, wp_acp, wp_i2l, wp_l2i, wp_lcon, wp_lbin, wp_ldiv, psh_s, psh_n, en, List.map_cons, List.map_nil, List.cons_append, List.nil_append, List.length_cons, List.length_nil, List.replicate_succ, List.replicate_zero, List.zipWith_cons_cons, List.zipWith_nil_left, List.zipWith_nil_right, if_true, if_false, Bool.false_eq_true, Nat.reduceAdd, Nat.reduceSub, Nat.reduceLeDiff, Nat.reduceEqDiff, Nat.reduceMul, true_and, and_true, Option.some.injEq, exists_eq_left', Nat.le_refl, Nat.zero_le, reduceIte, Nat.add_zero, Nat.zero_add, mF, N_lt (show 2 ^ n - 1 < 2147483648 by omega) (show m < 2147483648 by omega), show ¬ 2 ^ n - 1 < m by omega, bI_t, bI_f, z10, eq_self, not_true_eq_false, not_false_eq_true, true_implies, false_implies, true_and, and_true]
    rw [l_0, show (1000000 : Int32) = nI (mn 1000000 (RR lk gl n pn) (sD 1000000 (RR lk gl n pn) n) m 0) from rfl]
    refine wp_for n (fun l L M2 => M2 = M' ∧ L = [some (.ref 190), some (.int (nI n)), some (.int (nI (2 ^ n - 1))), some (.int (nI m)), some (.int (nI (mn 1000000 (RR lk gl n pn) (sD 1000000 (RR lk gl n pn) n) m l))), some (.int (nI l)), none, none]) ?_ ?_ 4000 0 _ _ (by omega) (by omega) ⟨rfl, rfl⟩
    · rintro l L M2 hl2 ⟨rfl, rfl⟩
      have hmn := mn_le (INF := 1000000) (R := RR lk gl n pn) (F := sD 1000000 (RR lk gl n pn) n) (m := m) l
      cases hb : m.testBit l with
      | false =>
        have e : mn 1000000 (RR lk gl n pn) (sD 1000000 (RR lk gl n pn) n) m (l + 1) = mn 1000000 (RR lk gl n pn) (sD 1000000 (RR lk gl n pn) n) m l := by
          show (if m.testBit l = true then _ else mn 1000000 (RR lk gl n pn) (sD 1000000 (RR lk gl n pn) n) m l) = _
          rw [hb]; rfl
        simp only [B_X11_grown_27, K_X11_grown_84, K_X11_grown_86, wp_con, wp_ild0, wp_ald0, wp_ist0, wp_inc0, wp_ild1, wp_ald1, wp_ist1n, wp_inc1n, wp_ist1i, wp_inc1i, wp_ist1r, wp_inc1r, wp_ild2, wp_ald2, wp_ist2n, wp_inc2n, wp_ist2i, wp_inc2i, wp_ist2r, wp_inc2r, wp_ild3, wp_ald3, wp_ist3n, wp_inc3n, wp_ist3i, wp_inc3i, wp_ist3r, wp_inc3r, wp_ild4, wp_ald4, wp_ist4n, wp_inc4n, wp_ist4i, wp_inc4i, wp_ist4r, wp_inc4r, wp_ild5, wp_ald5, wp_ist5n, wp_inc5n, wp_ist5i, wp_inc5i, wp_ist5r, wp_inc5r, wp_ild6, wp_ald6, wp_ist6n, wp_inc6n, wp_ist6i, wp_inc6i, wp_ist6r, wp_inc6r, wp_ild7, wp_ald7, wp_ist7n, wp_inc7n, wp_ist7i, wp_inc7i, wp_ist7r, wp_inc7r, wp_ild8, wp_ald8, wp_ist8n, wp_inc8n, wp_ist8i, wp_inc8i, wp_ist8r, wp_inc8r, wp_ild9, wp_ald9, wp_ist9n, wp_inc9n, wp_ist9i, wp_inc9i, wp_ist9r, wp_inc9r, wp_bin, wp_div, wp_dupi, wp_dupr, wp_dup2, wp_popi, wp_popr, wp_ifeq, wp_ifne, wp_iflt, wp_ifge, wp_ifgt, wp_ifle, wp_iceq, wp_icne, wp_iclt, wp_icge, wp_icgt, wp_icle, wp_jmp, wp_seq, sq_j, sq_r, lq_j, lq_r, eq_r, wp_kil, wp_ret, wp_zret, wp_vret, wp_aret, wp_gfi, wp_gfr, wp_pfi, wp_pfz, wp_ial, wp_ias, wp_aal, wp_gst, wp_sal, wp_min, wp_calV0, wp_calV1, wp_calS1, wp_calV2, wp_calS2, wp_calV3, wp_calS3, wp_calV4, wp_calS4, wp_calV5, wp_calS5, wp_acp, wp_i2l, wp_l2i, wp_lcon, wp_lbin, wp_ldiv, psh_s, psh_n, en, List.map_cons, List.map_nil, List.cons_append, List.nil_append, List.length_cons, List.length_nil, List.replicate_succ, List.replicate_zero, List.zipWith_cons_cons, List.zipWith_nil_left, List.zipWith_nil_right, if_true, if_false, Bool.false_eq_true, Nat.reduceAdd, Nat.reduceSub, Nat.reduceLeDiff, Nat.reduceEqDiff, Nat.reduceMul, true_and, and_true, Option.some.injEq, exists_eq_left', Nat.le_refl, Nat.zero_le, reduceIte, Nat.add_zero, Nat.zero_add, mF, N_le (show n < 2147483648 by omega) (show l < 2147483648 by omega), show ¬ n ≤ l by omega, bI_t, bI_f, z10, eq_self, not_true_eq_false, not_false_eq_true, true_implies, false_implies, true_and, and_true, f_shr, f_and, bit_at (show l < 31 by omega) (show m < 2147483648 by omega), hb, Bool.false_eq_true, if_false, b0, N_s, e]
      | true =>
        have e : mn 1000000 (RR lk gl n pn) (sD 1000000 (RR lk gl n pn) n) m (l + 1) = min (mn 1000000 (RR lk gl n pn) (sD 1000000 (RR lk gl n pn) n) m l) (sD 1000000 (RR lk gl n pn) n (m - 2 ^ l) + RR lk gl n pn l (m - 2 ^ l)) := by
          show (if m.testBit l = true then _ else _) = _
          rw [hb]; rfl
        obtain ⟨x1, x2⟩ := xor_sub m (by omega) l (by omega) hb
        have hp2 : 0 < 2 ^ l := Nat.two_pow_pos l
        have s1 := sD_le (INF := 1000000) (R := RR lk gl n pn) (n := n) (set := m - 2 ^ l)
        have s2 := RR_le (lk := lk) (gl := gl) (n := n) (i := l) (s := m - 2 ^ l) (pn := pn) hl hl2
        have ep := m_put (set := m - 2 ^ l) hn hl hl2 (by omega) hK' hP' (hy l hl2)
        simp only [B_X11_grown_27, K_X11_grown_84, K_X11_grown_86, wp_con, wp_ild0, wp_ald0, wp_ist0, wp_inc0, wp_ild1, wp_ald1, wp_ist1n, wp_inc1n, wp_ist1i, wp_inc1i, wp_ist1r, wp_inc1r, wp_ild2, wp_ald2, wp_ist2n, wp_inc2n, wp_ist2i, wp_inc2i, wp_ist2r, wp_inc2r, wp_ild3, wp_ald3, wp_ist3n, wp_inc3n, wp_ist3i, wp_inc3i, wp_ist3r, wp_inc3r, wp_ild4, wp_ald4, wp_ist4n, wp_inc4n, wp_ist4i, wp_inc4i, wp_ist4r, wp_inc4r, wp_ild5, wp_ald5, wp_ist5n, wp_inc5n, wp_ist5i, wp_inc5i, wp_ist5r, wp_inc5r, wp_ild6, wp_ald6, wp_ist6n, wp_inc6n, wp_ist6i, wp_inc6i, wp_ist6r, wp_inc6r, wp_ild7, wp_ald7, wp_ist7n, wp_inc7n, wp_ist7i, wp_inc7i, wp_ist7r, wp_inc7r, wp_ild8, wp_ald8, wp_ist8n, wp_inc8n, wp_ist8i, wp_inc8i, wp_ist8r, wp_inc8r, wp_ild9, wp_ald9, wp_ist9n, wp_inc9n, wp_ist9i, wp_inc9i, wp_ist9r, wp_inc9r, wp_bin, wp_div, wp_dupi, wp_dupr, wp_dup2, wp_popi, wp_popr, wp_ifeq, wp_ifne, wp_iflt, wp_ifge, wp_ifgt, wp_ifle, wp_iceq, wp_icne, wp_iclt, wp_icge, wp_icgt, wp_icle, wp_jmp, wp_seq, sq_j, sq_r, lq_j, lq_r, eq_r, wp_kil, wp_ret, wp_zret, wp_vret, wp_aret, wp_gfi, wp_gfr, wp_pfi, wp_pfz, wp_ial, wp_ias, wp_aal, wp_gst, wp_sal, wp_min, wp_calV0, wp_calV1, wp_calS1, wp_calV2, wp_calS2, wp_calV3, wp_calS3, wp_calV4, wp_calS4, wp_calV5, wp_calS5, wp_acp, wp_i2l, wp_l2i, wp_lcon, wp_lbin, wp_ldiv, psh_s, psh_n, en, List.map_cons, List.map_nil, List.cons_append, List.nil_append, List.length_cons, List.length_nil, List.replicate_succ, List.replicate_zero, List.zipWith_cons_cons, List.zipWith_nil_left, List.zipWith_nil_right, if_true, if_false, Bool.false_eq_true, Nat.reduceAdd, Nat.reduceSub, Nat.reduceLeDiff, Nat.reduceEqDiff, Nat.reduceMul, true_and, and_true, Option.some.injEq, exists_eq_left', Nat.le_refl, Nat.zero_le, reduceIte, Nat.add_zero, Nat.zero_add, mF, N_le (show n < 2147483648 by omega) (show l < 2147483648 by omega), show ¬ n ≤ l by omega, bI_t, bI_f, z10, eq_self, not_true_eq_false, not_false_eq_true, true_implies, false_implies, true_and, and_true, f_shr, f_and, bit_at (show l < 31 by omega) (show m < 2147483648 by omega), hb, if_true, b1, f_shl, one_shl l (by omega), f_sub, N_sub x2, N_cl (show m - 2 ^ l < 2147483648 by omega), N_in (show m - 2 ^ l < 256 by omega) (show 256 < 2147483648 by decide), e1 (m - 2 ^ l) (by omega), wpF_eq ep, f_add, N_add, N_le (show mn 1000000 (RR lk gl n pn) (sD 1000000 (RR lk gl n pn) n) m l < 2147483648 by omega) (show sD 1000000 (RR lk gl n pn) n (m - 2 ^ l) + RR lk gl n pn l (m - 2 ^ l) < 2147483648 by omega), N_s, e]
        by_cases q : mn 1000000 (RR lk gl n pn) (sD 1000000 (RR lk gl n pn) n) m l ≤ sD 1000000 (RR lk gl n pn) n (m - 2 ^ l) + RR lk gl n pn l (m - 2 ^ l)
        · simp only [q, bI_t, bI_f, z10, eq_self, not_true_eq_false, not_false_eq_true, true_implies, false_implies, true_and, and_true, Nat.min_eq_left q]
        · simp only [q, bI_t, bI_f, z10, eq_self, not_true_eq_false, not_false_eq_true, true_implies, false_implies, true_and, and_true, Nat.min_eq_right (Nat.le_of_lt (Nat.lt_of_not_le q))]
    · rintro L M2 ⟨rfl, rfl⟩
      simp only [B_X11_grown_27, K_X11_grown_92, wp_con, wp_ild0, wp_ald0, wp_ist0, wp_inc0, wp_ild1, wp_ald1, wp_ist1n, wp_inc1n, wp_ist1i, wp_inc1i, wp_ist1r, wp_inc1r, wp_ild2, wp_ald2, wp_ist2n, wp_inc2n, wp_ist2i, wp_inc2i, wp_ist2r, wp_inc2r, wp_ild3, wp_ald3, wp_ist3n, wp_inc3n, wp_ist3i, wp_inc3i, wp_ist3r, wp_inc3r, wp_ild4, wp_ald4, wp_ist4n, wp_inc4n, wp_ist4i, wp_inc4i, wp_ist4r, wp_inc4r, wp_ild5, wp_ald5, wp_ist5n, wp_inc5n, wp_ist5i, wp_inc5i, wp_ist5r, wp_inc5r, wp_ild6, wp_ald6, wp_ist6n, wp_inc6n, wp_ist6i, wp_inc6i, wp_ist6r, wp_inc6r, wp_ild7, wp_ald7, wp_ist7n, wp_inc7n, wp_ist7i, wp_inc7i, wp_ist7r, wp_inc7r, wp_ild8, wp_ald8, wp_ist8n, wp_inc8n, wp_ist8i, wp_inc8i, wp_ist8r, wp_inc8r, wp_ild9, wp_ald9, wp_ist9n, wp_inc9n, wp_ist9i, wp_inc9i, wp_ist9r, wp_inc9r, wp_bin, wp_div, wp_dupi, wp_dupr, wp_dup2, wp_popi, wp_popr, wp_ifeq, wp_ifne, wp_iflt, wp_ifge, wp_ifgt, wp_ifle, wp_iceq, wp_icne, wp_iclt, wp_icge, wp_icgt, wp_icle, wp_jmp, wp_seq, sq_j, sq_r, lq_j, lq_r, eq_r, wp_kil, wp_ret, wp_zret, wp_vret, wp_aret, wp_gfi, wp_gfr, wp_pfi, wp_pfz, wp_ial, wp_ias, wp_aal, wp_gst, wp_sal, wp_min, wp_calV0, wp_calV1, wp_calS1, wp_calV2, wp_calS2, wp_calV3, wp_calS3, wp_calV4, wp_calS4, wp_calV5, wp_calS5, wp_acp, wp_i2l, wp_l2i, wp_lcon, wp_lbin, wp_ldiv, psh_s, psh_n, en, List.map_cons, List.map_nil, List.cons_append, List.nil_append, List.length_cons, List.length_nil, List.replicate_succ, List.replicate_zero, List.zipWith_cons_cons, List.zipWith_nil_left, List.zipWith_nil_right, if_true, if_false, Bool.false_eq_true, Nat.reduceAdd, Nat.reduceSub, Nat.reduceLeDiff, Nat.reduceEqDiff, Nat.reduceMul, true_and, and_true, Option.some.injEq, exists_eq_left', Nat.le_refl, Nat.zero_le, reduceIte, Nat.add_zero, Nat.zero_add, mF, N_le (show n < 2147483648 by omega) (show n < 2147483648 by omega), Nat.le_refl, bI_t, bI_f, z10, eq_self, not_true_eq_false, not_false_eq_true, true_implies, false_implies, true_and, and_true, N_cl (show m < 2147483648 by omega), N_in (show m < 256 by omega) (show 256 < 2147483648 by decide), N_s]
      refine ⟨by omega, fun s hs => ?_, fun a ha => by rw [ms_a ha, e2 a ha]⟩
      by_cases e : s = m
      · rw [e, ms_eq, sD_s hm0]
      · rw [ms_k e, e1 s (by omega)]
  · rintro L M' ⟨rfl, hm0, e1, e2⟩
    simp only [B_X11_grown_15, K_X11_grown_106, wp_con, wp_ild0, wp_ald0, wp_ist0, wp_inc0, wp_ild1, wp_ald1, wp_ist1n, wp_inc1n, wp_ist1i, wp_inc1i, wp_ist1r, wp_inc1r, wp_ild2, wp_ald2, wp_ist2n, wp_inc2n, wp_ist2i, wp_inc2i, wp_ist2r, wp_inc2r, wp_ild3, wp_ald3, wp_ist3n, wp_inc3n, wp_ist3i, wp_inc3i, wp_ist3r, wp_inc3r, wp_ild4, wp_ald4, wp_ist4n, wp_inc4n, wp_ist4i, wp_inc4i, wp_ist4r, wp_inc4r, wp_ild5, wp_ald5, wp_ist5n, wp_inc5n, wp_ist5i, wp_inc5i, wp_ist5r, wp_inc5r, wp_ild6, wp_ald6, wp_ist6n, wp_inc6n, wp_ist6i, wp_inc6i, wp_ist6r, wp_inc6r, wp_ild7, wp_ald7, wp_ist7n, wp_inc7n, wp_ist7i, wp_inc7i, wp_ist7r, wp_inc7r, wp_ild8, wp_ald8, wp_ist8n, wp_inc8n, wp_ist8i, wp_inc8i, wp_ist8r, wp_inc8r, wp_ild9, wp_ald9, wp_ist9n, wp_inc9n, wp_ist9i, wp_inc9i, wp_ist9r, wp_inc9r, wp_bin, wp_div, wp_dupi, wp_dupr, wp_dup2, wp_popi, wp_popr, wp_ifeq, wp_ifne, wp_iflt, wp_ifge, wp_ifgt, wp_ifle, wp_iceq, wp_icne, wp_iclt, wp_icge, wp_icgt, wp_icle, wp_jmp, wp_seq, sq_j, sq_r, lq_j, lq_r, eq_r, wp_kil, wp_ret, wp_zret, wp_vret, wp_aret, wp_gfi, wp_gfr, wp_pfi, wp_pfz, wp_ial, wp_ias, wp_aal, wp_gst, wp_sal, wp_min, wp_calV0, wp_calV1, wp_calS1, wp_calV2, wp_calS2, wp_calV3, wp_calS3, wp_calV4, wp_calS4, wp_calV5, wp_calS5, wp_acp, wp_i2l, wp_l2i, wp_lcon, wp_lbin, wp_ldiv, psh_s, psh_n, en, List.map_cons, List.map_nil, List.cons_append, List.nil_append, List.length_cons, List.length_nil, List.replicate_succ, List.replicate_zero, List.zipWith_cons_cons, List.zipWith_nil_left, List.zipWith_nil_right, if_true, if_false, Bool.false_eq_true, Nat.reduceAdd, Nat.reduceSub, Nat.reduceLeDiff, Nat.reduceEqDiff, Nat.reduceMul, true_and, and_true, Option.some.injEq, exists_eq_left', Nat.le_refl, Nat.zero_le, reduceIte, Nat.add_zero, Nat.zero_add, mF, N_lt (show 2 ^ n - 1 < 2147483648 by omega) (show 2 ^ n < 2147483648 by omega), show 2 ^ n - 1 < 2 ^ n by omega, bI_t, bI_f, z10, eq_self, not_true_eq_false, not_false_eq_true, true_implies, false_implies, true_and, and_true, N_cl (show 2 ^ n - 1 < 2147483648 by omega), N_in (show 2 ^ n - 1 < 256 by omega) (show 256 < 2147483648 by decide), e1 (2 ^ n - 1) (by omega)]
    exact ⟨e1, e2⟩
  · have : s = 0 := by omega
    rw [this, ms_eq]
    rfl
theorem self_far {lk : Nat → Nat} {gl n i : Nat} {pn : Nat → Option (Option Nat)} (hn : n ≤ 8) (hi : i < n) : ∀ m, m < 256 → m.testBit i = true → 1000000 ≤ sD BIG (RR lk gl n (pset pn i (some i))) n m := by
  intro m
  induction m using Nat.strongRecOn with
  | _ m ih =>
    intro hm hb
    have h0 : 0 < m := by
      apply Decidable.byContradiction
      intro q
      rw [show m = 0 by omega] at hb
      simp at hb
    rw [sD_s h0]
    rcases mn_get (INF := BIG) (R := RR lk gl n (pset pn i (some i))) (F := sD BIG (RR lk gl n (pset pn i (some i))) n) (m := m) n with e | ⟨l, l1, l2, l3⟩
    · rw [e]; decide
    · rw [l3]
      obtain ⟨s1, s2, s3⟩ := sub_bit hm (show l < 8 by omega) l2
      by_cases e : l = i
      · have : RR lk gl n (pset pn i (some i)) l (m - 2 ^ l) = 1000000 := by
          unfold RR pset
          rw [if_pos e]
          show (if (m - 2 ^ l).testBit i = true then _ else _) = _
          rw [← e, s1]; rfl
        omega
      · have := ih (m - 2 ^ l) s3 (by omega) (by rw [s2 i (fun q => e q.symm)]; exact hb)
        omega
theorem m_layKnit {M : vM} {a La n gl : Nat} {lk : Nat → Nat} (ha : gAt gA a 100 = true ∧ gL gA a = La ∧ La < 2147483648) (hne : a < 199) (hn : n ≤ 8) (hL : 6 * n ≤ La) (hA : rLo M a n lk) (hl : lOK n lk) (hg : ∀ k, k < 6 → M 191 (3 + k) = nI (un gl k)) : wpF F_X11_layKnit [.ref 190, .ref a, .int (nI n)] gA M (fun v G' M' => G' = gA ∧ v = none ∧ (∀ s, s < n → M' 201 s = nO (par lk gl n s)) ∧ ∀ b, b ≠ 199 → b ≠ 200 → b ≠ 201 → M' b = M b) := by
  have h256 : 2 ^ n ≤ 256 := pow_le (n := 8) hn
  have hpos : 0 < 2 ^ n := Nat.two_pow_pos n
  have hbst : bst lk gl n ≤ 336 := sD_free hn hl (by omega)
  have far : ∀ pn, sD 1000000 (RR lk gl n pn) n (2 ^ n - 1) = min (tot lk gl n pn) 1000000 := fun pn => sD_far hn _ (by omega)
  refine run_wp ⟨Nat.le_of_ble_eq_true rfl, rfl⟩ ?_
  simp only [D_X11_layKnit, wp_con, wp_ild0, wp_ald0, wp_ist0, wp_inc0, wp_ild1, wp_ald1, wp_ist1n, wp_inc1n, wp_ist1i, wp_inc1i, wp_ist1r, wp_inc1r, wp_ild2, wp_ald2, wp_ist2n, wp_inc2n, wp_ist2i, wp_inc2i, wp_ist2r, wp_inc2r, wp_ild3, wp_ald3, wp_ist3n, wp_inc3n, wp_ist3i, wp_inc3i, wp_ist3r, wp_inc3r, wp_ild4, wp_ald4, wp_ist4n, wp_inc4n, wp_ist4i, wp_inc4i, wp_ist4r, wp_inc4r, wp_ild5, wp_ald5, wp_ist5n, wp_inc5n, wp_ist5i, wp_inc5i, wp_ist5r, wp_inc5r, wp_ild6, wp_ald6, wp_ist6n, wp_inc6n, wp_ist6i, wp_inc6i, wp_ist6r, wp_inc6r, wp_ild7, wp_ald7, wp_ist7n, wp_inc7n, wp_ist7i, wp_inc7i, wp_ist7r, wp_inc7r, wp_ild8, wp_ald8, wp_ist8n, wp_inc8n, wp_ist8i, wp_inc8i, wp_ist8r, wp_inc8r, wp_ild9, wp_ald9, wp_ist9n, wp_inc9n, wp_ist9i, wp_inc9i, wp_ist9r, wp_inc9r, wp_bin, wp_div, wp_dupi, wp_dupr, wp_dup2, wp_popi, wp_popr, wp_ifeq, wp_ifne, wp_iflt, wp_ifge, wp_ifgt, wp_ifle, wp_iceq, wp_icne, wp_iclt, wp_icge, wp_icgt, wp_icle, wp_jmp, wp_seq, sq_j, sq_r, lq_j, lq_r, eq_r, wp_kil, wp_ret, wp_zret, wp_vret, wp_aret, wp_gfi, wp_gfr, wp_pfi, wp_pfz, wp_ial, wp_ias, wp_aal, wp_gst, wp_sal, wp_min, wp_calV0, wp_calV1, wp_calS1, wp_calV2, wp_calS2, wp_calV3, wp_calS3, wp_calV4, wp_calS4, wp_calV5, wp_calS5, wp_acp, wp_i2l, wp_l2i, wp_lcon, wp_lbin, wp_ldiv, psh_s, psh_n, en, List.map_cons, List.map_nil, List.cons_append, List.nil_append, List.length_cons, List.length_nil, List.replicate_succ, List.replicate_zero, List.zipWith_cons_cons, List.zipWith_nil_left, List.zipWith_nil_right, if_true, if_false, Bool.false_eq_true, Nat.reduceAdd, Nat.reduceSub, Nat.reduceLeDiff, Nat.reduceEqDiff, Nat.reduceMul, true_and, and_true, Option.some.injEq, exists_eq_left', Nat.le_refl, Nat.zero_le, reduceIte, Nat.add_zero, Nat.zero_add, mF]
  refine wpF_mono (m_layLinks ha ⟨by omega, by omega⟩ hn hL hA hg) ?_
  rintro v G' M1 ⟨rfl, rfl, k1, p1, f1⟩
  simp only [wp_con, wp_ild0, wp_ald0, wp_ist0, wp_inc0, wp_ild1, wp_ald1, wp_ist1n, wp_inc1n, wp_ist1i, wp_inc1i, wp_ist1r, wp_inc1r, wp_ild2, wp_ald2, wp_ist2n, wp_inc2n, wp_ist2i, wp_inc2i, wp_ist2r, wp_inc2r, wp_ild3, wp_ald3, wp_ist3n, wp_inc3n, wp_ist3i, wp_inc3i, wp_ist3r, wp_inc3r, wp_ild4, wp_ald4, wp_ist4n, wp_inc4n, wp_ist4i, wp_inc4i, wp_ist4r, wp_inc4r, wp_ild5, wp_ald5, wp_ist5n, wp_inc5n, wp_ist5i, wp_inc5i, wp_ist5r, wp_inc5r, wp_ild6, wp_ald6, wp_ist6n, wp_inc6n, wp_ist6i, wp_inc6i, wp_ist6r, wp_inc6r, wp_ild7, wp_ald7, wp_ist7n, wp_inc7n, wp_ist7i, wp_inc7i, wp_ist7r, wp_inc7r, wp_ild8, wp_ald8, wp_ist8n, wp_inc8n, wp_ist8i, wp_inc8i, wp_ist8r, wp_inc8r, wp_ild9, wp_ald9, wp_ist9n, wp_inc9n, wp_ist9i, wp_inc9i, wp_ist9r, wp_inc9r, wp_bin, wp_div, wp_dupi, wp_dupr, wp_dup2, wp_popi, wp_popr, wp_ifeq, wp_ifne, wp_iflt, wp_ifge, wp_ifgt, wp_ifle, wp_iceq, wp_icne, wp_iclt, wp_icge, wp_icgt, wp_icle, wp_jmp, wp_seq, sq_j, sq_r, lq_j, lq_r, eq_r, wp_kil, wp_ret, wp_zret, wp_vret, wp_aret, wp_gfi, wp_gfr, wp_pfi, wp_pfz, wp_ial, wp_ias, wp_aal, wp_gst, wp_sal, wp_min, wp_calV0, wp_calV1, wp_calS1, wp_calV2, wp_calS2, wp_calV3, wp_calS3, wp_calV4, wp_calS4, wp_calV5, wp_calS5, wp_acp, wp_i2l, wp_l2i, wp_lcon, wp_lbin, wp_ldiv, psh_s, psh_n, en, List.map_cons, List.map_nil, List.cons_append, List.nil_append, List.length_cons, List.length_nil, List.replicate_succ, List.replicate_zero, List.zipWith_cons_cons, List.zipWith_nil_left, List.zipWith_nil_right, if_true, if_false, Bool.false_eq_true, Nat.reduceAdd, Nat.reduceSub, Nat.reduceLeDiff, Nat.reduceEqDiff, Nat.reduceMul, true_and, and_true, Option.some.injEq, exists_eq_left', Nat.le_refl, Nat.zero_le, reduceIte, Nat.add_zero, Nat.zero_add, mF]
  refine wpF_mono (m_grown hn hl k1 p1 (fun _ _ _ h => by cases h)) ?_
  rintro v G' M2 ⟨rfl, rfl, b2, f2⟩
  have e0 : sD 1000000 (RR lk gl n (fun _ => none)) n (2 ^ n - 1) = bst lk gl n := by
    rw [far]
    show min (bst lk gl n) _ = _
    omega
  simp only [wp_con, wp_ild0, wp_ald0, wp_ist0, wp_inc0, wp_ild1, wp_ald1, wp_ist1n, wp_inc1n, wp_ist1i, wp_inc1i, wp_ist1r, wp_inc1r, wp_ild2, wp_ald2, wp_ist2n, wp_inc2n, wp_ist2i, wp_inc2i, wp_ist2r, wp_inc2r, wp_ild3, wp_ald3, wp_ist3n, wp_inc3n, wp_ist3i, wp_inc3i, wp_ist3r, wp_inc3r, wp_ild4, wp_ald4, wp_ist4n, wp_inc4n, wp_ist4i, wp_inc4i, wp_ist4r, wp_inc4r, wp_ild5, wp_ald5, wp_ist5n, wp_inc5n, wp_ist5i, wp_inc5i, wp_ist5r, wp_inc5r, wp_ild6, wp_ald6, wp_ist6n, wp_inc6n, wp_ist6i, wp_inc6i, wp_ist6r, wp_inc6r, wp_ild7, wp_ald7, wp_ist7n, wp_inc7n, wp_ist7i, wp_inc7i, wp_ist7r, wp_inc7r, wp_ild8, wp_ald8, wp_ist8n, wp_inc8n, wp_ist8i, wp_inc8i, wp_ist8r, wp_inc8r, wp_ild9, wp_ald9, wp_ist9n, wp_inc9n, wp_ist9i, wp_inc9i, wp_ist9r, wp_inc9r, wp_bin, wp_div, wp_dupi, wp_dupr, wp_dup2, wp_popi, wp_popr, wp_ifeq, wp_ifne, wp_iflt, wp_ifge, wp_ifgt, wp_ifle, wp_iceq, wp_icne, wp_iclt, wp_icge, wp_icgt, wp_icle, wp_jmp, wp_seq, sq_j, sq_r, lq_j, lq_r, eq_r, wp_kil, wp_ret, wp_zret, wp_vret, wp_aret, wp_gfi, wp_gfr, wp_pfi, wp_pfz, wp_ial, wp_ias, wp_aal, wp_gst, wp_sal, wp_min, wp_calV0, wp_calV1, wp_calS1, wp_calV2, wp_calS2, wp_calV3, wp_calS3, wp_calV4, wp_calS4, wp_calV5, wp_calS5, wp_acp, wp_i2l, wp_l2i, wp_lcon, wp_lbin, wp_ldiv, psh_s, psh_n, en, List.map_cons, List.map_nil, List.cons_append, List.nil_append, List.length_cons, List.length_nil, List.replicate_succ, List.replicate_zero, List.zipWith_cons_cons, List.zipWith_nil_left, List.zipWith_nil_right, if_true, if_false, Bool.false_eq_true, Nat.reduceAdd, Nat.reduceSub, Nat.reduceLeDiff, Nat.reduceEqDiff, Nat.reduceMul, true_and, and_true, Option.some.injEq, exists_eq_left', Nat.le_refl, Nat.zero_le, reduceIte, Nat.add_zero, Nat.zero_add, e0, l_0]
  refine wp_for n (fun i L M' => L = [some (.ref 190), none, some (.int (nI n)), some (.int (nI (bst lk gl n))), some (.int (nI i)), none] ∧ rLn M' n lk gl ∧ rPp M' n (bpn lk gl n (bst lk gl n) i) ∧ ∀ b, b ≠ 199 → b ≠ 200 → b ≠ 201 → M' b = M b) ?_ ?_ 4000 0 _ _ (by omega) (by omega) ⟨rfl, ?_, ?_, fun b b1 b3 b4 => by rw [f2 b b3, f1 b b1 b4]⟩
  · rintro i L M' hi ⟨rfl, q1, q2, q3⟩
    obtain ⟨q, c1, c2, c3, c4, c5⟩ := par_spec (gl := gl) hn hl hi
    have hpy : ∀ j, j ≤ n → ∀ s, s < n → ∀ y, pset (bpn lk gl n (bst lk gl n) i) i (opt j) s = some (some y) → y < 100 := by
      intro j hj s hs y hy
      unfold pset at hy
      by_cases e : s = i
      · rw [if_pos e] at hy
        have : opt j = some y := Option.some.inj hy
        have := opt_lt hj this
        omega
      · rw [if_neg e] at hy
        by_cases e2 : s < i
        · rw [bpn_par i s e2] at hy
          obtain ⟨ρ, hρ⟩ := par_rank (lk := lk) (gl := gl) hn hl
          have : par lk gl n s = some y := Option.some.inj hy
          have := (hρ s hs y this).1
          omega
        · rw [bpn_free i s (by omega)] at hy; cases hy
    simp only [B_X11_layKnit_15, wp_con, wp_ild0, wp_ald0, wp_ist0, wp_inc0, wp_ild1, wp_ald1, wp_ist1n, wp_inc1n, wp_ist1i, wp_inc1i, wp_ist1r, wp_inc1r, wp_ild2, wp_ald2, wp_ist2n, wp_inc2n, wp_ist2i, wp_inc2i, wp_ist2r, wp_inc2r, wp_ild3, wp_ald3, wp_ist3n, wp_inc3n, wp_ist3i, wp_inc3i, wp_ist3r, wp_inc3r, wp_ild4, wp_ald4, wp_ist4n, wp_inc4n, wp_ist4i, wp_inc4i, wp_ist4r, wp_inc4r, wp_ild5, wp_ald5, wp_ist5n, wp_inc5n, wp_ist5i, wp_inc5i, wp_ist5r, wp_inc5r, wp_ild6, wp_ald6, wp_ist6n, wp_inc6n, wp_ist6i, wp_inc6i, wp_ist6r, wp_inc6r, wp_ild7, wp_ald7, wp_ist7n, wp_inc7n, wp_ist7i, wp_inc7i, wp_ist7r, wp_inc7r, wp_ild8, wp_ald8, wp_ist8n, wp_inc8n, wp_ist8i, wp_inc8i, wp_ist8r, wp_inc8r, wp_ild9, wp_ald9, wp_ist9n, wp_inc9n, wp_ist9i, wp_inc9i, wp_ist9r, wp_inc9r, wp_bin, wp_div, wp_dupi, wp_dupr, wp_dup2, wp_popi, wp_popr, wp_ifeq, wp_ifne, wp_iflt, wp_ifge, wp_ifgt, wp_ifle, wp_iceq, wp_icne, wp_iclt, wp_icge, wp_icgt, wp_icle, wp_jmp, wp_seq, sq_j, sq_r, lq_j, lq_r, eq_r, wp_kil, wp_ret, wp_zret, wp_vret, wp_aret, wp_gfi, wp_gfr, wp_pfi, wp_pfz, wp_ial, wp_ias, wp_aal, wp_gst, wp_sal, wp_min, wp_calV0, wp_calV1, wp_calS1, wp_calV2, wp_calS2, wp_calV3, wp_calS3, wp_calV4, wp_calS4, wp_calV5, wp_calS5, wp_acp, wp_i2l, wp_l2i, wp_lcon, wp_lbin, wp_ldiv, psh_s, psh_n, en, List.map_cons, List.map_nil, List.cons_append, List.nil_append, List.length_cons, List.length_nil, List.replicate_succ, List.replicate_zero, List.zipWith_cons_cons, List.zipWith_nil_left, List.zipWith_nil_right, if_true, if_false, Bool.false_eq_true, Nat.reduceAdd, Nat.reduceSub, Nat.reduceLeDiff, Nat.reduceEqDiff, Nat.reduceMul, true_and, and_true, Option.some.injEq, exists_eq_left', Nat.le_refl, Nat.zero_le, reduceIte, Nat.add_zero, Nat.zero_add, mF, N_le (show n < 2147483648 by omega) (show i < 2147483648 by omega), show ¬ n ≤ i by omega, bI_t, bI_f, z10, eq_self, not_true_eq_false, not_false_eq_true, true_implies, false_implies, true_and, and_true, N_cl (show i < 2147483648 by omega), N_in (show i < 8 by omega) (show 8 < 2147483648 by decide)]
    rw [← nT_0]
    have st0 : ∀ (M0 : vM) (j : Nat), rPp M0 n (bpn lk gl n (bst lk gl n) i) ∨ (∃ o, rPp M0 n (pset (bpn lk gl n (bst lk gl n) i) i o)) → rPp (mset M0 201 i (nT j)) n (pset (bpn lk gl n (bst lk gl n) i) i (opt j)) := by
      intro M0 j hj s hs
      by_cases e : s = i
      · rw [e, ms_eq]
        show _ = pc (if i = i then some (opt j) else _)
        rw [if_pos rfl]; rfl
      · rw [ms_k e]
        rcases hj with hj | ⟨o, hj⟩
        · rw [hj s hs]
          show _ = pc (if s = i then _ else _)
          rw [if_neg e]
        · rw [hj s hs]
          show pc (if s = i then _ else _) = pc (if s = i then _ else _)
          rw [if_neg e, if_neg e]
    refine wp_for q (fun j L M3 => L = [some (.ref 190), none, some (.int (nI n)), some (.int (nI (bst lk gl n))), some (.int (nI i)), some (.int (nT j))] ∧ rLn M3 n lk gl ∧ rPp M3 n (pset (bpn lk gl n (bst lk gl n) i) i (opt j)) ∧ ∀ b, b ≠ 199 → b ≠ 200 → b ≠ 201 → M3 b = M b) ?_ ?_ 4000 0 _ _ (by omega) (by omega) ⟨rfl, ?_, st0 M' 0 (.inl q2), fun b b1 b3 b4 => by rw [ms_a b4, q3 b b1 b3 b4]⟩
    · rintro j L M3 hj ⟨rfl, d1, d2, d3⟩
      simp only [B_X11_layKnit_33, wp_con, wp_ild0, wp_ald0, wp_ist0, wp_inc0, wp_ild1, wp_ald1, wp_ist1n, wp_inc1n, wp_ist1i, wp_inc1i, wp_ist1r, wp_inc1r, wp_ild2, wp_ald2, wp_ist2n, wp_inc2n, wp_ist2i, wp_inc2i, wp_ist2r, wp_inc2r, wp_ild3, wp_ald3, wp_ist3n, wp_inc3n, wp_ist3i, wp_inc3i, wp_ist3r, wp_inc3r, wp_ild4, wp_ald4, wp_ist4n, wp_inc4n, wp_ist4i, wp_inc4i, wp_ist4r, wp_inc4r, wp_ild5, wp_ald5, wp_ist5n, wp_inc5n, wp_ist5i, wp_inc5i, wp_ist5r, wp_inc5r, wp_ild6, wp_ald6, wp_ist6n, wp_inc6n, wp_ist6i, wp_inc6i, wp_ist6r, wp_inc6r, wp_ild7, wp_ald7, wp_ist7n, wp_inc7n, wp_ist7i, wp_inc7i, wp_ist7r, wp_inc7r, wp_ild8, wp_ald8, wp_ist8n, wp_inc8n, wp_ist8i, wp_inc8i, wp_ist8r, wp_inc8r, wp_ild9, wp_ald9, wp_ist9n, wp_inc9n, wp_ist9i, wp_inc9i, wp_ist9r, wp_inc9r, wp_bin, wp_div, wp_dupi, wp_dupr, wp_dup2, wp_popi, wp_popr, wp_ifeq, wp_ifne, wp_iflt, wp_ifge, wp_ifgt, wp_ifle, wp_iceq, wp_icne, wp_iclt, wp_icge, wp_icgt, wp_icle, wp_jmp, wp_seq, sq_j, sq_r, lq_j, lq_r, eq_r, wp_kil, wp_ret, wp_zret, wp_vret, wp_aret, wp_gfi, wp_gfr, wp_pfi, wp_pfz, wp_ial, wp_ias, wp_aal, wp_gst, wp_sal, wp_min, wp_calV0, wp_calV1, wp_calS1, wp_calV2, wp_calS2, wp_calV3, wp_calS3, wp_calV4, wp_calS4, wp_calV5, wp_calS5, wp_acp, wp_i2l, wp_l2i, wp_lcon, wp_lbin, wp_ldiv, psh_s, psh_n, en, List.map_cons, List.map_nil, List.cons_append, List.nil_append, List.length_cons, List.length_nil, List.replicate_succ, List.replicate_zero, List.zipWith_cons_cons, List.zipWith_nil_left, List.zipWith_nil_right, if_true, if_false, Bool.false_eq_true, Nat.reduceAdd, Nat.reduceSub, Nat.reduceLeDiff, Nat.reduceEqDiff, Nat.reduceMul, true_and, and_true, Option.some.injEq, exists_eq_left', Nat.le_refl, Nat.zero_le, reduceIte, Nat.add_zero, Nat.zero_add, mF]
      refine wpF_mono (m_grown hn hl d1 d2 (hpy j (by omega))) ?_
      rintro v G' M4 ⟨rfl, rfl, b4, f4⟩
      have ne : tot lk gl n (pset (bpn lk gl n (bst lk gl n) i) i (opt j)) ≠ bst lk gl n := by
        by_cases e : opt j = some i
        · rw [e]
          have : 1000000 ≤ tot lk gl n (pset (bpn lk gl n (bst lk gl n) i) i (some i)) := self_far hn hi (2 ^ n - 1) (by omega) (by rw [Nat.testBit_two_pow_sub_one]; exact decide_eq_true hi)
          omega
        · exact c5 j hj e
      have ne2 : ¬ nI (sD 1000000 (RR lk gl n (pset (bpn lk gl n (bst lk gl n) i) i (opt j))) n (2 ^ n - 1)) = nI (bst lk gl n) := by
        rw [far, N_eq (by omega) (by omega)]
        omega
      have g1 : ¬ nI n ≤ nT j := by rw [nT_ge (by omega) (by omega)]; omega
      simp only [wp_con, wp_ild0, wp_ald0, wp_ist0, wp_inc0, wp_ild1, wp_ald1, wp_ist1n, wp_inc1n, wp_ist1i, wp_inc1i, wp_ist1r, wp_inc1r, wp_ild2, wp_ald2, wp_ist2n, wp_inc2n, wp_ist2i, wp_inc2i, wp_ist2r, wp_inc2r, wp_ild3, wp_ald3, wp_ist3n, wp_inc3n, wp_ist3i, wp_inc3i, wp_ist3r, wp_inc3r, wp_ild4, wp_ald4, wp_ist4n, wp_inc4n, wp_ist4i, wp_inc4i, wp_ist4r, wp_inc4r, wp_ild5, wp_ald5, wp_ist5n, wp_inc5n, wp_ist5i, wp_inc5i, wp_ist5r, wp_inc5r, wp_ild6, wp_ald6, wp_ist6n, wp_inc6n, wp_ist6i, wp_inc6i, wp_ist6r, wp_inc6r, wp_ild7, wp_ald7, wp_ist7n, wp_inc7n, wp_ist7i, wp_inc7i, wp_ist7r, wp_inc7r, wp_ild8, wp_ald8, wp_ist8n, wp_inc8n, wp_ist8i, wp_inc8i, wp_ist8r, wp_inc8r, wp_ild9, wp_ald9, wp_ist9n, wp_inc9n, wp_ist9i, wp_inc9i, wp_ist9r, wp_inc9r, wp_bin, wp_div, wp_dupi, wp_dupr, wp_dup2, wp_popi, wp_popr, wp_ifeq, wp_ifne, wp_iflt, wp_ifge, wp_ifgt, wp_ifle, wp_iceq, wp_icne, wp_iclt, wp_icge, wp_icgt, wp_icle, wp_jmp, wp_seq, sq_j, sq_r, lq_j, lq_r, eq_r, wp_kil, wp_ret, wp_zret, wp_vret, wp_aret, wp_gfi, wp_gfr, wp_pfi, wp_pfz, wp_ial, wp_ias, wp_aal, wp_gst, wp_sal, wp_min, wp_calV0, wp_calV1, wp_calS1, wp_calV2, wp_calS2, wp_calV3, wp_calS3, wp_calV4, wp_calS4, wp_calV5, wp_calS5, wp_acp, wp_i2l, wp_l2i, wp_lcon, wp_lbin, wp_ldiv, psh_s, psh_n, en, List.map_cons, List.map_nil, List.cons_append, List.nil_append, List.length_cons, List.length_nil, List.replicate_succ, List.replicate_zero, List.zipWith_cons_cons, List.zipWith_nil_left, List.zipWith_nil_right, if_true, if_false, Bool.false_eq_true, Nat.reduceAdd, Nat.reduceSub, Nat.reduceLeDiff, Nat.reduceEqDiff, Nat.reduceMul, true_and, and_true, Option.some.injEq, exists_eq_left', Nat.le_refl, Nat.zero_le, reduceIte, Nat.add_zero, Nat.zero_add, mF, ne2, g1, bI_t, bI_f, z10, eq_self, not_true_eq_false, not_false_eq_true, true_implies, false_implies, true_and, and_true, nT_inc, N_cl (show i < 2147483648 by omega), N_in (show i < 8 by omega) (show 8 < 2147483648 by decide)]
      have st := st0 M4 (j + 1) (.inr ⟨opt j, by unfold rPp; rw [f4 201 (by decide)]; exact d2⟩)
      rw [nT_s] at st
      refine ⟨rfl, ?_, st, fun b b1 b3 b5 => by rw [ms_a b5, f4 b b3, d3 b b1 b3 b5]⟩
      unfold rLn
      rw [ms_a (by decide), f4 199 (by decide)]
      exact d1
    · rintro L M3 ⟨rfl, d1, d2, d3⟩
      simp only [B_X11_layKnit_33, wp_con, wp_ild0, wp_ald0, wp_ist0, wp_inc0, wp_ild1, wp_ald1, wp_ist1n, wp_inc1n, wp_ist1i, wp_inc1i, wp_ist1r, wp_inc1r, wp_ild2, wp_ald2, wp_ist2n, wp_inc2n, wp_ist2i, wp_inc2i, wp_ist2r, wp_inc2r, wp_ild3, wp_ald3, wp_ist3n, wp_inc3n, wp_ist3i, wp_inc3i, wp_ist3r, wp_inc3r, wp_ild4, wp_ald4, wp_ist4n, wp_inc4n, wp_ist4i, wp_inc4i, wp_ist4r, wp_inc4r, wp_ild5, wp_ald5, wp_ist5n, wp_inc5n, wp_ist5i, wp_inc5i, wp_ist5r, wp_inc5r, wp_ild6, wp_ald6, wp_ist6n, wp_inc6n, wp_ist6i, wp_inc6i, wp_ist6r, wp_inc6r, wp_ild7, wp_ald7, wp_ist7n, wp_inc7n, wp_ist7i, wp_inc7i, wp_ist7r, wp_inc7r, wp_ild8, wp_ald8, wp_ist8n, wp_inc8n, wp_ist8i, wp_inc8i, wp_ist8r, wp_inc8r, wp_ild9, wp_ald9, wp_ist9n, wp_inc9n, wp_ist9i, wp_inc9i, wp_ist9r, wp_inc9r, wp_bin, wp_div, wp_dupi, wp_dupr, wp_dup2, wp_popi, wp_popr, wp_ifeq, wp_ifne, wp_iflt, wp_ifge, wp_ifgt, wp_ifle, wp_iceq, wp_icne, wp_iclt, wp_icge, wp_icgt, wp_icle, wp_jmp, wp_seq, sq_j, sq_r, lq_j, lq_r, eq_r, wp_kil, wp_ret, wp_zret, wp_vret, wp_aret, wp_gfi, wp_gfr, wp_pfi, wp_pfz, wp_ial, wp_ias, wp_aal, wp_gst, wp_sal, wp_min, wp_calV0, wp_calV1, wp_calS1, wp_calV2, wp_calS2, wp_calV3, wp_calS3, wp_calV4, wp_calS4, wp_calV5, wp_calS5, wp_acp, wp_i2l, wp_l2i, wp_lcon, wp_lbin, wp_ldiv, psh_s, psh_n, en, List.map_cons, List.map_nil, List.cons_append, List.nil_append, List.length_cons, List.length_nil, List.replicate_succ, List.replicate_zero, List.zipWith_cons_cons, List.zipWith_nil_left, List.zipWith_nil_right, if_true, if_false, Bool.false_eq_true, Nat.reduceAdd, Nat.reduceSub, Nat.reduceLeDiff, Nat.reduceEqDiff, Nat.reduceMul, true_and, and_true, Option.some.injEq, exists_eq_left', Nat.le_refl, Nat.zero_le, reduceIte, Nat.add_zero, Nat.zero_add, mF]
      refine wpF_mono (m_grown hn hl d1 d2 (hpy q c1)) ?_
      rintro v G' M4 ⟨rfl, rfl, b4, f4⟩
      have eq2 : nI (sD 1000000 (RR lk gl n (pset (bpn lk gl n (bst lk gl n) i) i (opt q))) n (2 ^ n - 1)) = nI (bst lk gl n) := by
        rw [far, c4]
        congr 1
        omega
      simp only [K_X11_layKnit_63, wp_con, wp_ild0, wp_ald0, wp_ist0, wp_inc0, wp_ild1, wp_ald1, wp_ist1n, wp_inc1n, wp_ist1i, wp_inc1i, wp_ist1r, wp_inc1r, wp_ild2, wp_ald2, wp_ist2n, wp_inc2n, wp_ist2i, wp_inc2i, wp_ist2r, wp_inc2r, wp_ild3, wp_ald3, wp_ist3n, wp_inc3n, wp_ist3i, wp_inc3i, wp_ist3r, wp_inc3r, wp_ild4, wp_ald4, wp_ist4n, wp_inc4n, wp_ist4i, wp_inc4i, wp_ist4r, wp_inc4r, wp_ild5, wp_ald5, wp_ist5n, wp_inc5n, wp_ist5i, wp_inc5i, wp_ist5r, wp_inc5r, wp_ild6, wp_ald6, wp_ist6n, wp_inc6n, wp_ist6i, wp_inc6i, wp_ist6r, wp_inc6r, wp_ild7, wp_ald7, wp_ist7n, wp_inc7n, wp_ist7i, wp_inc7i, wp_ist7r, wp_inc7r, wp_ild8, wp_ald8, wp_ist8n, wp_inc8n, wp_ist8i, wp_inc8i, wp_ist8r, wp_inc8r, wp_ild9, wp_ald9, wp_ist9n, wp_inc9n, wp_ist9i, wp_inc9i, wp_ist9r, wp_inc9r, wp_bin, wp_div, wp_dupi, wp_dupr, wp_dup2, wp_popi, wp_popr, wp_ifeq, wp_ifne, wp_iflt, wp_ifge, wp_ifgt, wp_ifle, wp_iceq, wp_icne, wp_iclt, wp_icge, wp_icgt, wp_icle, wp_jmp, wp_seq, sq_j, sq_r, lq_j, lq_r, eq_r, wp_kil, wp_ret, wp_zret, wp_vret, wp_aret, wp_gfi, wp_gfr, wp_pfi, wp_pfz, wp_ial, wp_ias, wp_aal, wp_gst, wp_sal, wp_min, wp_calV0, wp_calV1, wp_calS1, wp_calV2, wp_calS2, wp_calV3, wp_calS3, wp_calV4, wp_calS4, wp_calV5, wp_calS5, wp_acp, wp_i2l, wp_l2i, wp_lcon, wp_lbin, wp_ldiv, psh_s, psh_n, en, List.map_cons, List.map_nil, List.cons_append, List.nil_append, List.length_cons, List.length_nil, List.replicate_succ, List.replicate_zero, List.zipWith_cons_cons, List.zipWith_nil_left, List.zipWith_nil_right, if_true, if_false, Bool.false_eq_true, Nat.reduceAdd, Nat.reduceSub, Nat.reduceLeDiff, Nat.reduceEqDiff, Nat.reduceMul, true_and, and_true, Option.some.injEq, exists_eq_left', Nat.le_refl, Nat.zero_le, reduceIte, Nat.add_zero, Nat.zero_add, mF, eq2, bI_t, bI_f, z10, eq_self, not_true_eq_false, not_false_eq_true, true_implies, false_implies, true_and, and_true, N_s]
      refine ⟨by unfold rLn; rw [f4 199 (by decide)]; exact d1, fun s hs => ?_, fun b b1 b3 b5 => by rw [f4 b b3, d3 b b1 b3 b5]⟩
      rw [f4 201 (by decide), d2 s hs]
      unfold pset
      by_cases e : s = i
      · rw [if_pos e, e, bpn_par (i + 1) i (by omega), c2]
      · rw [if_neg e]
        by_cases e2 : s < i
        · rw [bpn_par i s e2, bpn_par (i + 1) s (by omega)]
        · rw [bpn_free i s (by omega), bpn_free (i + 1) s (by omega)]
    · unfold rLn
      rw [ms_a (by decide)]
      exact q1
  · rintro L M' ⟨rfl, q1, q2, q3⟩
    simp only [B_X11_layKnit_15, K_X11_layKnit_69, wp_con, wp_ild0, wp_ald0, wp_ist0, wp_inc0, wp_ild1, wp_ald1, wp_ist1n, wp_inc1n, wp_ist1i, wp_inc1i, wp_ist1r, wp_inc1r, wp_ild2, wp_ald2, wp_ist2n, wp_inc2n, wp_ist2i, wp_inc2i, wp_ist2r, wp_inc2r, wp_ild3, wp_ald3, wp_ist3n, wp_inc3n, wp_ist3i, wp_inc3i, wp_ist3r, wp_inc3r, wp_ild4, wp_ald4, wp_ist4n, wp_inc4n, wp_ist4i, wp_inc4i, wp_ist4r, wp_inc4r, wp_ild5, wp_ald5, wp_ist5n, wp_inc5n, wp_ist5i, wp_inc5i, wp_ist5r, wp_inc5r, wp_ild6, wp_ald6, wp_ist6n, wp_inc6n, wp_ist6i, wp_inc6i, wp_ist6r, wp_inc6r, wp_ild7, wp_ald7, wp_ist7n, wp_inc7n, wp_ist7i, wp_inc7i, wp_ist7r, wp_inc7r, wp_ild8, wp_ald8, wp_ist8n, wp_inc8n, wp_ist8i, wp_inc8i, wp_ist8r, wp_inc8r, wp_ild9, wp_ald9, wp_ist9n, wp_inc9n, wp_ist9i, wp_inc9i, wp_ist9r, wp_inc9r, wp_bin, wp_div, wp_dupi, wp_dupr, wp_dup2, wp_popi, wp_popr, wp_ifeq, wp_ifne, wp_iflt, wp_ifge, wp_ifgt, wp_ifle, wp_iceq, wp_icne, wp_iclt, wp_icge, wp_icgt, wp_icle, wp_jmp, wp_seq, sq_j, sq_r, lq_j, lq_r, eq_r, wp_kil, wp_ret, wp_zret, wp_vret, wp_aret, wp_gfi, wp_gfr, wp_pfi, wp_pfz, wp_ial, wp_ias, wp_aal, wp_gst, wp_sal, wp_min, wp_calV0, wp_calV1, wp_calS1, wp_calV2, wp_calS2, wp_calV3, wp_calS3, wp_calV4, wp_calS4, wp_calV5, wp_calS5, wp_acp, wp_i2l, wp_l2i, wp_lcon, wp_lbin, wp_ldiv, psh_s, psh_n, en, List.map_cons, List.map_nil, List.cons_append, List.nil_append, List.length_cons, List.length_nil, List.replicate_succ, List.replicate_zero, List.zipWith_cons_cons, List.zipWith_nil_left, List.zipWith_nil_right, if_true, if_false, Bool.false_eq_true, Nat.reduceAdd, Nat.reduceSub, Nat.reduceLeDiff, Nat.reduceEqDiff, Nat.reduceMul, true_and, and_true, Option.some.injEq, exists_eq_left', Nat.le_refl, Nat.zero_le, reduceIte, Nat.add_zero, Nat.zero_add, N_le (show n < 2147483648 by omega) (show n < 2147483648 by omega), Nat.le_refl, bI_t, bI_f, z10, eq_self, not_true_eq_false, not_false_eq_true, true_implies, false_implies, true_and, and_true]
    refine ⟨fun s hs => ?_, q3⟩
    rw [q2 s hs, bpn_par n s hs]
    rfl
  · unfold rLn
    rw [f2 199 (by decide)]
    exact k1
  · intro s hs
    rw [f2 201 (by decide), p1 s hs, bpn_free 0 s (by omega)]
