/-! ===== what a look costs by a set of others; the class' Reach and the sums ===== -/
def rc (lk : Nat → Nat) (gl link i : Nat) : Nat → Nat → Nat
  | 0, _ => ap (lk i) gl
  | n + 1, set => if set.testBit n then min (rc lk gl link i n set) (link + ap (lk i) (lk n)) else rc lk gl link i n set
theorem rc_low {lk : Nat → Nat} {gl link i : Nat} : ∀ n a b, (∀ j, j < n → a.testBit j = b.testBit j) → rc lk gl link i n a = rc lk gl link i n b
  | 0, _, _, _ => rfl
  | n + 1, a, b, h => by simp only [rc, rc_low n a b (fun j hj => h j (by omega)), h n (by omega)]
theorem rc_le {lk : Nat → Nat} {gl link i : Nat} (h : ∀ k, k < 6 → un (lk i) k ≤ top k) : ∀ n a, rc lk gl link i n a ≤ 42
  | 0, _ => ap_le _ _ h
  | n + 1, a => by
    have := rc_le (lk := lk) (gl := gl) (link := link) h n a
    simp only [rc]
    split <;> omega
def isC (r : Nat) : Prop := gAt gA r 6 = true ∧ gR gA r 0 = some (r + 1) ∧ gAt gA (r + 1) 103 = true ∧ gL gA (r + 1) = 8 ∧ ∀ i, i < 8 → gR gA (r + 1) i = some (r + 2 + i) ∧ gAt gA (r + 2 + i) 100 = true ∧ gL gA (r + 2 + i) = 256
theorem isC150 : isC 150 := by unfold isC; decide +kernel
theorem isC162 : isC 162 := by unfold isC; decide +kernel
theorem N_min {a b : Nat} (ha : a < 2147483648) (hb : b < 2147483648) : (if nI b < nI a then nI b else nI a) = nI (min a b) := by
  by_cases h : b < a
  · rw [if_pos ((N_lt hb ha).mpr h), Nat.min_eq_right (by omega)]
  · rw [if_neg (fun q => h ((N_lt hb ha).mp q)), Nat.min_eq_left (by omega)]
theorem pow_le {j n : Nat} (h : j ≤ n) : 2 ^ j ≤ 2 ^ n := Nat.pow_le_pow_right (by decide) h
theorem v_fill {r la : Nat} (hr : isC r) (hla : gAt gA la 100 = true ∧ gL gA la = 8) {i n gl link : Nat} (hi : i < n) (hn : n ≤ 8) (hgl : gl < 16777216) (hlink : link ≤ 2) (hne : la ≠ r + 2 + i) {lk : Nat → Nat} (hlk : ∀ j, j < n → lk j < 16777216) (hu : ∀ k, k < 6 → un (lk i) k ≤ top k) {M : vM} (hM : ∀ j, j < n → M la j = nI (lk j)) : wpF F_X6_fill [.ref r, .int (nI i), .ref la, .int (nI n), .int (nI gl), .int (nI link)] gA M (fun v G' M' => G' = gA ∧ v = none ∧ (∀ s, s < 2 ^ n → M' (r + 2 + i) s = nI (rc lk gl link i n s)) ∧ ∀ a, a ≠ r + 2 + i → M' a = M a) := by
  obtain ⟨r0, r1, r2, r3, r4⟩ := hr
  obtain ⟨r5, r6, r7⟩ := r4 i (by omega)
  have h256 : 2 ^ n ≤ 256 := pow_le (n := 8) hn
  refine run_wp ⟨Nat.le_of_ble_eq_true rfl, rfl⟩ ?_
  have z0 : (0 : Int32).toNatClampNeg = 0 := by decide
  simp only [D_X6_fill, wp_con, wp_ild0, wp_ald0, wp_ist0, wp_inc0, wp_ild1, wp_ald1, wp_ist1n, wp_inc1n, wp_ist1i, wp_inc1i, wp_ist1r, wp_inc1r, wp_ild2, wp_ald2, wp_ist2n, wp_inc2n, wp_ist2i, wp_inc2i, wp_ist2r, wp_inc2r, wp_ild3, wp_ald3, wp_ist3n, wp_inc3n, wp_ist3i, wp_inc3i, wp_ist3r, wp_inc3r, wp_ild4, wp_ald4, wp_ist4n, wp_inc4n, wp_ist4i, wp_inc4i, wp_ist4r, wp_inc4r, wp_ild5, wp_ald5, wp_ist5n, wp_inc5n, wp_ist5i, wp_inc5i, wp_ist5r, wp_inc5r, wp_ild6, wp_ald6, wp_ist6n, wp_inc6n, wp_ist6i, wp_inc6i, wp_ist6r, wp_inc6r, wp_ild7, wp_ald7, wp_ist7n, wp_inc7n, wp_ist7i, wp_inc7i, wp_ist7r, wp_inc7r, wp_ild8, wp_ald8, wp_ist8n, wp_inc8n, wp_ist8i, wp_inc8i, wp_ist8r, wp_inc8r, wp_ild9, wp_ald9, wp_ist9n, wp_inc9n, wp_ist9i, wp_inc9i, wp_ist9r, wp_inc9r, wp_bin, wp_div, wp_dupi, wp_dupr, wp_dup2, wp_popi, wp_popr, wp_ifeq, wp_ifne, wp_iflt, wp_ifge, wp_ifgt, wp_ifle, wp_iceq, wp_icne, wp_iclt, wp_icge, wp_icgt, wp_icle, wp_jmp, wp_seq, sq_j, sq_r, lq_j, lq_r, eq_r, wp_kil, wp_ret, wp_zret, wp_vret, wp_aret, wp_gfi, wp_gfr, wp_pfi, wp_pfz, wp_ial, wp_ias, wp_aal, wp_gst, wp_sal, wp_min, wp_calV0, wp_calV1, wp_calS1, wp_calV2, wp_calS2, wp_calV3, wp_calS3, wp_calV4, wp_calS4, wp_calV5, wp_calS5, wp_acp, wp_i2l, wp_l2i, wp_lcon, wp_lbin, wp_ldiv, psh_s, psh_n, en, List.map_cons, List.map_nil, List.cons_append, List.nil_append, List.length_cons, List.length_nil, List.replicate_succ, List.replicate_zero, List.zipWith_cons_cons, List.zipWith_nil_left, List.zipWith_nil_right, if_true, if_false, Bool.false_eq_true, Nat.reduceAdd, Nat.reduceSub, Nat.reduceLeDiff, Nat.reduceEqDiff, Nat.reduceMul, true_and, and_true, Option.some.injEq, exists_eq_left', Nat.le_refl, Nat.zero_le, reduceIte, Nat.add_zero, Nat.zero_add, r0, r1, r2, r3, r5, r6, r7, hla.1, hla.2, N_cl (show i < 2147483648 by omega), N_in (show i < 8 by omega) (by decide), hM i hi, wpF_eq (v_bitsApart (show lk i < 2147483648 by have := hlk i hi; omega) (show gl < 2147483648 by omega) M), z0]
  refine ⟨by decide, ?_⟩
  simp only [l_0]
  refine wp_for n (fun j L M' => L = [some (.ref r), some (.int (nI i)), some (.ref la), some (.int (nI n)), none, some (.int (nI link)), some (.int (nI j)), none, none, none] ∧ (∀ s, s < 2 ^ j → M' (r + 2 + i) s = nI (rc lk gl link i j s)) ∧ ∀ a, a ≠ r + 2 + i → M' a = M a) ?_ ?_ 4000 0 _ _ (by omega) (by omega) ⟨rfl, fun s hs => ?_, fun a ha => ms_a ha⟩
  · rintro j L M' hj ⟨rfl, e1, e2⟩
    have hp1 : 2 ^ j < 256 := Nat.lt_of_lt_of_le (Nat.pow_lt_pow_right (by decide) hj) h256
    have hc : link + ap (lk i) (lk j) ≤ 44 := by have := ap_le (lk i) (lk j) hu; omega
    simp only [B_X6_fill_19, wp_con, wp_ild0, wp_ald0, wp_ist0, wp_inc0, wp_ild1, wp_ald1, wp_ist1n, wp_inc1n, wp_ist1i, wp_inc1i, wp_ist1r, wp_inc1r, wp_ild2, wp_ald2, wp_ist2n, wp_inc2n, wp_ist2i, wp_inc2i, wp_ist2r, wp_inc2r, wp_ild3, wp_ald3, wp_ist3n, wp_inc3n, wp_ist3i, wp_inc3i, wp_ist3r, wp_inc3r, wp_ild4, wp_ald4, wp_ist4n, wp_inc4n, wp_ist4i, wp_inc4i, wp_ist4r, wp_inc4r, wp_ild5, wp_ald5, wp_ist5n, wp_inc5n, wp_ist5i, wp_inc5i, wp_ist5r, wp_inc5r, wp_ild6, wp_ald6, wp_ist6n, wp_inc6n, wp_ist6i, wp_inc6i, wp_ist6r, wp_inc6r, wp_ild7, wp_ald7, wp_ist7n, wp_inc7n, wp_ist7i, wp_inc7i, wp_ist7r, wp_inc7r, wp_ild8, wp_ald8, wp_ist8n, wp_inc8n, wp_ist8i, wp_inc8i, wp_ist8r, wp_inc8r, wp_ild9, wp_ald9, wp_ist9n, wp_inc9n, wp_ist9i, wp_inc9i, wp_ist9r, wp_inc9r, wp_bin, wp_div, wp_dupi, wp_dupr, wp_dup2, wp_popi, wp_popr, wp_ifeq, wp_ifne, wp_iflt, wp_ifge, wp_ifgt, wp_ifle, wp_iceq, wp_icne, wp_iclt, wp_icge, wp_icgt, wp_icle, wp_jmp, wp_seq, sq_j, sq_r, lq_j, lq_r, eq_r, wp_kil, wp_ret, wp_zret, wp_vret, wp_aret, wp_gfi, wp_gfr, wp_pfi, wp_pfz, wp_ial, wp_ias, wp_aal, wp_gst, wp_sal, wp_min, wp_calV0, wp_calV1, wp_calS1, wp_calV2, wp_calS2, wp_calV3, wp_calS3, wp_calV4, wp_calS4, wp_calV5, wp_calS5, wp_acp, wp_i2l, wp_l2i, wp_lcon, wp_lbin, wp_ldiv, psh_s, psh_n, en, List.map_cons, List.map_nil, List.cons_append, List.nil_append, List.length_cons, List.length_nil, List.replicate_succ, List.replicate_zero, List.zipWith_cons_cons, List.zipWith_nil_left, List.zipWith_nil_right, if_true, if_false, Bool.false_eq_true, Nat.reduceAdd, Nat.reduceSub, Nat.reduceLeDiff, Nat.reduceEqDiff, Nat.reduceMul, true_and, and_true, Option.some.injEq, exists_eq_left', Nat.le_refl, Nat.zero_le, reduceIte, Nat.add_zero, Nat.zero_add, N_s, hla.1, hla.2, e2 la hne, N_le (show n < 2147483648 by omega) (show j < 2147483648 by omega), N_cl (show i < 2147483648 by omega), N_cl (show j < 2147483648 by omega), N_in (show i < 8 by omega) (by decide), N_in (show j < 8 by omega) (by decide), hM i hi, hM j hj, wpF_eq (v_bitsApart (show lk i < 2147483648 by have := hlk i hi; omega) (show lk j < 2147483648 by have := hlk j hj; omega) M'), f_add, N_add, f_shl, one_shl j (by omega)]
    refine ⟨fun h => absurd h (by omega), fun _ => ?_⟩
    simp only [l_0]
    refine wp_for (2 ^ j) (fun q L M2 => L = [some (.ref r), some (.int (nI i)), some (.ref la), some (.int (nI n)), none, some (.int (nI link)), some (.int (nI j)), some (.int (nI (link + ap (lk i) (lk j)))), some (.int (nI (2 ^ j))), some (.int (nI q))] ∧ (∀ s, s < 2 ^ j → M2 (r + 2 + i) s = nI (rc lk gl link i j s)) ∧ (∀ s, s < q → M2 (r + 2 + i) (2 ^ j + s) = nI (min (rc lk gl link i j s) (link + ap (lk i) (lk j)))) ∧ ∀ a, a ≠ r + 2 + i → M2 a = M a) ?_ ?_ 4000 0 _ _ (Nat.zero_le _) (by omega) ⟨rfl, e1, fun s hs => absurd hs (Nat.not_lt_zero s), e2⟩
    · rintro q L M2 hq ⟨rfl, d1, d2, d3⟩
      have hrc := rc_le (lk := lk) (gl := gl) (link := link) hu j q
      have hor : nI (2 ^ j) ||| nI q = nI (2 ^ j + q) := or_add (m := j) (x := 1) (by omega) hq
      simp only [B_X6_fill_49, wp_con, wp_ild0, wp_ald0, wp_ist0, wp_inc0, wp_ild1, wp_ald1, wp_ist1n, wp_inc1n, wp_ist1i, wp_inc1i, wp_ist1r, wp_inc1r, wp_ild2, wp_ald2, wp_ist2n, wp_inc2n, wp_ist2i, wp_inc2i, wp_ist2r, wp_inc2r, wp_ild3, wp_ald3, wp_ist3n, wp_inc3n, wp_ist3i, wp_inc3i, wp_ist3r, wp_inc3r, wp_ild4, wp_ald4, wp_ist4n, wp_inc4n, wp_ist4i, wp_inc4i, wp_ist4r, wp_inc4r, wp_ild5, wp_ald5, wp_ist5n, wp_inc5n, wp_ist5i, wp_inc5i, wp_ist5r, wp_inc5r, wp_ild6, wp_ald6, wp_ist6n, wp_inc6n, wp_ist6i, wp_inc6i, wp_ist6r, wp_inc6r, wp_ild7, wp_ald7, wp_ist7n, wp_inc7n, wp_ist7i, wp_inc7i, wp_ist7r, wp_inc7r, wp_ild8, wp_ald8, wp_ist8n, wp_inc8n, wp_ist8i, wp_inc8i, wp_ist8r, wp_inc8r, wp_ild9, wp_ald9, wp_ist9n, wp_inc9n, wp_ist9i, wp_inc9i, wp_ist9r, wp_inc9r, wp_bin, wp_div, wp_dupi, wp_dupr, wp_dup2, wp_popi, wp_popr, wp_ifeq, wp_ifne, wp_iflt, wp_ifge, wp_ifgt, wp_ifle, wp_iceq, wp_icne, wp_iclt, wp_icge, wp_icgt, wp_icle, wp_jmp, wp_seq, sq_j, sq_r, lq_j, lq_r, eq_r, wp_kil, wp_ret, wp_zret, wp_vret, wp_aret, wp_gfi, wp_gfr, wp_pfi, wp_pfz, wp_ial, wp_ias, wp_aal, wp_gst, wp_sal, wp_min, wp_calV0, wp_calV1, wp_calS1, wp_calV2, wp_calS2, wp_calV3, wp_calS3, wp_calV4, wp_calS4, wp_calV5, wp_calS5, wp_acp, wp_i2l, wp_l2i, wp_lcon, wp_lbin, wp_ldiv, psh_s, psh_n, en, List.map_cons, List.map_nil, List.cons_append, List.nil_append, List.length_cons, List.length_nil, List.replicate_succ, List.replicate_zero, List.zipWith_cons_cons, List.zipWith_nil_left, List.zipWith_nil_right, if_true, if_false, Bool.false_eq_true, Nat.reduceAdd, Nat.reduceSub, Nat.reduceLeDiff, Nat.reduceEqDiff, Nat.reduceMul, true_and, and_true, Option.some.injEq, exists_eq_left', Nat.le_refl, Nat.zero_le, reduceIte, Nat.add_zero, Nat.zero_add, N_s, r0, r1, r2, r3, r5, r6, r7, N_le (show 2 ^ j < 2147483648 by omega) (show q < 2147483648 by omega), f_or, hor, N_cl (show i < 2147483648 by omega), N_in (show i < 8 by omega) (by decide), N_cl (show q < 2147483648 by omega), N_in (show q < 256 by omega) (by decide), d1 q hq, N_min (show rc lk gl link i j q < 2147483648 by omega) (show link + ap (lk i) (lk j) < 2147483648 by omega), N_cl (show 2 ^ j + q < 2147483648 by omega)]
      refine ⟨fun h => absurd h (by omega), fun _ => ⟨N_in (show 2 ^ j + q < 256 by have := pow_le (j := j + 1) (n := 8) (by omega); rw [Nat.pow_succ] at this; omega) (by decide), ?_, ?_, ?_⟩⟩
      · intro s hs
        rw [ms_k (by omega), d1 s hs]
      · intro s hs
        by_cases e : s = q
        · rw [e, ms_eq]
        · rw [ms_k (by omega), d2 s (by omega)]
      · intro a ha
        rw [ms_a ha, d3 a ha]
    · rintro L M2 ⟨rfl, d1, d2, d3⟩
      simp only [B_X6_fill_49, K_X6_fill_88, wp_con, wp_ild0, wp_ald0, wp_ist0, wp_inc0, wp_ild1, wp_ald1, wp_ist1n, wp_inc1n, wp_ist1i, wp_inc1i, wp_ist1r, wp_inc1r, wp_ild2, wp_ald2, wp_ist2n, wp_inc2n, wp_ist2i, wp_inc2i, wp_ist2r, wp_inc2r, wp_ild3, wp_ald3, wp_ist3n, wp_inc3n, wp_ist3i, wp_inc3i, wp_ist3r, wp_inc3r, wp_ild4, wp_ald4, wp_ist4n, wp_inc4n, wp_ist4i, wp_inc4i, wp_ist4r, wp_inc4r, wp_ild5, wp_ald5, wp_ist5n, wp_inc5n, wp_ist5i, wp_inc5i, wp_ist5r, wp_inc5r, wp_ild6, wp_ald6, wp_ist6n, wp_inc6n, wp_ist6i, wp_inc6i, wp_ist6r, wp_inc6r, wp_ild7, wp_ald7, wp_ist7n, wp_inc7n, wp_ist7i, wp_inc7i, wp_ist7r, wp_inc7r, wp_ild8, wp_ald8, wp_ist8n, wp_inc8n, wp_ist8i, wp_inc8i, wp_ist8r, wp_inc8r, wp_ild9, wp_ald9, wp_ist9n, wp_inc9n, wp_ist9i, wp_inc9i, wp_ist9r, wp_inc9r, wp_bin, wp_div, wp_dupi, wp_dupr, wp_dup2, wp_popi, wp_popr, wp_ifeq, wp_ifne, wp_iflt, wp_ifge, wp_ifgt, wp_ifle, wp_iceq, wp_icne, wp_iclt, wp_icge, wp_icgt, wp_icle, wp_jmp, wp_seq, sq_j, sq_r, lq_j, lq_r, eq_r, wp_kil, wp_ret, wp_zret, wp_vret, wp_aret, wp_gfi, wp_gfr, wp_pfi, wp_pfz, wp_ial, wp_ias, wp_aal, wp_gst, wp_sal, wp_min, wp_calV0, wp_calV1, wp_calS1, wp_calV2, wp_calS2, wp_calV3, wp_calS3, wp_calV4, wp_calS4, wp_calV5, wp_calS5, wp_acp, wp_i2l, wp_l2i, wp_lcon, wp_lbin, wp_ldiv, psh_s, psh_n, en, List.map_cons, List.map_nil, List.cons_append, List.nil_append, List.length_cons, List.length_nil, List.replicate_succ, List.replicate_zero, List.zipWith_cons_cons, List.zipWith_nil_left, List.zipWith_nil_right, if_true, if_false, Bool.false_eq_true, Nat.reduceAdd, Nat.reduceSub, Nat.reduceLeDiff, Nat.reduceEqDiff, Nat.reduceMul, true_and, and_true, Option.some.injEq, exists_eq_left', Nat.le_refl, Nat.zero_le, reduceIte, Nat.add_zero, Nat.zero_add, N_s, N_le (show 2 ^ j < 2147483648 by omega) (show 2 ^ j < 2147483648 by omega)]
      refine ⟨fun _ => ⟨fun s hs => ?_, d3⟩, fun h => absurd trivial h⟩
      rw [Nat.pow_succ] at hs
      by_cases hlt : s < 2 ^ j
      · rw [d1 s hlt]
        simp only [rc]
        rw [if_neg (by rw [Nat.testBit_lt_two_pow hlt]; decide)]
      · have e : s = 2 ^ j + (s - 2 ^ j) := by omega
        rw [e, d2 (s - 2 ^ j) (by omega)]
        have t1 : (2 ^ j + (s - 2 ^ j)).testBit j = true := by
          rw [Nat.testBit_two_pow_add_eq, Nat.testBit_lt_two_pow (by omega)]
          rfl
        simp only [rc]
        rw [if_pos t1, rc_low j (2 ^ j + (s - 2 ^ j)) (s - 2 ^ j) (fun b hb => Nat.testBit_two_pow_add_gt hb _)]
  · rintro L M' ⟨rfl, e1, e2⟩
    simp only [B_X6_fill_19, K_X6_fill_94, wp_con, wp_ild0, wp_ald0, wp_ist0, wp_inc0, wp_ild1, wp_ald1, wp_ist1n, wp_inc1n, wp_ist1i, wp_inc1i, wp_ist1r, wp_inc1r, wp_ild2, wp_ald2, wp_ist2n, wp_inc2n, wp_ist2i, wp_inc2i, wp_ist2r, wp_inc2r, wp_ild3, wp_ald3, wp_ist3n, wp_inc3n, wp_ist3i, wp_inc3i, wp_ist3r, wp_inc3r, wp_ild4, wp_ald4, wp_ist4n, wp_inc4n, wp_ist4i, wp_inc4i, wp_ist4r, wp_inc4r, wp_ild5, wp_ald5, wp_ist5n, wp_inc5n, wp_ist5i, wp_inc5i, wp_ist5r, wp_inc5r, wp_ild6, wp_ald6, wp_ist6n, wp_inc6n, wp_ist6i, wp_inc6i, wp_ist6r, wp_inc6r, wp_ild7, wp_ald7, wp_ist7n, wp_inc7n, wp_ist7i, wp_inc7i, wp_ist7r, wp_inc7r, wp_ild8, wp_ald8, wp_ist8n, wp_inc8n, wp_ist8i, wp_inc8i, wp_ist8r, wp_inc8r, wp_ild9, wp_ald9, wp_ist9n, wp_inc9n, wp_ist9i, wp_inc9i, wp_ist9r, wp_inc9r, wp_bin, wp_div, wp_dupi, wp_dupr, wp_dup2, wp_popi, wp_popr, wp_ifeq, wp_ifne, wp_iflt, wp_ifge, wp_ifgt, wp_ifle, wp_iceq, wp_icne, wp_iclt, wp_icge, wp_icgt, wp_icle, wp_jmp, wp_seq, sq_j, sq_r, lq_j, lq_r, eq_r, wp_kil, wp_ret, wp_zret, wp_vret, wp_aret, wp_gfi, wp_gfr, wp_pfi, wp_pfz, wp_ial, wp_ias, wp_aal, wp_gst, wp_sal, wp_min, wp_calV0, wp_calV1, wp_calS1, wp_calV2, wp_calS2, wp_calV3, wp_calS3, wp_calV4, wp_calS4, wp_calV5, wp_calS5, wp_acp, wp_i2l, wp_l2i, wp_lcon, wp_lbin, wp_ldiv, psh_s, psh_n, en, List.map_cons, List.map_nil, List.cons_append, List.nil_append, List.length_cons, List.length_nil, List.replicate_succ, List.replicate_zero, List.zipWith_cons_cons, List.zipWith_nil_left, List.zipWith_nil_right, if_true, if_false, Bool.false_eq_true, Nat.reduceAdd, Nat.reduceSub, Nat.reduceLeDiff, Nat.reduceEqDiff, Nat.reduceMul, true_and, and_true, Option.some.injEq, exists_eq_left', Nat.le_refl, Nat.zero_le, reduceIte, Nat.add_zero, Nat.zero_add, N_le (show n < 2147483648 by omega) (show n < 2147483648 by omega)]
    exact ⟨fun _ => ⟨e1, e2⟩, fun h => absurd trivial h⟩
  · have : s = 0 := by omega
    rw [this, ms_eq]
    rfl
theorem bit_at {s t : Nat} (ht : t < 31) (hs : s < 2147483648) : (nI s >>> (nI t &&& 31)) &&& 1 = nI (if s.testBit t then 1 else 0) := by
  have h1 : ∀ t, t < 31 → ((nI t &&& 31).toBitVec.smod 32).toNat = t := by decide +kernel
  rw [pk_shrN hs _ t (h1 t ht), pk_andN (Nat.lt_of_le_of_lt (Nat.div_le_self _ _) (by omega)) 1 (by decide +kernel)]
  rw [Nat.testBit_eq_decide_div_mod_eq]
  have : s / 2 ^ t % 2 < 2 := Nat.mod_lt _ (by decide)
  by_cases h : s / 2 ^ t % 2 = 1
  · simp [h]
  · have : s / 2 ^ t % 2 = 0 := by omega
    simp [this]
def pinv (t : Option Nat) (c s : Nat) : Nat := match t with
  | none => c
  | some y => if s.testBit y then c else 1000000
theorem v_pin {r : Nat} (hr : isC r) {i n c : Nat} (hi : i < n) (hn : n ≤ 8) (hc : c < 1000) {t : Option Nat} (ht : ∀ y, t = some y → y < n) {M : vM} : wpF F_X6_pin [.ref r, .int (nI i), .int (nI n), .int (nO t), .int (nI c)] gA M (fun v G' M' => G' = gA ∧ v = none ∧ (∀ s, s < 2 ^ n → M' (r + 2 + i) s = nI (pinv t c s)) ∧ ∀ a, a ≠ r + 2 + i → M' a = M a) := by
  obtain ⟨r0, r1, r2, r3, r4⟩ := hr
  obtain ⟨r5, r6, r7⟩ := r4 i (by omega)
  have h256 : 2 ^ n ≤ 256 := pow_le (n := 8) hn
  refine run_wp ⟨Nat.le_of_ble_eq_true rfl, rfl⟩ ?_
  simp only [D_X6_pin, wp_con, wp_ild0, wp_ald0, wp_ist0, wp_inc0, wp_ild1, wp_ald1, wp_ist1n, wp_inc1n, wp_ist1i, wp_inc1i, wp_ist1r, wp_inc1r, wp_ild2, wp_ald2, wp_ist2n, wp_inc2n, wp_ist2i, wp_inc2i, wp_ist2r, wp_inc2r, wp_ild3, wp_ald3, wp_ist3n, wp_inc3n, wp_ist3i, wp_inc3i, wp_ist3r, wp_inc3r, wp_ild4, wp_ald4, wp_ist4n, wp_inc4n, wp_ist4i, wp_inc4i, wp_ist4r, wp_inc4r, wp_ild5, wp_ald5, wp_ist5n, wp_inc5n, wp_ist5i, wp_inc5i, wp_ist5r, wp_inc5r, wp_ild6, wp_ald6, wp_ist6n, wp_inc6n, wp_ist6i, wp_inc6i, wp_ist6r, wp_inc6r, wp_ild7, wp_ald7, wp_ist7n, wp_inc7n, wp_ist7i, wp_inc7i, wp_ist7r, wp_inc7r, wp_ild8, wp_ald8, wp_ist8n, wp_inc8n, wp_ist8i, wp_inc8i, wp_ist8r, wp_inc8r, wp_ild9, wp_ald9, wp_ist9n, wp_inc9n, wp_ist9i, wp_inc9i, wp_ist9r, wp_inc9r, wp_bin, wp_div, wp_dupi, wp_dupr, wp_dup2, wp_popi, wp_popr, wp_ifeq, wp_ifne, wp_iflt, wp_ifge, wp_ifgt, wp_ifle, wp_iceq, wp_icne, wp_iclt, wp_icge, wp_icgt, wp_icle, wp_jmp, wp_seq, sq_j, sq_r, lq_j, lq_r, eq_r, wp_kil, wp_ret, wp_zret, wp_vret, wp_aret, wp_gfi, wp_gfr, wp_pfi, wp_pfz, wp_ial, wp_ias, wp_aal, wp_gst, wp_sal, wp_min, wp_calV0, wp_calV1, wp_calS1, wp_calV2, wp_calS2, wp_calV3, wp_calS3, wp_calV4, wp_calS4, wp_calV5, wp_calS5, wp_acp, wp_i2l, wp_l2i, wp_lcon, wp_lbin, wp_ldiv, psh_s, psh_n, en, List.map_cons, List.map_nil, List.cons_append, List.nil_append, List.length_cons, List.length_nil, List.replicate_succ, List.replicate_zero, List.zipWith_cons_cons, List.zipWith_nil_left, List.zipWith_nil_right, if_true, if_false, Bool.false_eq_true, Nat.reduceAdd, Nat.reduceSub, Nat.reduceLeDiff, Nat.reduceEqDiff, Nat.reduceMul, true_and, and_true, Option.some.injEq, exists_eq_left', Nat.le_refl, Nat.zero_le, reduceIte, Nat.add_zero, Nat.zero_add, l_0]
  refine wp_for (2 ^ n) (fun q L M' => L = [some (.ref r), some (.int (nI i)), some (.int (nI n)), some (.int (nO t)), some (.int (nI c)), some (.int (nI q)), none] ∧ (∀ s, s < q → M' (r + 2 + i) s = nI (pinv t c s)) ∧ ∀ a, a ≠ r + 2 + i → M' a = M a) ?_ ?_ 4000 0 _ _ (Nat.zero_le _) (by omega) ⟨rfl, fun s hs => absurd hs (Nat.not_lt_zero s), fun _ _ => rfl⟩
  · rintro q L M' hq ⟨rfl, e1, e2⟩
    have key : ∀ x : Int32, x = nI (pinv t c q) → (∀ s, s < q + 1 → mset M' (r + 2 + i) q x (r + 2 + i) s = nI (pinv t c s)) ∧ ∀ a, a ≠ r + 2 + i → mset M' (r + 2 + i) q x a = M a := by
      rintro x rfl
      refine ⟨fun s hs => ?_, fun a ha => by rw [ms_a ha, e2 a ha]⟩
      by_cases e : s = q
      · rw [e, ms_eq]
      · rw [ms_k e, e1 s (by omega)]
    cases t with
    | none =>
      simp only [B_X6_pin_3, K_X6_pin_25, K_X6_pin_30, K_X6_pin_52, wp_con, wp_ild0, wp_ald0, wp_ist0, wp_inc0, wp_ild1, wp_ald1, wp_ist1n, wp_inc1n, wp_ist1i, wp_inc1i, wp_ist1r, wp_inc1r, wp_ild2, wp_ald2, wp_ist2n, wp_inc2n, wp_ist2i, wp_inc2i, wp_ist2r, wp_inc2r, wp_ild3, wp_ald3, wp_ist3n, wp_inc3n, wp_ist3i, wp_inc3i, wp_ist3r, wp_inc3r, wp_ild4, wp_ald4, wp_ist4n, wp_inc4n, wp_ist4i, wp_inc4i, wp_ist4r, wp_inc4r, wp_ild5, wp_ald5, wp_ist5n, wp_inc5n, wp_ist5i, wp_inc5i, wp_ist5r, wp_inc5r, wp_ild6, wp_ald6, wp_ist6n, wp_inc6n, wp_ist6i, wp_inc6i, wp_ist6r, wp_inc6r, wp_ild7, wp_ald7, wp_ist7n, wp_inc7n, wp_ist7i, wp_inc7i, wp_ist7r, wp_inc7r, wp_ild8, wp_ald8, wp_ist8n, wp_inc8n, wp_ist8i, wp_inc8i, wp_ist8r, wp_inc8r, wp_ild9, wp_ald9, wp_ist9n, wp_inc9n, wp_ist9i, wp_inc9i, wp_ist9r, wp_inc9r, wp_bin, wp_div, wp_dupi, wp_dupr, wp_dup2, wp_popi, wp_popr, wp_ifeq, wp_ifne, wp_iflt, wp_ifge, wp_ifgt, wp_ifle, wp_iceq, wp_icne, wp_iclt, wp_icge, wp_icgt, wp_icle, wp_jmp, wp_seq, sq_j, sq_r, lq_j, lq_r, eq_r, wp_kil, wp_ret, wp_zret, wp_vret, wp_aret, wp_gfi, wp_gfr, wp_pfi, wp_pfz, wp_ial, wp_ias, wp_aal, wp_gst, wp_sal, wp_min, wp_calV0, wp_calV1, wp_calS1, wp_calV2, wp_calS2, wp_calV3, wp_calS3, wp_calV4, wp_calS4, wp_calV5, wp_calS5, wp_acp, wp_i2l, wp_l2i, wp_lcon, wp_lbin, wp_ldiv, psh_s, psh_n, en, List.map_cons, List.map_nil, List.cons_append, List.nil_append, List.length_cons, List.length_nil, List.replicate_succ, List.replicate_zero, List.zipWith_cons_cons, List.zipWith_nil_left, List.zipWith_nil_right, if_true, if_false, Bool.false_eq_true, Nat.reduceAdd, Nat.reduceSub, Nat.reduceLeDiff, Nat.reduceEqDiff, Nat.reduceMul, true_and, and_true, Option.some.injEq, exists_eq_left', Nat.le_refl, Nat.zero_le, reduceIte, Nat.add_zero, Nat.zero_add, N_s, r0, r1, r2, r3, r5, r6, r7, f_shl, one_shl n (by omega), N_le (show 2 ^ n < 2147483648 by omega) (show q < 2147483648 by omega), nO_n, N_cl (show i < 2147483648 by omega), N_in (show i < 8 by omega) (by decide), N_cl (show q < 2147483648 by omega), N_in (show q < 256 by omega) (by decide)]
      refine ⟨fun h => absurd h (by omega), fun _ => ⟨fun _ => ⟨fun h => absurd h (by decide), fun _ => key _ rfl⟩, fun h => absurd trivial h⟩⟩
    | some y =>
      have hy := ht y rfl
      simp only [B_X6_pin_3, K_X6_pin_25, K_X6_pin_30, K_X6_pin_52, wp_con, wp_ild0, wp_ald0, wp_ist0, wp_inc0, wp_ild1, wp_ald1, wp_ist1n, wp_inc1n, wp_ist1i, wp_inc1i, wp_ist1r, wp_inc1r, wp_ild2, wp_ald2, wp_ist2n, wp_inc2n, wp_ist2i, wp_inc2i, wp_ist2r, wp_inc2r, wp_ild3, wp_ald3, wp_ist3n, wp_inc3n, wp_ist3i, wp_inc3i, wp_ist3r, wp_inc3r, wp_ild4, wp_ald4, wp_ist4n, wp_inc4n, wp_ist4i, wp_inc4i, wp_ist4r, wp_inc4r, wp_ild5, wp_ald5, wp_ist5n, wp_inc5n, wp_ist5i, wp_inc5i, wp_ist5r, wp_inc5r, wp_ild6, wp_ald6, wp_ist6n, wp_inc6n, wp_ist6i, wp_inc6i, wp_ist6r, wp_inc6r, wp_ild7, wp_ald7, wp_ist7n, wp_inc7n, wp_ist7i, wp_inc7i, wp_ist7r, wp_inc7r, wp_ild8, wp_ald8, wp_ist8n, wp_inc8n, wp_ist8i, wp_inc8i, wp_ist8r, wp_inc8r, wp_ild9, wp_ald9, wp_ist9n, wp_inc9n, wp_ist9i, wp_inc9i, wp_ist9r, wp_inc9r, wp_bin, wp_div, wp_dupi, wp_dupr, wp_dup2, wp_popi, wp_popr, wp_ifeq, wp_ifne, wp_iflt, wp_ifge, wp_ifgt, wp_ifle, wp_iceq, wp_icne, wp_iclt, wp_icge, wp_icgt, wp_icle, wp_jmp, wp_seq, sq_j, sq_r, lq_j, lq_r, eq_r, wp_kil, wp_ret, wp_zret, wp_vret, wp_aret, wp_gfi, wp_gfr, wp_pfi, wp_pfz, wp_ial, wp_ias, wp_aal, wp_gst, wp_sal, wp_min, wp_calV0, wp_calV1, wp_calS1, wp_calV2, wp_calS2, wp_calV3, wp_calS3, wp_calV4, wp_calS4, wp_calV5, wp_calS5, wp_acp, wp_i2l, wp_l2i, wp_lcon, wp_lbin, wp_ldiv, psh_s, psh_n, en, List.map_cons, List.map_nil, List.cons_append, List.nil_append, List.length_cons, List.length_nil, List.replicate_succ, List.replicate_zero, List.zipWith_cons_cons, List.zipWith_nil_left, List.zipWith_nil_right, if_true, if_false, Bool.false_eq_true, Nat.reduceAdd, Nat.reduceSub, Nat.reduceLeDiff, Nat.reduceEqDiff, Nat.reduceMul, true_and, and_true, Option.some.injEq, exists_eq_left', Nat.le_refl, Nat.zero_le, reduceIte, Nat.add_zero, Nat.zero_add, N_s, r0, r1, r2, r3, r5, r6, r7, f_shl, f_shr, f_and, bit_at (show y < 31 by omega) (show q < 2147483648 by omega), one_shl n (by omega), N_le (show 2 ^ n < 2147483648 by omega) (show q < 2147483648 by omega), nO_s, N_cl (show i < 2147483648 by omega), N_in (show i < 8 by omega) (by decide), N_cl (show q < 2147483648 by omega), N_in (show q < 256 by omega) (by decide)]
      refine ⟨fun h => absurd h (by omega), fun _ => ⟨fun h => absurd h (N_m1_lt y (by omega)), fun _ => ⟨fun h => ?_, fun h => ?_⟩⟩⟩
      · have hb : q.testBit y = false := by
          cases hq : q.testBit y
          · rfl
          · rw [hq] at h; exact absurd h (by decide)
        refine ⟨fun _ => key _ (by simp [pinv, hb]; rfl), fun h => absurd trivial h⟩
      · have hb : q.testBit y = true := by
          cases hq : q.testBit y
          · rw [hq] at h; exact absurd rfl h
          · rfl
        refine ⟨fun h => absurd h (by decide), fun _ => key _ (by simp [pinv, hb])⟩
  · rintro L M' ⟨rfl, e1, e2⟩
    simp only [B_X6_pin_3, K_X6_pin_59, wp_con, wp_ild0, wp_ald0, wp_ist0, wp_inc0, wp_ild1, wp_ald1, wp_ist1n, wp_inc1n, wp_ist1i, wp_inc1i, wp_ist1r, wp_inc1r, wp_ild2, wp_ald2, wp_ist2n, wp_inc2n, wp_ist2i, wp_inc2i, wp_ist2r, wp_inc2r, wp_ild3, wp_ald3, wp_ist3n, wp_inc3n, wp_ist3i, wp_inc3i, wp_ist3r, wp_inc3r, wp_ild4, wp_ald4, wp_ist4n, wp_inc4n, wp_ist4i, wp_inc4i, wp_ist4r, wp_inc4r, wp_ild5, wp_ald5, wp_ist5n, wp_inc5n, wp_ist5i, wp_inc5i, wp_ist5r, wp_inc5r, wp_ild6, wp_ald6, wp_ist6n, wp_inc6n, wp_ist6i, wp_inc6i, wp_ist6r, wp_inc6r, wp_ild7, wp_ald7, wp_ist7n, wp_inc7n, wp_ist7i, wp_inc7i, wp_ist7r, wp_inc7r, wp_ild8, wp_ald8, wp_ist8n, wp_inc8n, wp_ist8i, wp_inc8i, wp_ist8r, wp_inc8r, wp_ild9, wp_ald9, wp_ist9n, wp_inc9n, wp_ist9i, wp_inc9i, wp_ist9r, wp_inc9r, wp_bin, wp_div, wp_dupi, wp_dupr, wp_dup2, wp_popi, wp_popr, wp_ifeq, wp_ifne, wp_iflt, wp_ifge, wp_ifgt, wp_ifle, wp_iceq, wp_icne, wp_iclt, wp_icge, wp_icgt, wp_icle, wp_jmp, wp_seq, sq_j, sq_r, lq_j, lq_r, eq_r, wp_kil, wp_ret, wp_zret, wp_vret, wp_aret, wp_gfi, wp_gfr, wp_pfi, wp_pfz, wp_ial, wp_ias, wp_aal, wp_gst, wp_sal, wp_min, wp_calV0, wp_calV1, wp_calS1, wp_calV2, wp_calS2, wp_calV3, wp_calS3, wp_calV4, wp_calS4, wp_calV5, wp_calS5, wp_acp, wp_i2l, wp_l2i, wp_lcon, wp_lbin, wp_ldiv, psh_s, psh_n, en, List.map_cons, List.map_nil, List.cons_append, List.nil_append, List.length_cons, List.length_nil, List.replicate_succ, List.replicate_zero, List.zipWith_cons_cons, List.zipWith_nil_left, List.zipWith_nil_right, if_true, if_false, Bool.false_eq_true, Nat.reduceAdd, Nat.reduceSub, Nat.reduceLeDiff, Nat.reduceEqDiff, Nat.reduceMul, true_and, and_true, Option.some.injEq, exists_eq_left', Nat.le_refl, Nat.zero_le, reduceIte, Nat.add_zero, Nat.zero_add, f_shl, one_shl n (by omega), N_le (show 2 ^ n < 2147483648 by omega) (show 2 ^ n < 2147483648 by omega)]
    exact ⟨fun _ => ⟨e1, e2⟩, fun h => absurd trivial h⟩
/-! the sums over sets -/
def mn (INF : Nat) (R : Nat → Nat → Nat) (F : Nat → Nat) (m : Nat) : Nat → Nat
  | 0 => INF
  | l + 1 => if m.testBit l then min (mn INF R F m l) (F (m - 2 ^ l) + R l (m - 2 ^ l)) else mn INF R F m l
def TT (INF : Nat) (R : Nat → Nat → Nat) (n : Nat) : Nat → Nat → Nat
  | 0 => fun _ => 0
  | m + 1 => fun s => if s = m then (if m = 0 then 0 else mn INF R (TT INF R n m) m n) else TT INF R n m s
def sD (INF : Nat) (R : Nat → Nat → Nat) (n set : Nat) : Nat := TT INF R n (set + 1) set
theorem TT_sD {INF : Nat} {R : Nat → Nat → Nat} {n : Nat} : ∀ m s, s < m → TT INF R n m s = sD INF R n s
  | 0, s, h => absurd h (Nat.not_lt_zero s)
  | m + 1, s, h => by
    by_cases e : s = m
    · subst e
      rfl
    · show (if s = m then _ else TT INF R n m s) = _
      rw [if_neg e]
      exact TT_sD m s (by omega)
theorem mn_cong {INF : Nat} {R : Nat → Nat → Nat} {F F' : Nat → Nat} {m : Nat} (hm : 0 < m) (h : ∀ s, s < m → F s = F' s) : ∀ l, mn INF R F m l = mn INF R F' m l
  | 0 => rfl
  | l + 1 => by
    have hp : 0 < 2 ^ l := Nat.two_pow_pos l
    simp only [mn, mn_cong hm h l, h (m - 2 ^ l) (by omega)]
theorem sD_0 {INF : Nat} {R : Nat → Nat → Nat} {n : Nat} : sD INF R n 0 = 0 := rfl
theorem sD_s {INF : Nat} {R : Nat → Nat → Nat} {n set : Nat} (h : 0 < set) : sD INF R n set = mn INF R (sD INF R n) set n := by
  show (if set = set then (if set = 0 then 0 else mn INF R (TT INF R n set) set n) else _) = _
  rw [if_pos rfl, if_neg (by omega)]
  exact mn_cong h (fun s hs => TT_sD set s hs) n
theorem mn_le {INF : Nat} {R : Nat → Nat → Nat} {F : Nat → Nat} {m : Nat} : ∀ l, mn INF R F m l ≤ INF
  | 0 => Nat.le_refl _
  | l + 1 => by
    have := mn_le (INF := INF) (R := R) (F := F) (m := m) l
    simp only [mn]
    split <;> omega
theorem sD_le {INF : Nat} {R : Nat → Nat → Nat} {n set : Nat} : sD INF R n set ≤ INF := by
  by_cases h : set = 0
  · rw [h, sD_0]; omega
  · rw [sD_s (by omega)]; exact mn_le n
theorem xor_sub : ∀ m, m < 256 → ∀ l, l < 8 → m.testBit l = true → m ^^^ 2 ^ l = m - 2 ^ l ∧ 2 ^ l ≤ m := by decide +kernel
theorem N_xor (a b : Nat) : nI a ^^^ nI b = nI (a ^^^ b) := by
  apply Int32.toBitVec_inj.mp
  simp [nI, Int32.toBitVec_xor]
