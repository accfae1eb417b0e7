-- the law: its loop
theorem and31 (x : Int32) : ∃ n, n < 32 ∧ x &&& 31 = nI n := by
  have e : x = nI x.toBitVec.toNat := by
    apply Int32.toBitVec_inj.1
    show x.toBitVec = BitVec.ofNat 32 x.toBitVec.toNat
    simp
  refine ⟨x.toBitVec.toNat % 32, Nat.mod_lt _ (by decide), ?_⟩
  have h : nI x.toBitVec.toNat &&& nI 31 = nI (x.toBitVec.toNat % 32) := by
    rw [N_and, show (31 : Nat) = 2 ^ 5 - 1 from rfl, Nat.and_two_pow_sub_one_eq_mod]
  rw [← h, ← e]
  rfl
theorem N_s4 {n : Nat} (h : 4 ≤ n) : nI n - 4 = nI (n - 4) := by
  have e : nI n = nI (n - 4) + 4 := by
    show nI n = nI (n - 4) + nI 4
    rw [N_add, Nat.sub_add_cancel h]
  rw [e, Int32.add_sub_cancel]
theorem law_sw {xs : Nat → Int32} {Ls t n : Nat} {M : vM} {Z : vZ} {Q : vJ ⊕ vR → Prop} (hn : n < 32) (hL : 4 * t + 4 ≤ Ls) (h2 : Ls ≤ 2048) (hc : rC M Z) (hx : rX M Z) (h : zOK Z) (hQ : ∀ M' Z', rC M' Z' → rX M' Z' → zOK Z' → Q (.inl (1015, lT t, [], gA, M'))) : wp (op_tsw [E_law_0 xs Ls, E_law_1 xs Ls, E_law_2 xs Ls, E_law_3 xs Ls, E_law_4 xs Ls, E_law_5 xs Ls, E_law_6 xs Ls, E_law_7 xs Ls, E_law_8 xs Ls, E_law_9 xs Ls, E_law_10 xs Ls, E_law_11 xs Ls, E_law_12 xs Ls, E_law_13 xs Ls, E_law_14 xs Ls, E_law_15 xs Ls, E_law_16 xs Ls, E_law_17 xs Ls, E_law_18 xs Ls, E_law_19 xs Ls, E_law_20 xs Ls, E_law_21 xs Ls, E_law_22 xs Ls, E_law_23 xs Ls, E_law_24 xs Ls, E_law_25 xs Ls, E_law_26 xs Ls, E_law_27 xs Ls, E_law_28 xs Ls, E_law_29 xs Ls, E_law_30 xs Ls] (op_jmp 1015)) (lT t) [.int (nI n)] gA M Q := by
  rcases (show n = 0 ∨ n = 1 ∨ n = 2 ∨ n = 3 ∨ n = 4 ∨ n = 5 ∨ n = 6 ∨ n = 7 ∨ n = 8 ∨ n = 9 ∨ n = 10 ∨ n = 11 ∨ n = 12 ∨ n = 13 ∨ n = 14 ∨ n = 15 ∨ n = 16 ∨ n = 17 ∨ n = 18 ∨ n = 19 ∨ n = 20 ∨ n = 21 ∨ n = 22 ∨ n = 23 ∨ n = 24 ∨ n = 25 ∨ n = 26 ∨ n = 27 ∨ n = 28 ∨ n = 29 ∨ n = 30 ∨ n = 31 by omega) with rfl | rfl | rfl | rfl | rfl | rfl | rfl | rfl | rfl | rfl | rfl | rfl | rfl | rfl | rfl | rfl | rfl | rfl | rfl | rfl | rfl | rfl | rfl | rfl | rfl | rfl | rfl | rfl | rfl | rfl | rfl | rfl
  · refine Iff.mpr (tsw_in (show 0 < 31 by decide) (by decide)) ?_
    exact E_run_0 (xs := xs) hL h2 hc hx h hQ
  · refine Iff.mpr (tsw_in (show 1 < 31 by decide) (by decide)) ?_
    exact E_run_1 (xs := xs) hL h2 hc hx h hQ
  · refine Iff.mpr (tsw_in (show 2 < 31 by decide) (by decide)) ?_
    exact E_run_2 (xs := xs) hL h2 hc hx h hQ
  · refine Iff.mpr (tsw_in (show 3 < 31 by decide) (by decide)) ?_
    exact E_run_3 (xs := xs) hL h2 hc hx h hQ
  · refine Iff.mpr (tsw_in (show 4 < 31 by decide) (by decide)) ?_
    exact E_run_4 (xs := xs) hL h2 hc hx h hQ
  · refine Iff.mpr (tsw_in (show 5 < 31 by decide) (by decide)) ?_
    exact E_run_5 (xs := xs) hL h2 hc hx h hQ
  · refine Iff.mpr (tsw_in (show 6 < 31 by decide) (by decide)) ?_
    exact E_run_6 (xs := xs) hL h2 hc hx h hQ
  · refine Iff.mpr (tsw_in (show 7 < 31 by decide) (by decide)) ?_
    exact E_run_7 (xs := xs) hL h2 hc hx h hQ
  · refine Iff.mpr (tsw_in (show 8 < 31 by decide) (by decide)) ?_
    exact E_run_8 (xs := xs) hL h2 hc hx h hQ
  · refine Iff.mpr (tsw_in (show 9 < 31 by decide) (by decide)) ?_
    exact E_run_9 (xs := xs) hL h2 hc hx h hQ
  · refine Iff.mpr (tsw_in (show 10 < 31 by decide) (by decide)) ?_
    exact E_run_10 (xs := xs) hL h2 hc hx h hQ
  · refine Iff.mpr (tsw_in (show 11 < 31 by decide) (by decide)) ?_
    exact E_run_11 (xs := xs) hL h2 hc hx h hQ
  · refine Iff.mpr (tsw_in (show 12 < 31 by decide) (by decide)) ?_
    exact E_run_12 (xs := xs) hL h2 hc hx h hQ
  · refine Iff.mpr (tsw_in (show 13 < 31 by decide) (by decide)) ?_
    exact E_run_13 (xs := xs) hL h2 hc hx h hQ
  · refine Iff.mpr (tsw_in (show 14 < 31 by decide) (by decide)) ?_
    exact E_run_14 (xs := xs) hL h2 hc hx h hQ
  · refine Iff.mpr (tsw_in (show 15 < 31 by decide) (by decide)) ?_
    exact E_run_15 (xs := xs) hL h2 hc hx h hQ
  · refine Iff.mpr (tsw_in (show 16 < 31 by decide) (by decide)) ?_
    exact E_run_16 (xs := xs) hL h2 hc hx h hQ
  · refine Iff.mpr (tsw_in (show 17 < 31 by decide) (by decide)) ?_
    exact E_run_17 (xs := xs) hL h2 hc hx h hQ
  · refine Iff.mpr (tsw_in (show 18 < 31 by decide) (by decide)) ?_
    exact E_run_18 (xs := xs) hL h2 hc hx h hQ
  · refine Iff.mpr (tsw_in (show 19 < 31 by decide) (by decide)) ?_
    exact E_run_19 (xs := xs) hL h2 hc hx h hQ
  · refine Iff.mpr (tsw_in (show 20 < 31 by decide) (by decide)) ?_
    exact E_run_20 (xs := xs) hL h2 hc hx h hQ
  · refine Iff.mpr (tsw_in (show 21 < 31 by decide) (by decide)) ?_
    exact E_run_21 (xs := xs) hL h2 hc hx h hQ
  · refine Iff.mpr (tsw_in (show 22 < 31 by decide) (by decide)) ?_
    exact E_run_22 (xs := xs) hL h2 hc hx h hQ
  · refine Iff.mpr (tsw_in (show 23 < 31 by decide) (by decide)) ?_
    exact E_run_23 (xs := xs) hL h2 hc hx h hQ
  · refine Iff.mpr (tsw_in (show 24 < 31 by decide) (by decide)) ?_
    exact E_run_24 (xs := xs) hL h2 hc hx h hQ
  · refine Iff.mpr (tsw_in (show 25 < 31 by decide) (by decide)) ?_
    exact E_run_25 (xs := xs) hL h2 hc hx h hQ
  · refine Iff.mpr (tsw_in (show 26 < 31 by decide) (by decide)) ?_
    exact E_run_26 (xs := xs) hL h2 hc hx h hQ
  · refine Iff.mpr (tsw_in (show 27 < 31 by decide) (by decide)) ?_
    exact E_run_27 (xs := xs) hL h2 hc hx h hQ
  · refine Iff.mpr (tsw_in (show 28 < 31 by decide) (by decide)) ?_
    exact E_run_28 (xs := xs) hL h2 hc hx h hQ
  · refine Iff.mpr (tsw_in (show 29 < 31 by decide) (by decide)) ?_
    exact E_run_29 (xs := xs) hL h2 hc hx h hQ
  · refine Iff.mpr (tsw_in (show 30 < 31 by decide) (by decide)) ?_
    exact E_run_30 (xs := xs) hL h2 hc hx h hQ
  · refine Iff.mpr (tsw_out (show inB (nI 31) 31 = false by decide)) ?_
    simp only [wp_con, wp_ild0, wp_ald0, wp_ist0, wp_inc0, wp_ild1, wp_ald1, wp_ist1n, wp_inc1n, wp_ist1i, wp_inc1i, wp_ist1r, wp_inc1r, wp_ild2, wp_ald2, wp_ist2n, wp_inc2n, wp_ist2i, wp_inc2i, wp_ist2r, wp_inc2r, wp_ild3, wp_ald3, wp_ist3n, wp_inc3n, wp_ist3i, wp_inc3i, wp_ist3r, wp_inc3r, wp_ild4, wp_ald4, wp_ist4n, wp_inc4n, wp_ist4i, wp_inc4i, wp_ist4r, wp_inc4r, wp_ild5, wp_ald5, wp_ist5n, wp_inc5n, wp_ist5i, wp_inc5i, wp_ist5r, wp_inc5r, wp_ild6, wp_ald6, wp_ist6n, wp_inc6n, wp_ist6i, wp_inc6i, wp_ist6r, wp_inc6r, wp_ild7, wp_ald7, wp_ist7n, wp_inc7n, wp_ist7i, wp_inc7i, wp_ist7r, wp_inc7r, wp_ild8, wp_ald8, wp_ist8n, wp_inc8n, wp_ist8i, wp_inc8i, wp_ist8r, wp_inc8r, wp_ild9, wp_ald9, wp_ist9n, wp_inc9n, wp_ist9i, wp_inc9i, wp_ist9r, wp_inc9r, wp_bin, wp_div, wp_dupi, wp_dupr, wp_dup2, wp_popi, wp_popr, wp_ifeq, wp_ifne, wp_iflt, wp_ifge, wp_ifgt, wp_ifle, wp_iceq, wp_icne, wp_iclt, wp_icge, wp_icgt, wp_icle, wp_jmp, wp_seq, sq_j, sq_r, lq_j, lq_r, eq_r, wp_kil, wp_ret, wp_zret, wp_vret, wp_aret, wp_gfi, wp_gfr, wp_pfi, wp_pfz, wp_ial, wp_ias, wp_aal, wp_gst, wp_sal, wp_min, wp_calV0, wp_calV1, wp_calS1, wp_calV2, wp_calS2, wp_calV3, wp_calS3, wp_calV4, wp_calS4, wp_calV5, wp_calS5, wp_acp, wp_i2l, wp_l2i, wp_lcon, wp_lbin, wp_ldiv, psh_s, psh_n, en, List.map_cons, List.map_nil, List.cons_append, List.nil_append, List.length_cons, List.length_nil, List.replicate_succ, List.replicate_zero, List.zipWith_cons_cons, List.zipWith_nil_left, List.zipWith_nil_right, if_true, if_false, Bool.false_eq_true, Nat.reduceAdd, Nat.reduceSub, Nat.reduceLeDiff, Nat.reduceEqDiff, Nat.reduceMul, true_and, and_true, Option.some.injEq, exists_eq_left', Nat.le_refl, Nat.zero_le, reduceIte, Nat.add_zero, Nat.zero_add]
    exact hQ M Z hc hx h
theorem law_run {xs : Nat → Int32} {Ls : Nat} {M : vM} {Z : vZ} (h2 : Ls ≤ 2048) (hc : rC M Z) (hx : rX M Z) (h : zOK Z) : wp (D_law1 xs Ls) (lT 0) [] gA M (fun o => ∃ L' M', o = .inl (1022, L', [.int 1], gA, M')) := by
  simp only [D_law1, wp_con, wp_ild0, wp_ald0, wp_ist0, wp_inc0, wp_ild1, wp_ald1, wp_ist1n, wp_inc1n, wp_ist1i, wp_inc1i, wp_ist1r, wp_inc1r, wp_ild2, wp_ald2, wp_ist2n, wp_inc2n, wp_ist2i, wp_inc2i, wp_ist2r, wp_inc2r, wp_ild3, wp_ald3, wp_ist3n, wp_inc3n, wp_ist3i, wp_inc3i, wp_ist3r, wp_inc3r, wp_ild4, wp_ald4, wp_ist4n, wp_inc4n, wp_ist4i, wp_inc4i, wp_ist4r, wp_inc4r, wp_ild5, wp_ald5, wp_ist5n, wp_inc5n, wp_ist5i, wp_inc5i, wp_ist5r, wp_inc5r, wp_ild6, wp_ald6, wp_ist6n, wp_inc6n, wp_ist6i, wp_inc6i, wp_ist6r, wp_inc6r, wp_ild7, wp_ald7, wp_ist7n, wp_inc7n, wp_ist7i, wp_inc7i, wp_ist7r, wp_inc7r, wp_ild8, wp_ald8, wp_ist8n, wp_inc8n, wp_ist8i, wp_inc8i, wp_ist8r, wp_inc8r, wp_ild9, wp_ald9, wp_ist9n, wp_inc9n, wp_ist9i, wp_inc9i, wp_ist9r, wp_inc9r, wp_bin, wp_div, wp_dupi, wp_dupr, wp_dup2, wp_popi, wp_popr, wp_ifeq, wp_ifne, wp_iflt, wp_ifge, wp_ifgt, wp_ifle, wp_iceq, wp_icne, wp_iclt, wp_icge, wp_icgt, wp_icle, wp_jmp, wp_seq, sq_j, sq_r, lq_j, lq_r, eq_r, wp_kil, wp_ret, wp_zret, wp_vret, wp_aret, wp_gfi, wp_gfr, wp_pfi, wp_pfz, wp_ial, wp_ias, wp_aal, wp_gst, wp_sal, wp_min, wp_calV0, wp_calV1, wp_calS1, wp_calV2, wp_calS2, wp_calV3, wp_calS3, wp_calV4, wp_calS4, wp_calV5, wp_calS5, wp_acp, wp_i2l, wp_l2i, wp_lcon, wp_lbin, wp_ldiv, psh_s, psh_n, en, List.map_cons, List.map_nil, List.cons_append, List.nil_append, List.length_cons, List.length_nil, List.replicate_succ, List.replicate_zero, List.zipWith_cons_cons, List.zipWith_nil_left, List.zipWith_nil_right, if_true, if_false, Bool.false_eq_true, Nat.reduceAdd, Nat.reduceSub, Nat.reduceLeDiff, Nat.reduceEqDiff, Nat.reduceMul, true_and, and_true, Option.some.injEq, exists_eq_left', Nat.le_refl, Nat.zero_le, reduceIte, Nat.add_zero, Nat.zero_add]
  refine wp_for (Ls / 4) (fun t L M' => L = lT t ∧ ∃ Z, rC M' Z ∧ rX M' Z ∧ zOK Z) ?_ ?_ 4000 0 _ _ (by omega) (by omega) ⟨rfl, Z, hc, hx, h⟩
  · rintro t L M' ht ⟨rfl, Z1, c1, x1, z1⟩
    have hL : 4 * t + 4 ≤ Ls := by omega
    have hcmp : (nI Ls - 4 < nI (4 * t)) = False := eq_false (by rw [N_s4 (by omega), N_lt (by omega) (by omega)]; omega)
    obtain ⟨n, hn, hv⟩ := and31 (xs (4 * t))
    simp only [B_law, wp_con, wp_ild0, wp_ald0, wp_ist0, wp_inc0, wp_ild1, wp_ald1, wp_ist1n, wp_inc1n, wp_ist1i, wp_inc1i, wp_ist1r, wp_inc1r, wp_ild2, wp_ald2, wp_ist2n, wp_inc2n, wp_ist2i, wp_inc2i, wp_ist2r, wp_inc2r, wp_ild3, wp_ald3, wp_ist3n, wp_inc3n, wp_ist3i, wp_inc3i, wp_ist3r, wp_inc3r, wp_ild4, wp_ald4, wp_ist4n, wp_inc4n, wp_ist4i, wp_inc4i, wp_ist4r, wp_inc4r, wp_ild5, wp_ald5, wp_ist5n, wp_inc5n, wp_ist5i, wp_inc5i, wp_ist5r, wp_inc5r, wp_ild6, wp_ald6, wp_ist6n, wp_inc6n, wp_ist6i, wp_inc6i, wp_ist6r, wp_inc6r, wp_ild7, wp_ald7, wp_ist7n, wp_inc7n, wp_ist7i, wp_inc7i, wp_ist7r, wp_inc7r, wp_ild8, wp_ald8, wp_ist8n, wp_inc8n, wp_ist8i, wp_inc8i, wp_ist8r, wp_inc8r, wp_ild9, wp_ald9, wp_ist9n, wp_inc9n, wp_ist9i, wp_inc9i, wp_ist9r, wp_inc9r, wp_bin, wp_div, wp_dupi, wp_dupr, wp_dup2, wp_popi, wp_popr, wp_ifeq, wp_ifne, wp_iflt, wp_ifge, wp_ifgt, wp_ifle, wp_iceq, wp_icne, wp_iclt, wp_icge, wp_icgt, wp_icle, wp_jmp, wp_seq, sq_j, sq_r, lq_j, lq_r, eq_r, wp_kil, wp_ret, wp_zret, wp_vret, wp_aret, wp_gfi, wp_gfr, wp_pfi, wp_pfz, wp_ial, wp_ias, wp_aal, wp_gst, wp_sal, wp_min, wp_calV0, wp_calV1, wp_calS1, wp_calV2, wp_calS2, wp_calV3, wp_calS3, wp_calV4, wp_calS4, wp_calV5, wp_calS5, wp_acp, wp_i2l, wp_l2i, wp_lcon, wp_lbin, wp_ldiv, psh_s, psh_n, en, List.map_cons, List.map_nil, List.cons_append, List.nil_append, List.length_cons, List.length_nil, List.replicate_succ, List.replicate_zero, List.zipWith_cons_cons, List.zipWith_nil_left, List.zipWith_nil_right, if_true, if_false, Bool.false_eq_true, Nat.reduceAdd, Nat.reduceSub, Nat.reduceLeDiff, Nat.reduceEqDiff, Nat.reduceMul, true_and, and_true, Option.some.injEq, exists_eq_left', Nat.le_refl, Nat.zero_le, reduceIte, Nat.add_zero, Nat.zero_add, wp_sln, wp_scl, f_sub, hcmp, bI_t, bI_f, z10, eq_self, not_true_eq_false, not_false_eq_true, true_implies, false_implies, true_and, and_true, N_cl (show 4 * t < 2147483648 by omega), N_in (show 4 * t < Ls by omega) (show Ls < 2147483648 by omega), f_and, hv]
    refine law_sw hn hL h2 c1 x1 z1 (fun M2 Z2 a b c => ?_)
    simp only [wp_con, wp_ild0, wp_ald0, wp_ist0, wp_inc0, wp_ild1, wp_ald1, wp_ist1n, wp_inc1n, wp_ist1i, wp_inc1i, wp_ist1r, wp_inc1r, wp_ild2, wp_ald2, wp_ist2n, wp_inc2n, wp_ist2i, wp_inc2i, wp_ist2r, wp_inc2r, wp_ild3, wp_ald3, wp_ist3n, wp_inc3n, wp_ist3i, wp_inc3i, wp_ist3r, wp_inc3r, wp_ild4, wp_ald4, wp_ist4n, wp_inc4n, wp_ist4i, wp_inc4i, wp_ist4r, wp_inc4r, wp_ild5, wp_ald5, wp_ist5n, wp_inc5n, wp_ist5i, wp_inc5i, wp_ist5r, wp_inc5r, wp_ild6, wp_ald6, wp_ist6n, wp_inc6n, wp_ist6i, wp_inc6i, wp_ist6r, wp_inc6r, wp_ild7, wp_ald7, wp_ist7n, wp_inc7n, wp_ist7i, wp_inc7i, wp_ist7r, wp_inc7r, wp_ild8, wp_ald8, wp_ist8n, wp_inc8n, wp_ist8i, wp_inc8i, wp_ist8r, wp_inc8r, wp_ild9, wp_ald9, wp_ist9n, wp_inc9n, wp_ist9i, wp_inc9i, wp_ist9r, wp_inc9r, wp_bin, wp_div, wp_dupi, wp_dupr, wp_dup2, wp_popi, wp_popr, wp_ifeq, wp_ifne, wp_iflt, wp_ifge, wp_ifgt, wp_ifle, wp_iceq, wp_icne, wp_iclt, wp_icge, wp_icgt, wp_icle, wp_jmp, wp_seq, sq_j, sq_r, lq_j, lq_r, eq_r, wp_kil, wp_ret, wp_zret, wp_vret, wp_aret, wp_gfi, wp_gfr, wp_pfi, wp_pfz, wp_ial, wp_ias, wp_aal, wp_gst, wp_sal, wp_min, wp_calV0, wp_calV1, wp_calS1, wp_calV2, wp_calS2, wp_calV3, wp_calS3, wp_calV4, wp_calS4, wp_calV5, wp_calS5, wp_acp, wp_i2l, wp_l2i, wp_lcon, wp_lbin, wp_ldiv, psh_s, psh_n, en, List.map_cons, List.map_nil, List.cons_append, List.nil_append, List.length_cons, List.length_nil, List.replicate_succ, List.replicate_zero, List.zipWith_cons_cons, List.zipWith_nil_left, List.zipWith_nil_right, if_true, if_false, Bool.false_eq_true, Nat.reduceAdd, Nat.reduceSub, Nat.reduceLeDiff, Nat.reduceEqDiff, Nat.reduceMul, true_and, and_true, Option.some.injEq, exists_eq_left', Nat.le_refl, Nat.zero_le, reduceIte, Nat.add_zero, Nat.zero_add, l_4, N_add]
    exact ⟨by rw [show 4 * t + 4 = 4 * (t + 1) by omega], Z2, a, b, c⟩
  · rintro L M' ⟨rfl, Z1, c1, x1, z1⟩
    have hcmp : (nI Ls - 4 < nI (4 * (Ls / 4))) = True := eq_true (by
      by_cases e : 4 ≤ Ls
      · rw [N_s4 e, N_lt (by omega) (by omega)]; omega
      · rcases (show Ls = 0 ∨ Ls = 1 ∨ Ls = 2 ∨ Ls = 3 by omega) with rfl | rfl | rfl | rfl <;> decide)
    simp only [B_law, wp_con, wp_ild0, wp_ald0, wp_ist0, wp_inc0, wp_ild1, wp_ald1, wp_ist1n, wp_inc1n, wp_ist1i, wp_inc1i, wp_ist1r, wp_inc1r, wp_ild2, wp_ald2, wp_ist2n, wp_inc2n, wp_ist2i, wp_inc2i, wp_ist2r, wp_inc2r, wp_ild3, wp_ald3, wp_ist3n, wp_inc3n, wp_ist3i, wp_inc3i, wp_ist3r, wp_inc3r, wp_ild4, wp_ald4, wp_ist4n, wp_inc4n, wp_ist4i, wp_inc4i, wp_ist4r, wp_inc4r, wp_ild5, wp_ald5, wp_ist5n, wp_inc5n, wp_ist5i, wp_inc5i, wp_ist5r, wp_inc5r, wp_ild6, wp_ald6, wp_ist6n, wp_inc6n, wp_ist6i, wp_inc6i, wp_ist6r, wp_inc6r, wp_ild7, wp_ald7, wp_ist7n, wp_inc7n, wp_ist7i, wp_inc7i, wp_ist7r, wp_inc7r, wp_ild8, wp_ald8, wp_ist8n, wp_inc8n, wp_ist8i, wp_inc8i, wp_ist8r, wp_inc8r, wp_ild9, wp_ald9, wp_ist9n, wp_inc9n, wp_ist9i, wp_inc9i, wp_ist9r, wp_inc9r, wp_bin, wp_div, wp_dupi, wp_dupr, wp_dup2, wp_popi, wp_popr, wp_ifeq, wp_ifne, wp_iflt, wp_ifge, wp_ifgt, wp_ifle, wp_iceq, wp_icne, wp_iclt, wp_icge, wp_icgt, wp_icle, wp_jmp, wp_seq, sq_j, sq_r, lq_j, lq_r, eq_r, wp_kil, wp_ret, wp_zret, wp_vret, wp_aret, wp_gfi, wp_gfr, wp_pfi, wp_pfz, wp_ial, wp_ias, wp_aal, wp_gst, wp_sal, wp_min, wp_calV0, wp_calV1, wp_calS1, wp_calV2, wp_calS2, wp_calV3, wp_calS3, wp_calV4, wp_calS4, wp_calV5, wp_calS5, wp_acp, wp_i2l, wp_l2i, wp_lcon, wp_lbin, wp_ldiv, psh_s, psh_n, en, List.map_cons, List.map_nil, List.cons_append, List.nil_append, List.length_cons, List.length_nil, List.replicate_succ, List.replicate_zero, List.zipWith_cons_cons, List.zipWith_nil_left, List.zipWith_nil_right, if_true, if_false, Bool.false_eq_true, Nat.reduceAdd, Nat.reduceSub, Nat.reduceLeDiff, Nat.reduceEqDiff, Nat.reduceMul, true_and, and_true, Option.some.injEq, exists_eq_left', Nat.le_refl, Nat.zero_le, reduceIte, Nat.add_zero, Nat.zero_add, wp_sln, f_sub, hcmp, bI_t, bI_f, z10, eq_self, not_true_eq_false, not_false_eq_true, true_implies, false_implies, true_and, and_true]
    exact ⟨_, _, rfl⟩
