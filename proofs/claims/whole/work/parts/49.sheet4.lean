/-! ===== the class: Sheet, countRedundant, copyFrom, removeStyle ===== -/
def tdA (S : vS) (b : Bool) : vS := setSt S (rwRed S (stS S) b (fun _ _ => true))
def tdy (S : vS) (b : Bool) : vS := setPa (tdA S b) (rwRed (tdA S b) (paS (tdA S b)) b (fun _ _ => true))
def cr (S : vS) : Nat := cred S (stS S) (stS S).1 + cred S (paS S) (paS S).1
theorem red_tdA {S : vS} (h : vOK S) {b : Bool} {j k : Nat} (hj : j < (paS S).1) : red (tdA S b) (paS S) j k = red S (paS S) j k := by
  unfold red
  rw [show vst (tdA S b) k 6 ((paS S).2.1 j) = vst S k 6 ((paS S).2.1 j) from vst_red6 h (sOK_p h hj)]
theorem cred_tdA {S : vS} (h : vOK S) {b : Bool} : cred (tdA S b) (paS S) (paS S).1 = cred S (paS S) (paS S).1 := by
  refine sm_eq _ (fun j hj => ?_)
  refine sm_eq _ (fun k _ => ?_)
  show (if red (tdA S b) (paS S) j k then 1 else 0) = if red S (paS S) j k then 1 else 0
  rw [red_tdA h hj]
theorem v_countRed {M : vM} {S : vS} (hS : rS1 M S) (h : vOK S) (b : Bool) : wpF F_X8_countRedundant [.ref 1, .int (bI b)] gA M (fun v G' M' => G' = gA ∧ v = some (.int (nI (cr S))) ∧ rS1 M' (tdy S b) ∧ frN M M') := by
  refine run_wp ⟨Nat.le_of_ble_eq_true rfl, rfl⟩ ?_
  simp only [D_X8_countRedundant, wp_con, wp_ild0, wp_ald0, wp_ist0, wp_inc0, wp_ild1, wp_ald1, wp_ist1n, wp_inc1n, wp_ist1i, wp_inc1i, wp_ist1r, wp_inc1r, wp_ild2, wp_ald2, wp_ist2n, wp_inc2n, wp_ist2i, wp_inc2i, wp_ist2r, wp_inc2r, wp_ild3, wp_ald3, wp_ist3n, wp_inc3n, wp_ist3i, wp_inc3i, wp_ist3r, wp_inc3r, wp_ild4, wp_ald4, wp_ist4n, wp_inc4n, wp_ist4i, wp_inc4i, wp_ist4r, wp_inc4r, wp_ild5, wp_ald5, wp_ist5n, wp_inc5n, wp_ist5i, wp_inc5i, wp_ist5r, wp_inc5r, wp_ild6, wp_ald6, wp_ist6n, wp_inc6n, wp_ist6i, wp_inc6i, wp_ist6r, wp_inc6r, wp_ild7, wp_ald7, wp_ist7n, wp_inc7n, wp_ist7i, wp_inc7i, wp_ist7r, wp_inc7r, wp_ild8, wp_ald8, wp_ist8n, wp_inc8n, wp_ist8i, wp_inc8i, wp_ist8r, wp_inc8r, wp_ild9, wp_ald9, wp_ist9n, wp_inc9n, wp_ist9i, wp_inc9i, wp_ist9r, wp_inc9r, wp_bin, wp_div, wp_dupi, wp_dupr, wp_dup2, wp_popi, wp_popr, wp_ifeq, wp_ifne, wp_iflt, wp_ifge, wp_ifgt, wp_ifle, wp_iceq, wp_icne, wp_iclt, wp_icge, wp_icgt, wp_icle, wp_jmp, wp_seq, sq_j, sq_r, lq_j, lq_r, eq_r, wp_kil, wp_ret, wp_zret, wp_vret, wp_aret, wp_gfi, wp_gfr, wp_pfi, wp_pfz, wp_ial, wp_ias, wp_aal, wp_gst, wp_sal, wp_min, wp_calV0, wp_calV1, wp_calS1, wp_calV2, wp_calS2, wp_calV3, wp_calS3, wp_calV4, wp_calS4, wp_calV5, wp_calS5, wp_acp, wp_i2l, wp_l2i, wp_lcon, wp_lbin, wp_ldiv, psh_s, psh_n, en, List.map_cons, List.map_nil, List.cons_append, List.nil_append, List.length_cons, List.length_nil, List.replicate_succ, List.replicate_zero, List.zipWith_cons_cons, List.zipWith_nil_left, List.zipWith_nil_right, if_true, if_false, Bool.false_eq_true, Nat.reduceAdd, Nat.reduceSub, Nat.reduceLeDiff, Nat.reduceEqDiff, Nat.reduceMul, true_and, and_true, Option.some.injEq, exists_eq_left', Nat.le_refl, Nat.zero_le, reduceIte, Nat.add_zero, Nat.zero_add, xF0, xF1, xF2, xF3]
  refine wpF_mono (v_redundantSt hS h b) ?_
  rintro v G' M1 ⟨rfl, rfl, h1, f1⟩
  simp only [wp_con, wp_ild0, wp_ald0, wp_ist0, wp_inc0, wp_ild1, wp_ald1, wp_ist1n, wp_inc1n, wp_ist1i, wp_inc1i, wp_ist1r, wp_inc1r, wp_ild2, wp_ald2, wp_ist2n, wp_inc2n, wp_ist2i, wp_inc2i, wp_ist2r, wp_inc2r, wp_ild3, wp_ald3, wp_ist3n, wp_inc3n, wp_ist3i, wp_inc3i, wp_ist3r, wp_inc3r, wp_ild4, wp_ald4, wp_ist4n, wp_inc4n, wp_ist4i, wp_inc4i, wp_ist4r, wp_inc4r, wp_ild5, wp_ald5, wp_ist5n, wp_inc5n, wp_ist5i, wp_inc5i, wp_ist5r, wp_inc5r, wp_ild6, wp_ald6, wp_ist6n, wp_inc6n, wp_ist6i, wp_inc6i, wp_ist6r, wp_inc6r, wp_ild7, wp_ald7, wp_ist7n, wp_inc7n, wp_ist7i, wp_inc7i, wp_ist7r, wp_inc7r, wp_ild8, wp_ald8, wp_ist8n, wp_inc8n, wp_ist8i, wp_inc8i, wp_ist8r, wp_inc8r, wp_ild9, wp_ald9, wp_ist9n, wp_inc9n, wp_ist9i, wp_inc9i, wp_ist9r, wp_inc9r, wp_bin, wp_div, wp_dupi, wp_dupr, wp_dup2, wp_popi, wp_popr, wp_ifeq, wp_ifne, wp_iflt, wp_ifge, wp_ifgt, wp_ifle, wp_iceq, wp_icne, wp_iclt, wp_icge, wp_icgt, wp_icle, wp_jmp, wp_seq, sq_j, sq_r, lq_j, lq_r, eq_r, wp_kil, wp_ret, wp_zret, wp_vret, wp_aret, wp_gfi, wp_gfr, wp_pfi, wp_pfz, wp_ial, wp_ias, wp_aal, wp_gst, wp_sal, wp_min, wp_calV0, wp_calV1, wp_calS1, wp_calV2, wp_calS2, wp_calV3, wp_calS3, wp_calV4, wp_calS4, wp_calV5, wp_calS5, wp_acp, wp_i2l, wp_l2i, wp_lcon, wp_lbin, wp_ldiv, psh_s, psh_n, en, List.map_cons, List.map_nil, List.cons_append, List.nil_append, List.length_cons, List.length_nil, List.replicate_succ, List.replicate_zero, List.zipWith_cons_cons, List.zipWith_nil_left, List.zipWith_nil_right, if_true, if_false, Bool.false_eq_true, Nat.reduceAdd, Nat.reduceSub, Nat.reduceLeDiff, Nat.reduceEqDiff, Nat.reduceMul, true_and, and_true, Option.some.injEq, exists_eq_left', Nat.le_refl, Nat.zero_le, reduceIte, Nat.add_zero, Nat.zero_add, xF0, xF1, xF2, xF3]
  refine wpF_mono (v_redundantPa h1 (ok_redS h b _) b) ?_
  rintro v G' M2 ⟨rfl, rfl, h2, f2⟩
  simp only [wp_con, wp_ild0, wp_ald0, wp_ist0, wp_inc0, wp_ild1, wp_ald1, wp_ist1n, wp_inc1n, wp_ist1i, wp_inc1i, wp_ist1r, wp_inc1r, wp_ild2, wp_ald2, wp_ist2n, wp_inc2n, wp_ist2i, wp_inc2i, wp_ist2r, wp_inc2r, wp_ild3, wp_ald3, wp_ist3n, wp_inc3n, wp_ist3i, wp_inc3i, wp_ist3r, wp_inc3r, wp_ild4, wp_ald4, wp_ist4n, wp_inc4n, wp_ist4i, wp_inc4i, wp_ist4r, wp_inc4r, wp_ild5, wp_ald5, wp_ist5n, wp_inc5n, wp_ist5i, wp_inc5i, wp_ist5r, wp_inc5r, wp_ild6, wp_ald6, wp_ist6n, wp_inc6n, wp_ist6i, wp_inc6i, wp_ist6r, wp_inc6r, wp_ild7, wp_ald7, wp_ist7n, wp_inc7n, wp_ist7i, wp_inc7i, wp_ist7r, wp_inc7r, wp_ild8, wp_ald8, wp_ist8n, wp_inc8n, wp_ist8i, wp_inc8i, wp_ist8r, wp_inc8r, wp_ild9, wp_ald9, wp_ist9n, wp_inc9n, wp_ist9i, wp_inc9i, wp_ist9r, wp_inc9r, wp_bin, wp_div, wp_dupi, wp_dupr, wp_dup2, wp_popi, wp_popr, wp_ifeq, wp_ifne, wp_iflt, wp_ifge, wp_ifgt, wp_ifle, wp_iceq, wp_icne, wp_iclt, wp_icge, wp_icgt, wp_icle, wp_jmp, wp_seq, sq_j, sq_r, lq_j, lq_r, eq_r, wp_kil, wp_ret, wp_zret, wp_vret, wp_aret, wp_gfi, wp_gfr, wp_pfi, wp_pfz, wp_ial, wp_ias, wp_aal, wp_gst, wp_sal, wp_min, wp_calV0, wp_calV1, wp_calS1, wp_calV2, wp_calS2, wp_calV3, wp_calS3, wp_calV4, wp_calS4, wp_calV5, wp_calS5, wp_acp, wp_i2l, wp_l2i, wp_lcon, wp_lbin, wp_ldiv, psh_s, psh_n, en, List.map_cons, List.map_nil, List.cons_append, List.nil_append, List.length_cons, List.length_nil, List.replicate_succ, List.replicate_zero, List.zipWith_cons_cons, List.zipWith_nil_left, List.zipWith_nil_right, if_true, if_false, Bool.false_eq_true, Nat.reduceAdd, Nat.reduceSub, Nat.reduceLeDiff, Nat.reduceEqDiff, Nat.reduceMul, true_and, and_true, Option.some.injEq, exists_eq_left', Nat.le_refl, Nat.zero_le, reduceIte, Nat.add_zero, Nat.zero_add, f_add, N_add]
  exact ⟨by rw [show cred (setSt S (rwRed S (stS S) b fun _ _ => true)) (paS (setSt S (rwRed S (stS S) b fun _ _ => true))) (paS (setSt S (rwRed S (stS S) b fun _ _ => true))).1 = cred S (paS S) (paS S).1 from cred_tdA h]; rfl, h2, frN_tr f1 f2⟩
theorem rwRed_f {S : vS} {R : vRw} {P : Nat → Nat → Bool} : rwRed S R false P = R := by
  obtain ⟨n, b, o⟩ := R
  simp [rwRed]
theorem tdy_f (S : vS) : tdy S false = S := by
  unfold tdy tdA
  rw [rwRed_f, rwRed_f]
  rfl
theorem tdy_ok {S : vS} (h : vOK S) (b : Bool) : vOK (tdy S b) := ok_redP (ok_redS h b _) b _
/-- the sheets -/
def isSh (t : Nat) : Prop := gAt gA t 8 = true ∧ gR gA t 1 = some (t + 1) ∧ gR gA t 2 = some (t + 2) ∧ gR gA t 3 = some (t + 5) ∧ gAt gA (t + 1) 100 = true ∧ gL gA (t + 1) = 6 ∧ isR (t + 2) ∧ isR (t + 5)
def frS (t : Nat) (M M' : vM) : Prop := (∀ a, a < t ∨ t + 7 < a → M' a = M a) ∧ M' (t + 2) 0 = M (t + 2) 0 ∧ M' (t + 5) 0 = M (t + 5) 0
theorem v_copySheet {t u : Nat} (ht : isSh t) (hu : isSh u) (hd : u + 7 < t ∨ t + 7 < u) {M : vM} {S : vS} (hS : rSh M u S) (h1 : (stS S).1 ≤ 8) (h2 : (paS S).1 ≤ 8) : wpF F_X8_copyFrom [.ref t, .ref u] gA M (fun v G' M' => G' = gA ∧ v = none ∧ rSh M' t S ∧ frS t M M') := by
  obtain ⟨t0, t1, t2, t3, t4, t5, t6, t7⟩ := id ht
  obtain ⟨u0, u1, u2, u3, u4, u5, u6, u7⟩ := id hu
  obtain ⟨s0, s1, s2, s3⟩ := hS
  refine run_wp ⟨Nat.le_of_ble_eq_true rfl, rfl⟩ ?_
  have z0 : (0 : Int32).toNatClampNeg = 0 := by decide
  have z6 : (6 : Int32).toNatClampNeg = 6 := by decide
  have tg := t6.1
  have tg' := t7.1
  simp only [D_X8_copyFrom, wp_con, wp_ild0, wp_ald0, wp_ist0, wp_inc0, wp_ild1, wp_ald1, wp_ist1n, wp_inc1n, wp_ist1i, wp_inc1i, wp_ist1r, wp_inc1r, wp_ild2, wp_ald2, wp_ist2n, wp_inc2n, wp_ist2i, wp_inc2i, wp_ist2r, wp_inc2r, wp_ild3, wp_ald3, wp_ist3n, wp_inc3n, wp_ist3i, wp_inc3i, wp_ist3r, wp_inc3r, wp_ild4, wp_ald4, wp_ist4n, wp_inc4n, wp_ist4i, wp_inc4i, wp_ist4r, wp_inc4r, wp_ild5, wp_ald5, wp_ist5n, wp_inc5n, wp_ist5i, wp_inc5i, wp_ist5r, wp_inc5r, wp_ild6, wp_ald6, wp_ist6n, wp_inc6n, wp_ist6i, wp_inc6i, wp_ist6r, wp_inc6r, wp_ild7, wp_ald7, wp_ist7n, wp_inc7n, wp_ist7i, wp_inc7i, wp_ist7r, wp_inc7r, wp_ild8, wp_ald8, wp_ist8n, wp_inc8n, wp_ist8i, wp_inc8i, wp_ist8r, wp_inc8r, wp_ild9, wp_ald9, wp_ist9n, wp_inc9n, wp_ist9i, wp_inc9i, wp_ist9r, wp_inc9r, wp_bin, wp_div, wp_dupi, wp_dupr, wp_dup2, wp_popi, wp_popr, wp_ifeq, wp_ifne, wp_iflt, wp_ifge, wp_ifgt, wp_ifle, wp_iceq, wp_icne, wp_iclt, wp_icge, wp_icgt, wp_icle, wp_jmp, wp_seq, sq_j, sq_r, lq_j, lq_r, eq_r, wp_kil, wp_ret, wp_zret, wp_vret, wp_aret, wp_gfi, wp_gfr, wp_pfi, wp_pfz, wp_ial, wp_ias, wp_aal, wp_gst, wp_sal, wp_min, wp_calV0, wp_calV1, wp_calS1, wp_calV2, wp_calS2, wp_calV3, wp_calS3, wp_calV4, wp_calS4, wp_calV5, wp_calS5, wp_acp, wp_i2l, wp_l2i, wp_lcon, wp_lbin, wp_ldiv, psh_s, psh_n, en, List.map_cons, List.map_nil, List.cons_append, List.nil_append, List.length_cons, List.length_nil, List.replicate_succ, List.replicate_zero, List.zipWith_cons_cons, List.zipWith_nil_left, List.zipWith_nil_right, if_true, if_false, Bool.false_eq_true, Nat.reduceAdd, Nat.reduceSub, Nat.reduceLeDiff, Nat.reduceEqDiff, Nat.reduceMul, true_and, and_true, Option.some.injEq, exists_eq_left', Nat.le_refl, Nat.zero_le, reduceIte, Nat.add_zero, Nat.zero_add, t0, t1, t2, t3, t4, t5, u0, u1, u2, u3, u4, u5, z0, z6, tg, tg']
  refine ⟨⟨by decide, by decide, by decide⟩, ?_⟩
  generalize hM1 : mcpy (mset M t 0 (M u 0)) (u + 1) (t + 1) 0 0 6 = M1
  have q1 : ∀ a, a ≠ t → a ≠ t + 1 → M1 a = M a := fun a a0 a1 => by rw [← hM1, mcpy_ne a1, ms_a a0]
  have q2 : rRw M1 (u + 2) (stS S) := by
    unfold rRw
    rw [q1 (u + 2) (by omega) (by omega), q1 (u + 2 + 1) (by omega) (by omega), q1 (u + 2 + 2) (by omega) (by omega)]
    exact s2
  refine wpF_mono (v_copyFrom t6 u6 (by omega) q2 h1) ?_
  rintro v G' M2 ⟨rfl, rfl, r2, f2⟩
  simp only [wp_con, wp_ild0, wp_ald0, wp_ist0, wp_inc0, wp_ild1, wp_ald1, wp_ist1n, wp_inc1n, wp_ist1i, wp_inc1i, wp_ist1r, wp_inc1r, wp_ild2, wp_ald2, wp_ist2n, wp_inc2n, wp_ist2i, wp_inc2i, wp_ist2r, wp_inc2r, wp_ild3, wp_ald3, wp_ist3n, wp_inc3n, wp_ist3i, wp_inc3i, wp_ist3r, wp_inc3r, wp_ild4, wp_ald4, wp_ist4n, wp_inc4n, wp_ist4i, wp_inc4i, wp_ist4r, wp_inc4r, wp_ild5, wp_ald5, wp_ist5n, wp_inc5n, wp_ist5i, wp_inc5i, wp_ist5r, wp_inc5r, wp_ild6, wp_ald6, wp_ist6n, wp_inc6n, wp_ist6i, wp_inc6i, wp_ist6r, wp_inc6r, wp_ild7, wp_ald7, wp_ist7n, wp_inc7n, wp_ist7i, wp_inc7i, wp_ist7r, wp_inc7r, wp_ild8, wp_ald8, wp_ist8n, wp_inc8n, wp_ist8i, wp_inc8i, wp_ist8r, wp_inc8r, wp_ild9, wp_ald9, wp_ist9n, wp_inc9n, wp_ist9i, wp_inc9i, wp_ist9r, wp_inc9r, wp_bin, wp_div, wp_dupi, wp_dupr, wp_dup2, wp_popi, wp_popr, wp_ifeq, wp_ifne, wp_iflt, wp_ifge, wp_ifgt, wp_ifle, wp_iceq, wp_icne, wp_iclt, wp_icge, wp_icgt, wp_icle, wp_jmp, wp_seq, sq_j, sq_r, lq_j, lq_r, eq_r, wp_kil, wp_ret, wp_zret, wp_vret, wp_aret, wp_gfi, wp_gfr, wp_pfi, wp_pfz, wp_ial, wp_ias, wp_aal, wp_gst, wp_sal, wp_min, wp_calV0, wp_calV1, wp_calS1, wp_calV2, wp_calS2, wp_calV3, wp_calS3, wp_calV4, wp_calS4, wp_calV5, wp_calS5, wp_acp, wp_i2l, wp_l2i, wp_lcon, wp_lbin, wp_ldiv, psh_s, psh_n, en, List.map_cons, List.map_nil, List.cons_append, List.nil_append, List.length_cons, List.length_nil, List.replicate_succ, List.replicate_zero, List.zipWith_cons_cons, List.zipWith_nil_left, List.zipWith_nil_right, if_true, if_false, Bool.false_eq_true, Nat.reduceAdd, Nat.reduceSub, Nat.reduceLeDiff, Nat.reduceEqDiff, Nat.reduceMul, true_and, and_true, Option.some.injEq, exists_eq_left', Nat.le_refl, Nat.zero_le, reduceIte, Nat.add_zero, Nat.zero_add, t0, t3, u0, u3, tg']
  have q3 : rRw M2 (u + 5) (paS S) := by
    unfold rRw
    rw [f2.1 (u + 5) (by omega) (by omega) (by omega), f2.1 (u + 5 + 1) (by omega) (by omega) (by omega), f2.1 (u + 5 + 2) (by omega) (by omega) (by omega), q1 (u + 5) (by omega) (by omega), q1 (u + 5 + 1) (by omega) (by omega), q1 (u + 5 + 2) (by omega) (by omega)]
    exact s3
  refine wpF_mono (v_copyFrom t7 u7 (by omega) q3 h2) ?_
  rintro v G' M3 ⟨rfl, rfl, r3, f3⟩
  simp only [wp_con, wp_ild0, wp_ald0, wp_ist0, wp_inc0, wp_ild1, wp_ald1, wp_ist1n, wp_inc1n, wp_ist1i, wp_inc1i, wp_ist1r, wp_inc1r, wp_ild2, wp_ald2, wp_ist2n, wp_inc2n, wp_ist2i, wp_inc2i, wp_ist2r, wp_inc2r, wp_ild3, wp_ald3, wp_ist3n, wp_inc3n, wp_ist3i, wp_inc3i, wp_ist3r, wp_inc3r, wp_ild4, wp_ald4, wp_ist4n, wp_inc4n, wp_ist4i, wp_inc4i, wp_ist4r, wp_inc4r, wp_ild5, wp_ald5, wp_ist5n, wp_inc5n, wp_ist5i, wp_inc5i, wp_ist5r, wp_inc5r, wp_ild6, wp_ald6, wp_ist6n, wp_inc6n, wp_ist6i, wp_inc6i, wp_ist6r, wp_inc6r, wp_ild7, wp_ald7, wp_ist7n, wp_inc7n, wp_ist7i, wp_inc7i, wp_ist7r, wp_inc7r, wp_ild8, wp_ald8, wp_ist8n, wp_inc8n, wp_ist8i, wp_inc8i, wp_ist8r, wp_inc8r, wp_ild9, wp_ald9, wp_ist9n, wp_inc9n, wp_ist9i, wp_inc9i, wp_ist9r, wp_inc9r, wp_bin, wp_div, wp_dupi, wp_dupr, wp_dup2, wp_popi, wp_popr, wp_ifeq, wp_ifne, wp_iflt, wp_ifge, wp_ifgt, wp_ifle, wp_iceq, wp_icne, wp_iclt, wp_icge, wp_icgt, wp_icle, wp_jmp, wp_seq, sq_j, sq_r, lq_j, lq_r, eq_r, wp_kil, wp_ret, wp_zret, wp_vret, wp_aret, wp_gfi, wp_gfr, wp_pfi, wp_pfz, wp_ial, wp_ias, wp_aal, wp_gst, wp_sal, wp_min, wp_calV0, wp_calV1, wp_calS1, wp_calV2, wp_calS2, wp_calV3, wp_calS3, wp_calV4, wp_calS4, wp_calV5, wp_calS5, wp_acp, wp_i2l, wp_l2i, wp_lcon, wp_lbin, wp_ldiv, psh_s, psh_n, en, List.map_cons, List.map_nil, List.cons_append, List.nil_append, List.length_cons, List.length_nil, List.replicate_succ, List.replicate_zero, List.zipWith_cons_cons, List.zipWith_nil_left, List.zipWith_nil_right, if_true, if_false, Bool.false_eq_true, Nat.reduceAdd, Nat.reduceSub, Nat.reduceLeDiff, Nat.reduceEqDiff, Nat.reduceMul, true_and, and_true, Option.some.injEq, exists_eq_left', Nat.le_refl, Nat.zero_le, reduceIte, Nat.add_zero, Nat.zero_add]
  refine ⟨⟨?_, fun k hk => ?_, ?_, r3⟩, fun a ha => ?_, ?_, ?_⟩
  · rw [f3.1 t (by omega) (by omega) (by omega), f2.1 t (by omega) (by omega) (by omega), ← hM1, mcpy_ne (by omega), ms_eq]
    exact s0
  · rw [f3.1 (t + 1) (by omega) (by omega) (by omega), f2.1 (t + 1) (by omega) (by omega) (by omega), ← hM1, cp_in (by omega), ms_a (by omega), show 0 + (k - 0) = k by omega]
    exact s1 k hk
  · unfold rRw
    rw [f3.1 (t + 2) (by omega) (by omega) (by omega), f3.1 (t + 2 + 1) (by omega) (by omega) (by omega), f3.1 (t + 2 + 2) (by omega) (by omega) (by omega)]
    exact r2
  · rw [f3.1 a (by omega) (by omega) (by omega), f2.1 a (by omega) (by omega) (by omega), q1 a (by omega) (by omega)]
  · rw [f3.1 (t + 2) (by omega) (by omega) (by omega), f2.2, q1 (t + 2) (by omega) (by omega)]
  · rw [f3.2, f2.1 (t + 5) (by omega) (by omega) (by omega), q1 (t + 5) (by omega) (by omega)]
/-! a style goes -/
def rsO (l bl k : Nat) : Option Nat := if un l k = un bl k then none else some (un l k)
def drA (S : vS) (g i : Nat) : vS := setSt S ((stS S).1, (fun x => if x < i ∧ (stS S).2.1 x = some g then (stS S).2.1 g else (stS S).2.1 x), (fun x k => if x < i ∧ (stS S).2.1 x = some g then rsO (lkS S (some x)) (lkS S ((stS S).2.1 g)) k else (stS S).2.2 x k))
theorem rsO_v {l bl k : Nat} : (match rsO l bl k with | some v => v | none => un bl k) = un l k := rest_own
theorem rsO_top {l bl k v : Nat} {t : Nat} (h : un l k ≤ t) (hv : rsO l bl k = some v) : v ≤ t := by
  unfold rsO at hv
  split at hv
  · cases hv
  · cases hv; exact h
theorem drA_ok {S : vS} (h : vOK S) {g : Nat} (hg : g < (stS S).1) (i : Nat) : vOK (drA S g i) ∧ ∀ k, k < 6 → ∀ o, sOK S o → vst (drA S g i) k 6 o = vst S k 6 o := by
  have h6 := ns_le h
  have hb : ∀ x, (stS (drA S g i)).2.1 x = if x < i ∧ (stS S).2.1 x = some g then (stS S).2.1 g else (stS S).2.1 x := fun _ => rfl
  have hov : ∀ x k, (stS (drA S g i)).2.2 x k = if x < i ∧ (stS S).2.1 x = some g then rsO (lkS S (some x)) (lkS S ((stS S).2.1 g)) k else (stS S).2.2 x k := fun _ _ => rfl
  have hbv : ∀ x, x < (stS S).1 → ∀ y, (stS (drA S g i)).2.1 x = some y → y < (stS S).1 := by
    intro x hx y hy
    rw [hb] at hy
    split at hy
    · exact sOK_b h hg y hy
    · exact sOK_b h hx y hy
  have ha : ∀ x, x < (stS (drA S g i)).1 → it (drA S g i) 6 (some x) = none := by
    intro x hx
    refine it_more _ _ (acy_rank (n := (stS S).1) (fun x => anc S 6 (some x)) (fun x hx y hy => ⟨hbv x hx y hy, ?_⟩) x hx) 6 h6
    rw [hb] at hy
    split at hy
    · next e =>
      have e1 := anc_step h hx
      have e2 := anc_step h hg
      rw [e.2] at e1
      rw [hy] at e2
      omega
    · have e1 := anc_step h hx
      rw [hy] at e1
      omega
  refine ⟨⟨h.1, h.2.1, ⟨(h.2.2.1).1, fun j hj => ⟨hbv j hj, fun k hk v hv => ?_⟩⟩, ⟨(h.2.2.2.1).1, (h.2.2.2.1).2⟩, ha⟩, fun k hk o ho => ?_⟩
  · rw [hov] at hv
    split at hv
    · refine rsO_top ?_ hv
      rw [(lkS_ok h (sOK_s hj)).2 k hk]
      exact vst_ok h hk 6 _ (sOK_s hj)
    · exact ((h.2.2.1).2 j hj).2 k hk v hv
  · refine vst_keep h ha rfl rfl hbv (fun x hx => ?_) 6 o (Nat.le_refl _) ho ?_
    · rw [hb, hov]
      by_cases hc : x < i ∧ (stS S).2.1 x = some g
      · rw [if_pos hc, if_pos hc, ← (lkS_ok h (sOK_b h hg)).2 k hk, ← (lkS_ok h (sOK_s hx)).2 k hk]
        exact rsO_v
      · rw [if_neg hc, if_neg hc, vst_step h hx]
    · cases o with
      | none => rfl
      | some x => exact ha x (ho x rfl)
theorem lkS_eq {S S' : vS} {o : Option Nat} (h : ∀ k, k < 6 → vst S' k 6 o = vst S k 6 o) : lkS S' o = lkS S o := lc_un h
theorem drA_next {S : vS} (h : vOK S) {g : Nat} (hg : g < (stS S).1) {i : Nat} (hi : i < (stS S).1) : drA S g (i + 1) = if (stS S).2.1 i = some g then rebS (drA S g i) i ((stS S).2.1 g) else drA S g i := by
  have ok := drA_ok h hg i
  by_cases hc : (stS S).2.1 i = some g
  · rw [if_pos hc]
    unfold rebS
    rw [lkS_eq (fun k hk => ok.2 k hk _ (sOK_s hi)), lkS_eq (fun k hk => ok.2 k hk _ (sOK_b h hg))]
    refine congrArg (setSt S) ?_
    show ((stS S).1, _, _) = ((stS S).1, _, _)
    congr 2
    · funext x
      show (if x < i + 1 ∧ (stS S).2.1 x = some g then _ else _) = if x = i then _ else if x < i ∧ (stS S).2.1 x = some g then _ else _
      by_cases hx : x = i
      · subst hx
        simp [hc]
      · simp only [hx, if_false]
        by_cases hx2 : x < i ∧ (stS S).2.1 x = some g
        · rw [if_pos hx2, if_pos ⟨by omega, hx2.2⟩]
        · rw [if_neg hx2, if_neg (fun q => hx2 ⟨by omega, q.2⟩)]
    · funext x k
      show (if x < i + 1 ∧ (stS S).2.1 x = some g then _ else _) = if x = i then _ else if x < i ∧ (stS S).2.1 x = some g then _ else _
      by_cases hx : x = i
      · subst hx
        simp [hc, rsO]
      · simp only [hx, if_false]
        by_cases hx2 : x < i ∧ (stS S).2.1 x = some g
        · rw [if_pos hx2, if_pos ⟨by omega, hx2.2⟩]
        · rw [if_neg hx2, if_neg (fun q => hx2 ⟨by omega, q.2⟩)]
  · rw [if_neg hc]
    unfold drA
    congr 3
    · funext x
      by_cases hx : x = i
      · subst hx
        simp [hc]
      · by_cases hx2 : x < i ∧ (stS S).2.1 x = some g
        · rw [if_pos hx2, if_pos ⟨by omega, hx2.2⟩]
        · rw [if_neg hx2, if_neg (fun q => hx2 ⟨by omega, q.2⟩)]
    · funext x k
      by_cases hx : x = i
      · subst hx
        simp [hc]
      · by_cases hx2 : x < i ∧ (stS S).2.1 x = some g
        · rw [if_pos hx2, if_pos ⟨by omega, hx2.2⟩]
        · rw [if_neg hx2, if_neg (fun q => hx2 ⟨by omega, q.2⟩)]
