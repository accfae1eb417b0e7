/-! ===== the class: Sheet, removeStyle ===== -/
def drB (S : vS) (g i : Nat) : vS := setPa (drA S g (stS S).1) ((paS S).1, (fun x => if x < i ∧ (paS S).2.1 x = some g then (stS S).2.1 g else (paS S).2.1 x), (fun x k => if x < i ∧ (paS S).2.1 x = some g then rsO (lkP S x) (lkS S ((stS S).2.1 g)) k else (paS S).2.2 x k))
theorem drB_ok {S : vS} (h : vOK S) {g : Nat} (hg : g < (stS S).1) (i : Nat) : vOK (drB S g i) ∧ (∀ k, k < 6 → ∀ o, sOK S o → vst (drB S g i) k 6 o = vst S k 6 o) ∧ ∀ k, k < 6 → ∀ p, p < (paS S).1 → vpa (drB S g i) p k = vpa S p k := by
  have ok := drA_ok h hg (stS S).1
  have hv : ∀ k, k < 6 → ∀ o, sOK S o → vst (drB S g i) k 6 o = vst S k 6 o := fun k hk o ho => (vst_pa 6 o).trans (ok.2 k hk o ho)
  have hb : ∀ x, (paS (drB S g i)).2.1 x = if x < i ∧ (paS S).2.1 x = some g then (stS S).2.1 g else (paS S).2.1 x := fun _ => rfl
  have hov : ∀ x k, (paS (drB S g i)).2.2 x k = if x < i ∧ (paS S).2.1 x = some g then rsO (lkP S x) (lkS S ((stS S).2.1 g)) k else (paS S).2.2 x k := fun _ _ => rfl
  have hit : ∀ n o, it (drB S g i) n o = it (drA S g (stS S).1) n o := by
    intro n
    induction n with
    | zero => intro o; rfl
    | succ n ih =>
      intro o
      cases o with
      | none => rfl
      | some a => exact ih _
  refine ⟨⟨h.1, h.2.1, ok.1.2.2.1, ⟨(h.2.2.2.1).1, fun j hj => ⟨fun y hy => ?_, fun k hk v hv' => ?_⟩⟩, fun s hs => by rw [hit]; exact ok.1.2.2.2.2 s hs⟩, hv, fun k hk p hp => ?_⟩
  · rw [hb] at hy
    split at hy
    · exact sOK_b h hg y hy
    · exact sOK_p h hj y hy
  · rw [hov] at hv'
    split at hv'
    · refine rsO_top ?_ hv'
      rw [(lkP_ok h hj).2 k hk]
      exact vpa_ok h hj hk
    · exact ((h.2.2.2.1).2 j hj).2 k hk v hv'
  · show (match (paS (drB S g i)).2.2 p k with
      | some v => v
      | none => vst (drB S g i) k 6 ((paS (drB S g i)).2.1 p)) = _
    rw [hov, hb]
    by_cases hc : p < i ∧ (paS S).2.1 p = some g
    · rw [if_pos hc, if_pos hc, hv k hk _ (sOK_b h hg), ← (lkS_ok h (sOK_b h hg)).2 k hk]
      exact rsO_v.trans ((lkP_ok h hp).2 k hk)
    · rw [if_neg hc, if_neg hc, hv k hk _ (sOK_p h hp)]
      rfl
theorem lkP_eq {S S' : vS} {p : Nat} (h : ∀ k, k < 6 → vpa S' p k = vpa S p k) : lkP S' p = lkP S p := lc_un h
theorem drB_next {S : vS} (h : vOK S) {g : Nat} (hg : g < (stS S).1) {i : Nat} (hi : i < (paS S).1) : drB S g (i + 1) = if (paS S).2.1 i = some g then rebP (drB S g i) i ((stS S).2.1 g) else drB S g i := by
  have ok := drB_ok h hg i
  by_cases hc : (paS S).2.1 i = some g
  · rw [if_pos hc]
    unfold rebP
    rw [lkP_eq (fun k hk => ok.2.2 k hk _ hi), lkS_eq (fun k hk => ok.2.1 k hk _ (sOK_b h hg))]
    refine congrArg (setPa (drA S g (stS S).1)) ?_
    show ((paS S).1, _, _) = ((paS S).1, _, _)
    congr 2
    · funext x
      show (if x < i + 1 ∧ (paS S).2.1 x = some g then _ else _) = if x = i then _ else if x < i ∧ (paS S).2.1 x = some g then _ else _
      by_cases hx : x = i
      · subst hx
        simp [hc]
      · simp only [hx, if_false]
        by_cases hx2 : x < i ∧ (paS S).2.1 x = some g
        · rw [if_pos hx2, if_pos ⟨by omega, hx2.2⟩]
        · rw [if_neg hx2, if_neg (fun q => hx2 ⟨by omega, q.2⟩)]
    · funext x k
      show (if x < i + 1 ∧ (paS S).2.1 x = some g then _ else _) = if x = i then _ else if x < i ∧ (paS S).2.1 x = some g then _ else _
      by_cases hx : x = i
      · subst hx
        simp [hc, rsO]
      · simp only [hx, if_false]
        by_cases hx2 : x < i ∧ (paS S).2.1 x = some g
        · rw [if_pos hx2, if_pos ⟨by omega, hx2.2⟩]
        · rw [if_neg hx2, if_neg (fun q => hx2 ⟨by omega, q.2⟩)]
  · rw [if_neg hc]
    unfold drB
    congr 3
    · funext x
      by_cases hx : x = i
      · subst hx
        simp [hc]
      · by_cases hx2 : x < i ∧ (paS S).2.1 x = some g
        · rw [if_pos hx2, if_pos ⟨by omega, hx2.2⟩]
        · rw [if_neg hx2, if_neg (fun q => hx2 ⟨by omega, q.2⟩)]
    · funext x k
      by_cases hx : x = i
      · subst hx
        simp [hc]
      · by_cases hx2 : x < i ∧ (paS S).2.1 x = some g
        · rw [if_pos hx2, if_pos ⟨by omega, hx2.2⟩]
        · rw [if_neg hx2, if_neg (fun q => hx2 ⟨by omega, q.2⟩)]
theorem drA_0 (S : vS) (g : Nat) : drA S g 0 = S := by
  obtain ⟨a, b, ⟨c, d, e⟩, f⟩ := S
  simp [drA, setSt, stS]
theorem drB_0 (S : vS) (g : Nat) : drB S g 0 = drA S g (stS S).1 := by
  obtain ⟨a, b, c, ⟨d, e, f⟩⟩ := S
  simp [drB, drA, setPa, setSt, paS]
/-- style g gone -/
def drp (S : vS) (g : Nat) : vS := setPa (setSt (drB S g (paS S).1) (rwRen (rwRem (stS (drB S g (paS S).1)) g) g)) (rwRen (paS (drB S g (paS S).1)) g)
theorem v_removeStyle {M : vM} {S : vS} (hS : rS1 M S) (h : vOK S) {g : Nat} (hg : g < (stS S).1) : wpF F_X8_removeStyle [.ref 1, .int (nI g)] gA M (fun v G' M' => G' = gA ∧ v = none ∧ rS1 M' (drp S g) ∧ frN M M') := by
  have hn := ns_le h
  have hm := np_le h
  obtain ⟨hh, hgr, ⟨hs1, hs2⟩, ⟨hp1, hp2⟩⟩ := id hS
  refine run_wp ⟨Nat.le_of_ble_eq_true rfl, rfl⟩ ?_
  simp only [D_X8_removeStyle, wp_con, wp_ild0, wp_ald0, wp_ist0, wp_inc0, wp_ild1, wp_ald1, wp_ist1n, wp_inc1n, wp_ist1i, wp_inc1i, wp_ist1r, wp_inc1r, wp_ild2, wp_ald2, wp_ist2n, wp_inc2n, wp_ist2i, wp_inc2i, wp_ist2r, wp_inc2r, wp_ild3, wp_ald3, wp_ist3n, wp_inc3n, wp_ist3i, wp_inc3i, wp_ist3r, wp_inc3r, wp_ild4, wp_ald4, wp_ist4n, wp_inc4n, wp_ist4i, wp_inc4i, wp_ist4r, wp_inc4r, wp_ild5, wp_ald5, wp_ist5n, wp_inc5n, wp_ist5i, wp_inc5i, wp_ist5r, wp_inc5r, wp_ild6, wp_ald6, wp_ist6n, wp_inc6n, wp_ist6i, wp_inc6i, wp_ist6r, wp_inc6r, wp_ild7, wp_ald7, wp_ist7n, wp_inc7n, wp_ist7i, wp_inc7i, wp_ist7r, wp_inc7r, wp_ild8, wp_ald8, wp_ist8n, wp_inc8n, wp_ist8i, wp_inc8i, wp_ist8r, wp_inc8r, wp_ild9, wp_ald9, wp_ist9n, wp_inc9n, wp_ist9i, wp_inc9i, wp_ist9r, wp_inc9r, wp_bin, wp_div, wp_dupi, wp_dupr, wp_dup2, wp_popi, wp_popr, wp_ifeq, wp_ifne, wp_iflt, wp_ifge, wp_ifgt, wp_ifle, wp_iceq, wp_icne, wp_iclt, wp_icge, wp_icgt, wp_icle, wp_jmp, wp_seq, sq_j, sq_r, lq_j, lq_r, eq_r, wp_kil, wp_ret, wp_zret, wp_vret, wp_aret, wp_gfi, wp_gfr, wp_pfi, wp_pfz, wp_ial, wp_ias, wp_aal, wp_gst, wp_sal, wp_min, wp_calV0, wp_calV1, wp_calS1, wp_calV2, wp_calS2, wp_calV3, wp_calS3, wp_calV4, wp_calS4, wp_calV5, wp_calS5, wp_acp, wp_i2l, wp_l2i, wp_lcon, wp_lbin, wp_ldiv, psh_s, psh_n, en, List.map_cons, List.map_nil, List.cons_append, List.nil_append, List.length_cons, List.length_nil, List.replicate_succ, List.replicate_zero, List.zipWith_cons_cons, List.zipWith_nil_left, List.zipWith_nil_right, if_true, if_false, Bool.false_eq_true, Nat.reduceAdd, Nat.reduceSub, Nat.reduceLeDiff, Nat.reduceEqDiff, Nat.reduceMul, true_and, and_true, Option.some.injEq, exists_eq_left', Nat.le_refl, Nat.zero_le, reduceIte, Nat.add_zero, Nat.zero_add, xF0, xF1, xF2, xF3, l_0, N_cl (show g < 2147483648 by omega), N_in (show g < 8 by omega) (by decide), (hs2 g hg).1]
  refine wp_for (stS S).1 (fun i L M' => rS1 M' (drA S g i) ∧ frN M M' ∧ L = [some (.ref 1), some (.int (nI g)), some (.int (nO ((stS S).2.1 g))), some (.int (nI i))]) ?_ ?_ 4000 0 _ _ (by omega) (by omega) ⟨by rw [drA_0]; exact hS, frN_rf, rfl⟩
  · rintro i L M' hi ⟨h1, hf, rfl⟩
    have ok := drA_ok h hg i
    have q1 : M' 3 1 = nI (stS S).1 := h1.2.2.1.1
    have q2 : M' 4 i = nO ((stS S).2.1 i) := by
      have := (h1.2.2.1.2 i hi).1
      have e : (stS (drA S g i)).2.1 i = (stS S).2.1 i := if_neg (fun q => absurd q.1 (by omega))
      rw [e] at this
      exact this
    have qe : nO ((stS S).2.1 i) = nI g ↔ (stS S).2.1 i = some g := nO_inj (b := some g) (fun n hn => by have := sOK_b h hi n hn; omega) (fun n hn => by cases hn; omega)
    simp only [B_X8_removeStyle_12, K_X8_removeStyle_42, wp_con, wp_ild0, wp_ald0, wp_ist0, wp_inc0, wp_ild1, wp_ald1, wp_ist1n, wp_inc1n, wp_ist1i, wp_inc1i, wp_ist1r, wp_inc1r, wp_ild2, wp_ald2, wp_ist2n, wp_inc2n, wp_ist2i, wp_inc2i, wp_ist2r, wp_inc2r, wp_ild3, wp_ald3, wp_ist3n, wp_inc3n, wp_ist3i, wp_inc3i, wp_ist3r, wp_inc3r, wp_ild4, wp_ald4, wp_ist4n, wp_inc4n, wp_ist4i, wp_inc4i, wp_ist4r, wp_inc4r, wp_ild5, wp_ald5, wp_ist5n, wp_inc5n, wp_ist5i, wp_inc5i, wp_ist5r, wp_inc5r, wp_ild6, wp_ald6, wp_ist6n, wp_inc6n, wp_ist6i, wp_inc6i, wp_ist6r, wp_inc6r, wp_ild7, wp_ald7, wp_ist7n, wp_inc7n, wp_ist7i, wp_inc7i, wp_ist7r, wp_inc7r, wp_ild8, wp_ald8, wp_ist8n, wp_inc8n, wp_ist8i, wp_inc8i, wp_ist8r, wp_inc8r, wp_ild9, wp_ald9, wp_ist9n, wp_inc9n, wp_ist9i, wp_inc9i, wp_ist9r, wp_inc9r, wp_bin, wp_div, wp_dupi, wp_dupr, wp_dup2, wp_popi, wp_popr, wp_ifeq, wp_ifne, wp_iflt, wp_ifge, wp_ifgt, wp_ifle, wp_iceq, wp_icne, wp_iclt, wp_icge, wp_icgt, wp_icle, wp_jmp, wp_seq, sq_j, sq_r, lq_j, lq_r, eq_r, wp_kil, wp_ret, wp_zret, wp_vret, wp_aret, wp_gfi, wp_gfr, wp_pfi, wp_pfz, wp_ial, wp_ias, wp_aal, wp_gst, wp_sal, wp_min, wp_calV0, wp_calV1, wp_calS1, wp_calV2, wp_calS2, wp_calV3, wp_calS3, wp_calV4, wp_calS4, wp_calV5, wp_calS5, wp_acp, wp_i2l, wp_l2i, wp_lcon, wp_lbin, wp_ldiv, psh_s, psh_n, en, List.map_cons, List.map_nil, List.cons_append, List.nil_append, List.length_cons, List.length_nil, List.replicate_succ, List.replicate_zero, List.zipWith_cons_cons, List.zipWith_nil_left, List.zipWith_nil_right, if_true, if_false, Bool.false_eq_true, Nat.reduceAdd, Nat.reduceSub, Nat.reduceLeDiff, Nat.reduceEqDiff, Nat.reduceMul, true_and, and_true, Option.some.injEq, exists_eq_left', Nat.le_refl, Nat.zero_le, reduceIte, Nat.add_zero, Nat.zero_add, xF0, xF1, xF2, xF3, N_s, q1, N_le (show (stS S).1 < 2147483648 by omega) (show i < 2147483648 by omega), N_cl (show i < 2147483648 by omega), N_in (show i < 8 by omega) (by decide), q2, qe]
    refine ⟨fun h => absurd h (by omega), fun _ => ⟨fun hne => ?_, fun heq => ?_⟩⟩
    · rw [drA_next h hg hi, if_neg hne]
      exact ⟨h1, hf⟩
    · refine wpF_mono (v_rebaseStyle h1 ok.1 (s := i) hi (t := (stS S).2.1 g) (sOK_b h hg)) ?_
      rintro v G' M2 ⟨rfl, rfl, h2, f2⟩
      simp only [wp_con, wp_ild0, wp_ald0, wp_ist0, wp_inc0, wp_ild1, wp_ald1, wp_ist1n, wp_inc1n, wp_ist1i, wp_inc1i, wp_ist1r, wp_inc1r, wp_ild2, wp_ald2, wp_ist2n, wp_inc2n, wp_ist2i, wp_inc2i, wp_ist2r, wp_inc2r, wp_ild3, wp_ald3, wp_ist3n, wp_inc3n, wp_ist3i, wp_inc3i, wp_ist3r, wp_inc3r, wp_ild4, wp_ald4, wp_ist4n, wp_inc4n, wp_ist4i, wp_inc4i, wp_ist4r, wp_inc4r, wp_ild5, wp_ald5, wp_ist5n, wp_inc5n, wp_ist5i, wp_inc5i, wp_ist5r, wp_inc5r, wp_ild6, wp_ald6, wp_ist6n, wp_inc6n, wp_ist6i, wp_inc6i, wp_ist6r, wp_inc6r, wp_ild7, wp_ald7, wp_ist7n, wp_inc7n, wp_ist7i, wp_inc7i, wp_ist7r, wp_inc7r, wp_ild8, wp_ald8, wp_ist8n, wp_inc8n, wp_ist8i, wp_inc8i, wp_ist8r, wp_inc8r, wp_ild9, wp_ald9, wp_ist9n, wp_inc9n, wp_ist9i, wp_inc9i, wp_ist9r, wp_inc9r, wp_bin, wp_div, wp_dupi, wp_dupr, wp_dup2, wp_popi, wp_popr, wp_ifeq, wp_ifne, wp_iflt, wp_ifge, wp_ifgt, wp_ifle, wp_iceq, wp_icne, wp_iclt, wp_icge, wp_icgt, wp_icle, wp_jmp, wp_seq, sq_j, sq_r, lq_j, lq_r, eq_r, wp_kil, wp_ret, wp_zret, wp_vret, wp_aret, wp_gfi, wp_gfr, wp_pfi, wp_pfz, wp_ial, wp_ias, wp_aal, wp_gst, wp_sal, wp_min, wp_calV0, wp_calV1, wp_calS1, wp_calV2, wp_calS2, wp_calV3, wp_calS3, wp_calV4, wp_calS4, wp_calV5, wp_calS5, wp_acp, wp_i2l, wp_l2i, wp_lcon, wp_lbin, wp_ldiv, psh_s, psh_n, en, List.map_cons, List.map_nil, List.cons_append, List.nil_append, List.length_cons, List.length_nil, List.replicate_succ, List.replicate_zero, List.zipWith_cons_cons, List.zipWith_nil_left, List.zipWith_nil_right, if_true, if_false, Bool.false_eq_true, Nat.reduceAdd, Nat.reduceSub, Nat.reduceLeDiff, Nat.reduceEqDiff, Nat.reduceMul, true_and, and_true, Option.some.injEq, exists_eq_left', Nat.le_refl, Nat.zero_le, reduceIte, Nat.add_zero, Nat.zero_add]
      rw [drA_next h hg hi, if_pos heq]
      exact ⟨h2, frN_tr hf f2⟩
  · rintro L M' ⟨h1, hf, rfl⟩
    have q1 : M' 3 1 = nI (stS S).1 := h1.2.2.1.1
    simp only [B_X8_removeStyle_12, K_X8_removeStyle_48, wp_con, wp_ild0, wp_ald0, wp_ist0, wp_inc0, wp_ild1, wp_ald1, wp_ist1n, wp_inc1n, wp_ist1i, wp_inc1i, wp_ist1r, wp_inc1r, wp_ild2, wp_ald2, wp_ist2n, wp_inc2n, wp_ist2i, wp_inc2i, wp_ist2r, wp_inc2r, wp_ild3, wp_ald3, wp_ist3n, wp_inc3n, wp_ist3i, wp_inc3i, wp_ist3r, wp_inc3r, wp_ild4, wp_ald4, wp_ist4n, wp_inc4n, wp_ist4i, wp_inc4i, wp_ist4r, wp_inc4r, wp_ild5, wp_ald5, wp_ist5n, wp_inc5n, wp_ist5i, wp_inc5i, wp_ist5r, wp_inc5r, wp_ild6, wp_ald6, wp_ist6n, wp_inc6n, wp_ist6i, wp_inc6i, wp_ist6r, wp_inc6r, wp_ild7, wp_ald7, wp_ist7n, wp_inc7n, wp_ist7i, wp_inc7i, wp_ist7r, wp_inc7r, wp_ild8, wp_ald8, wp_ist8n, wp_inc8n, wp_ist8i, wp_inc8i, wp_ist8r, wp_inc8r, wp_ild9, wp_ald9, wp_ist9n, wp_inc9n, wp_ist9i, wp_inc9i, wp_ist9r, wp_inc9r, wp_bin, wp_div, wp_dupi, wp_dupr, wp_dup2, wp_popi, wp_popr, wp_ifeq, wp_ifne, wp_iflt, wp_ifge, wp_ifgt, wp_ifle, wp_iceq, wp_icne, wp_iclt, wp_icge, wp_icgt, wp_icle, wp_jmp, wp_seq, sq_j, sq_r, lq_j, lq_r, eq_r, wp_kil, wp_ret, wp_zret, wp_vret, wp_aret, wp_gfi, wp_gfr, wp_pfi, wp_pfz, wp_ial, wp_ias, wp_aal, wp_gst, wp_sal, wp_min, wp_calV0, wp_calV1, wp_calS1, wp_calV2, wp_calS2, wp_calV3, wp_calS3, wp_calV4, wp_calS4, wp_calV5, wp_calS5, wp_acp, wp_i2l, wp_l2i, wp_lcon, wp_lbin, wp_ldiv, psh_s, psh_n, en, List.map_cons, List.map_nil, List.cons_append, List.nil_append, List.length_cons, List.length_nil, List.replicate_succ, List.replicate_zero, List.zipWith_cons_cons, List.zipWith_nil_left, List.zipWith_nil_right, if_true, if_false, Bool.false_eq_true, Nat.reduceAdd, Nat.reduceSub, Nat.reduceLeDiff, Nat.reduceEqDiff, Nat.reduceMul, true_and, and_true, Option.some.injEq, exists_eq_left', Nat.le_refl, Nat.zero_le, reduceIte, Nat.add_zero, Nat.zero_add, xF0, xF1, xF2, xF3, l_0, q1, N_le (show (stS S).1 < 2147483648 by omega) (show (stS S).1 < 2147483648 by omega)]
    refine ⟨fun _ => ?_, fun h => absurd trivial h⟩
    refine wp_for (paS S).1 (fun i L M' => rS1 M' (drB S g i) ∧ frN M M' ∧ L = [some (.ref 1), some (.int (nI g)), some (.int (nO ((stS S).2.1 g))), some (.int (nI i))]) ?_ ?_ 4000 0 _ _ (by omega) (by omega) ⟨by rw [drB_0]; exact h1, hf, rfl⟩
    · rintro i L M2 hi ⟨h2, f2, rfl⟩
      have ok := drB_ok h hg i
      have q1 : M2 6 1 = nI (paS S).1 := h2.2.2.2.1
      have q2 : M2 7 i = nO ((paS S).2.1 i) := by
        have := (h2.2.2.2.2 i hi).1
        have e : (paS (drB S g i)).2.1 i = (paS S).2.1 i := if_neg (fun q => absurd q.1 (by omega))
        rw [e] at this
        exact this
      have qe : nO ((paS S).2.1 i) = nI g ↔ (paS S).2.1 i = some g := nO_inj (b := some g) (fun n hn => by have := sOK_p h hi n hn; omega) (fun n hn => by cases hn; omega)
      simp only [B_X8_removeStyle_50, K_X8_removeStyle_80, wp_con, wp_ild0, wp_ald0, wp_ist0, wp_inc0, wp_ild1, wp_ald1, wp_ist1n, wp_inc1n, wp_ist1i, wp_inc1i, wp_ist1r, wp_inc1r, wp_ild2, wp_ald2, wp_ist2n, wp_inc2n, wp_ist2i, wp_inc2i, wp_ist2r, wp_inc2r, wp_ild3, wp_ald3, wp_ist3n, wp_inc3n, wp_ist3i, wp_inc3i, wp_ist3r, wp_inc3r, wp_ild4, wp_ald4, wp_ist4n, wp_inc4n, wp_ist4i, wp_inc4i, wp_ist4r, wp_inc4r, wp_ild5, wp_ald5, wp_ist5n, wp_inc5n, wp_ist5i, wp_inc5i, wp_ist5r, wp_inc5r, wp_ild6, wp_ald6, wp_ist6n, wp_inc6n, wp_ist6i, wp_inc6i, wp_ist6r, wp_inc6r, wp_ild7, wp_ald7, wp_ist7n, wp_inc7n, wp_ist7i, wp_inc7i, wp_ist7r, wp_inc7r, wp_ild8, wp_ald8, wp_ist8n, wp_inc8n, wp_ist8i, wp_inc8i, wp_ist8r, wp_inc8r, wp_ild9, wp_ald9, wp_ist9n, wp_inc9n, wp_ist9i, wp_inc9i, wp_ist9r, wp_inc9r, wp_bin, wp_div, wp_dupi, wp_dupr, wp_dup2, wp_popi, wp_popr, wp_ifeq, wp_ifne, wp_iflt, wp_ifge, wp_ifgt, wp_ifle, wp_iceq, wp_icne, wp_iclt, wp_icge, wp_icgt, wp_icle, wp_jmp, wp_seq, sq_j, sq_r, lq_j, lq_r, eq_r, wp_kil, wp_ret, wp_zret, wp_vret, wp_aret, wp_gfi, wp_gfr, wp_pfi, wp_pfz, wp_ial, wp_ias, wp_aal, wp_gst, wp_sal, wp_min, wp_calV0, wp_calV1, wp_calS1, wp_calV2, wp_calS2, wp_calV3, wp_calS3, wp_calV4, wp_calS4, wp_calV5, wp_calS5, wp_acp, wp_i2l, wp_l2i, wp_lcon, wp_lbin, wp_ldiv, psh_s, psh_n, en, List.map_cons, List.map_nil, List.cons_append, List.nil_append, List.length_cons, List.length_nil, List.replicate_succ, List.replicate_zero, List.zipWith_cons_cons, List.zipWith_nil_left, List.zipWith_nil_right, if_true, if_false, Bool.false_eq_true, Nat.reduceAdd, Nat.reduceSub, Nat.reduceLeDiff, Nat.reduceEqDiff, Nat.reduceMul, true_and, and_true, Option.some.injEq, exists_eq_left', Nat.le_refl, Nat.zero_le, reduceIte, Nat.add_zero, Nat.zero_add, xF0, xF1, xF2, xF3, N_s, q1, N_le (show (paS S).1 < 2147483648 by omega) (show i < 2147483648 by omega), N_cl (show i < 2147483648 by omega), N_in (show i < 8 by omega) (by decide), q2, qe]
      refine ⟨fun h => absurd h (by omega), fun _ => ⟨fun hne => ?_, fun heq => ?_⟩⟩
      · rw [drB_next h hg hi, if_neg hne]
        exact ⟨h2, f2⟩
      · refine wpF_mono (v_rebaseParagraph h2 ok.1 (p := i) hi (t := (stS S).2.1 g) (sOK_b h hg)) ?_
        rintro v G' M3 ⟨rfl, rfl, h3, f3⟩
        simp only [wp_con, wp_ild0, wp_ald0, wp_ist0, wp_inc0, wp_ild1, wp_ald1, wp_ist1n, wp_inc1n, wp_ist1i, wp_inc1i, wp_ist1r, wp_inc1r, wp_ild2, wp_ald2, wp_ist2n, wp_inc2n, wp_ist2i, wp_inc2i, wp_ist2r, wp_inc2r, wp_ild3, wp_ald3, wp_ist3n, wp_inc3n, wp_ist3i, wp_inc3i, wp_ist3r, wp_inc3r, wp_ild4, wp_ald4, wp_ist4n, wp_inc4n, wp_ist4i, wp_inc4i, wp_ist4r, wp_inc4r, wp_ild5, wp_ald5, wp_ist5n, wp_inc5n, wp_ist5i, wp_inc5i, wp_ist5r, wp_inc5r, wp_ild6, wp_ald6, wp_ist6n, wp_inc6n, wp_ist6i, wp_inc6i, wp_ist6r, wp_inc6r, wp_ild7, wp_ald7, wp_ist7n, wp_inc7n, wp_ist7i, wp_inc7i, wp_ist7r, wp_inc7r, wp_ild8, wp_ald8, wp_ist8n, wp_inc8n, wp_ist8i, wp_inc8i, wp_ist8r, wp_inc8r, wp_ild9, wp_ald9, wp_ist9n, wp_inc9n, wp_ist9i, wp_inc9i, wp_ist9r, wp_inc9r, wp_bin, wp_div, wp_dupi, wp_dupr, wp_dup2, wp_popi, wp_popr, wp_ifeq, wp_ifne, wp_iflt, wp_ifge, wp_ifgt, wp_ifle, wp_iceq, wp_icne, wp_iclt, wp_icge, wp_icgt, wp_icle, wp_jmp, wp_seq, sq_j, sq_r, lq_j, lq_r, eq_r, wp_kil, wp_ret, wp_zret, wp_vret, wp_aret, wp_gfi, wp_gfr, wp_pfi, wp_pfz, wp_ial, wp_ias, wp_aal, wp_gst, wp_sal, wp_min, wp_calV0, wp_calV1, wp_calS1, wp_calV2, wp_calS2, wp_calV3, wp_calS3, wp_calV4, wp_calS4, wp_calV5, wp_calS5, wp_acp, wp_i2l, wp_l2i, wp_lcon, wp_lbin, wp_ldiv, psh_s, psh_n, en, List.map_cons, List.map_nil, List.cons_append, List.nil_append, List.length_cons, List.length_nil, List.replicate_succ, List.replicate_zero, List.zipWith_cons_cons, List.zipWith_nil_left, List.zipWith_nil_right, if_true, if_false, Bool.false_eq_true, Nat.reduceAdd, Nat.reduceSub, Nat.reduceLeDiff, Nat.reduceEqDiff, Nat.reduceMul, true_and, and_true, Option.some.injEq, exists_eq_left', Nat.le_refl, Nat.zero_le, reduceIte, Nat.add_zero, Nat.zero_add]
        rw [drB_next h hg hi, if_pos heq]
        exact ⟨h3, frN_tr f2 f3⟩
    · rintro L M2 ⟨h2, f2, rfl⟩
      have ok := drB_ok h hg (paS S).1
      have q1 : M2 6 1 = nI (paS S).1 := h2.2.2.2.1
      simp only [B_X8_removeStyle_50, K_X8_removeStyle_86, wp_con, wp_ild0, wp_ald0, wp_ist0, wp_inc0, wp_ild1, wp_ald1, wp_ist1n, wp_inc1n, wp_ist1i, wp_inc1i, wp_ist1r, wp_inc1r, wp_ild2, wp_ald2, wp_ist2n, wp_inc2n, wp_ist2i, wp_inc2i, wp_ist2r, wp_inc2r, wp_ild3, wp_ald3, wp_ist3n, wp_inc3n, wp_ist3i, wp_inc3i, wp_ist3r, wp_inc3r, wp_ild4, wp_ald4, wp_ist4n, wp_inc4n, wp_ist4i, wp_inc4i, wp_ist4r, wp_inc4r, wp_ild5, wp_ald5, wp_ist5n, wp_inc5n, wp_ist5i, wp_inc5i, wp_ist5r, wp_inc5r, wp_ild6, wp_ald6, wp_ist6n, wp_inc6n, wp_ist6i, wp_inc6i, wp_ist6r, wp_inc6r, wp_ild7, wp_ald7, wp_ist7n, wp_inc7n, wp_ist7i, wp_inc7i, wp_ist7r, wp_inc7r, wp_ild8, wp_ald8, wp_ist8n, wp_inc8n, wp_ist8i, wp_inc8i, wp_ist8r, wp_inc8r, wp_ild9, wp_ald9, wp_ist9n, wp_inc9n, wp_ist9i, wp_inc9i, wp_ist9r, wp_inc9r, wp_bin, wp_div, wp_dupi, wp_dupr, wp_dup2, wp_popi, wp_popr, wp_ifeq, wp_ifne, wp_iflt, wp_ifge, wp_ifgt, wp_ifle, wp_iceq, wp_icne, wp_iclt, wp_icge, wp_icgt, wp_icle, wp_jmp, wp_seq, sq_j, sq_r, lq_j, lq_r, eq_r, wp_kil, wp_ret, wp_zret, wp_vret, wp_aret, wp_gfi, wp_gfr, wp_pfi, wp_pfz, wp_ial, wp_ias, wp_aal, wp_gst, wp_sal, wp_min, wp_calV0, wp_calV1, wp_calS1, wp_calV2, wp_calS2, wp_calV3, wp_calS3, wp_calV4, wp_calS4, wp_calV5, wp_calS5, wp_acp, wp_i2l, wp_l2i, wp_lcon, wp_lbin, wp_ldiv, psh_s, psh_n, en, List.map_cons, List.map_nil, List.cons_append, List.nil_append, List.length_cons, List.length_nil, List.replicate_succ, List.replicate_zero, List.zipWith_cons_cons, List.zipWith_nil_left, List.zipWith_nil_right, if_true, if_false, Bool.false_eq_true, Nat.reduceAdd, Nat.reduceSub, Nat.reduceLeDiff, Nat.reduceEqDiff, Nat.reduceMul, true_and, and_true, Option.some.injEq, exists_eq_left', Nat.le_refl, Nat.zero_le, reduceIte, Nat.add_zero, Nat.zero_add, xF0, xF1, xF2, xF3, q1, N_le (show (paS S).1 < 2147483648 by omega) (show (paS S).1 < 2147483648 by omega)]
      refine ⟨fun _ => ?_, fun h => absurd trivial h⟩
      refine wpF_mono (v_remove isR3 (rS1_3 h2) (show (stS S).1 ≤ 8 by omega) (g := g) hg) ?_
      rintro v G' M3 ⟨rfl, rfl, r3, f3⟩
      obtain ⟨g3, e3⟩ := rS1_st h2 r3 f3
      simp only [wp_con, wp_ild0, wp_ald0, wp_ist0, wp_inc0, wp_ild1, wp_ald1, wp_ist1n, wp_inc1n, wp_ist1i, wp_inc1i, wp_ist1r, wp_inc1r, wp_ild2, wp_ald2, wp_ist2n, wp_inc2n, wp_ist2i, wp_inc2i, wp_ist2r, wp_inc2r, wp_ild3, wp_ald3, wp_ist3n, wp_inc3n, wp_ist3i, wp_inc3i, wp_ist3r, wp_inc3r, wp_ild4, wp_ald4, wp_ist4n, wp_inc4n, wp_ist4i, wp_inc4i, wp_ist4r, wp_inc4r, wp_ild5, wp_ald5, wp_ist5n, wp_inc5n, wp_ist5i, wp_inc5i, wp_ist5r, wp_inc5r, wp_ild6, wp_ald6, wp_ist6n, wp_inc6n, wp_ist6i, wp_inc6i, wp_ist6r, wp_inc6r, wp_ild7, wp_ald7, wp_ist7n, wp_inc7n, wp_ist7i, wp_inc7i, wp_ist7r, wp_inc7r, wp_ild8, wp_ald8, wp_ist8n, wp_inc8n, wp_ist8i, wp_inc8i, wp_ist8r, wp_inc8r, wp_ild9, wp_ald9, wp_ist9n, wp_inc9n, wp_ist9i, wp_inc9i, wp_ist9r, wp_inc9r, wp_bin, wp_div, wp_dupi, wp_dupr, wp_dup2, wp_popi, wp_popr, wp_ifeq, wp_ifne, wp_iflt, wp_ifge, wp_ifgt, wp_ifle, wp_iceq, wp_icne, wp_iclt, wp_icge, wp_icgt, wp_icle, wp_jmp, wp_seq, sq_j, sq_r, lq_j, lq_r, eq_r, wp_kil, wp_ret, wp_zret, wp_vret, wp_aret, wp_gfi, wp_gfr, wp_pfi, wp_pfz, wp_ial, wp_ias, wp_aal, wp_gst, wp_sal, wp_min, wp_calV0, wp_calV1, wp_calS1, wp_calV2, wp_calS2, wp_calV3, wp_calS3, wp_calV4, wp_calS4, wp_calV5, wp_calS5, wp_acp, wp_i2l, wp_l2i, wp_lcon, wp_lbin, wp_ldiv, psh_s, psh_n, en, List.map_cons, List.map_nil, List.cons_append, List.nil_append, List.length_cons, List.length_nil, List.replicate_succ, List.replicate_zero, List.zipWith_cons_cons, List.zipWith_nil_left, List.zipWith_nil_right, if_true, if_false, Bool.false_eq_true, Nat.reduceAdd, Nat.reduceSub, Nat.reduceLeDiff, Nat.reduceEqDiff, Nat.reduceMul, true_and, and_true, Option.some.injEq, exists_eq_left', Nat.le_refl, Nat.zero_le, reduceIte, Nat.add_zero, Nat.zero_add, xF0, xF1, xF2, xF3]
      have hb3 : ∀ j, j < (rwRem (stS (drB S g (paS S).1)) g).1 → ∀ t, (rwRem (stS (drB S g (paS S).1)) g).2.1 j = some t → t < 8 := by
        intro j hj t ht
        have hj' : j < (stS S).1 - 1 := hj
        have ht' : (if j < g then (stS (drB S g (paS S).1)).2.1 j else (stS (drB S g (paS S).1)).2.1 (j + 1)) = some t := ht
        have hl : t < (stS S).1 := by
          split at ht'
          · exact sOK_b ok.1 (s := j) (show j < (stS S).1 by omega) t ht'
          · exact sOK_b ok.1 (s := j + 1) (show j + 1 < (stS S).1 by omega) t ht'
        omega
      refine wpF_mono (v_renumber isR3 (rS1_3 g3) (show (stS S).1 - 1 ≤ 8 by omega) (g := g) (by omega) hb3) ?_
      rintro v G' M4 ⟨rfl, rfl, r4, f4⟩
      obtain ⟨g4, e4⟩ := rS1_st g3 r4 f4
      simp only [wp_con, wp_ild0, wp_ald0, wp_ist0, wp_inc0, wp_ild1, wp_ald1, wp_ist1n, wp_inc1n, wp_ist1i, wp_inc1i, wp_ist1r, wp_inc1r, wp_ild2, wp_ald2, wp_ist2n, wp_inc2n, wp_ist2i, wp_inc2i, wp_ist2r, wp_inc2r, wp_ild3, wp_ald3, wp_ist3n, wp_inc3n, wp_ist3i, wp_inc3i, wp_ist3r, wp_inc3r, wp_ild4, wp_ald4, wp_ist4n, wp_inc4n, wp_ist4i, wp_inc4i, wp_ist4r, wp_inc4r, wp_ild5, wp_ald5, wp_ist5n, wp_inc5n, wp_ist5i, wp_inc5i, wp_ist5r, wp_inc5r, wp_ild6, wp_ald6, wp_ist6n, wp_inc6n, wp_ist6i, wp_inc6i, wp_ist6r, wp_inc6r, wp_ild7, wp_ald7, wp_ist7n, wp_inc7n, wp_ist7i, wp_inc7i, wp_ist7r, wp_inc7r, wp_ild8, wp_ald8, wp_ist8n, wp_inc8n, wp_ist8i, wp_inc8i, wp_ist8r, wp_inc8r, wp_ild9, wp_ald9, wp_ist9n, wp_inc9n, wp_ist9i, wp_inc9i, wp_ist9r, wp_inc9r, wp_bin, wp_div, wp_dupi, wp_dupr, wp_dup2, wp_popi, wp_popr, wp_ifeq, wp_ifne, wp_iflt, wp_ifge, wp_ifgt, wp_ifle, wp_iceq, wp_icne, wp_iclt, wp_icge, wp_icgt, wp_icle, wp_jmp, wp_seq, sq_j, sq_r, lq_j, lq_r, eq_r, wp_kil, wp_ret, wp_zret, wp_vret, wp_aret, wp_gfi, wp_gfr, wp_pfi, wp_pfz, wp_ial, wp_ias, wp_aal, wp_gst, wp_sal, wp_min, wp_calV0, wp_calV1, wp_calS1, wp_calV2, wp_calS2, wp_calV3, wp_calS3, wp_calV4, wp_calS4, wp_calV5, wp_calS5, wp_acp, wp_i2l, wp_l2i, wp_lcon, wp_lbin, wp_ldiv, psh_s, psh_n, en, List.map_cons, List.map_nil, List.cons_append, List.nil_append, List.length_cons, List.length_nil, List.replicate_succ, List.replicate_zero, List.zipWith_cons_cons, List.zipWith_nil_left, List.zipWith_nil_right, if_true, if_false, Bool.false_eq_true, Nat.reduceAdd, Nat.reduceSub, Nat.reduceLeDiff, Nat.reduceEqDiff, Nat.reduceMul, true_and, and_true, Option.some.injEq, exists_eq_left', Nat.le_refl, Nat.zero_le, reduceIte, Nat.add_zero, Nat.zero_add, xF0, xF1, xF2, xF3]
      refine wpF_mono (v_renumber isR6 (rS1_6 g4) (show (paS S).1 ≤ 8 by omega) (g := g) (by omega) (fun j hj t ht => by have := sOK_p ok.1 (p := j) hj t ht; have e : (stS (drB S g (paS S).1)).1 = (stS S).1 := rfl; omega)) ?_
      rintro v G' M5 ⟨rfl, rfl, r5, f5⟩
      obtain ⟨g5, e5⟩ := rS1_pa g4 r5 f5
      simp only [wp_con, wp_ild0, wp_ald0, wp_ist0, wp_inc0, wp_ild1, wp_ald1, wp_ist1n, wp_inc1n, wp_ist1i, wp_inc1i, wp_ist1r, wp_inc1r, wp_ild2, wp_ald2, wp_ist2n, wp_inc2n, wp_ist2i, wp_inc2i, wp_ist2r, wp_inc2r, wp_ild3, wp_ald3, wp_ist3n, wp_inc3n, wp_ist3i, wp_inc3i, wp_ist3r, wp_inc3r, wp_ild4, wp_ald4, wp_ist4n, wp_inc4n, wp_ist4i, wp_inc4i, wp_ist4r, wp_inc4r, wp_ild5, wp_ald5, wp_ist5n, wp_inc5n, wp_ist5i, wp_inc5i, wp_ist5r, wp_inc5r, wp_ild6, wp_ald6, wp_ist6n, wp_inc6n, wp_ist6i, wp_inc6i, wp_ist6r, wp_inc6r, wp_ild7, wp_ald7, wp_ist7n, wp_inc7n, wp_ist7i, wp_inc7i, wp_ist7r, wp_inc7r, wp_ild8, wp_ald8, wp_ist8n, wp_inc8n, wp_ist8i, wp_inc8i, wp_ist8r, wp_inc8r, wp_ild9, wp_ald9, wp_ist9n, wp_inc9n, wp_ist9i, wp_inc9i, wp_ist9r, wp_inc9r, wp_bin, wp_div, wp_dupi, wp_dupr, wp_dup2, wp_popi, wp_popr, wp_ifeq, wp_ifne, wp_iflt, wp_ifge, wp_ifgt, wp_ifle, wp_iceq, wp_icne, wp_iclt, wp_icge, wp_icgt, wp_icle, wp_jmp, wp_seq, sq_j, sq_r, lq_j, lq_r, eq_r, wp_kil, wp_ret, wp_zret, wp_vret, wp_aret, wp_gfi, wp_gfr, wp_pfi, wp_pfz, wp_ial, wp_ias, wp_aal, wp_gst, wp_sal, wp_min, wp_calV0, wp_calV1, wp_calS1, wp_calV2, wp_calS2, wp_calV3, wp_calS3, wp_calV4, wp_calS4, wp_calV5, wp_calS5, wp_acp, wp_i2l, wp_l2i, wp_lcon, wp_lbin, wp_ldiv, psh_s, psh_n, en, List.map_cons, List.map_nil, List.cons_append, List.nil_append, List.length_cons, List.length_nil, List.replicate_succ, List.replicate_zero, List.zipWith_cons_cons, List.zipWith_nil_left, List.zipWith_nil_right, if_true, if_false, Bool.false_eq_true, Nat.reduceAdd, Nat.reduceSub, Nat.reduceLeDiff, Nat.reduceEqDiff, Nat.reduceMul, true_and, and_true, Option.some.injEq, exists_eq_left', Nat.le_refl, Nat.zero_le, reduceIte, Nat.add_zero, Nat.zero_add]
      exact ⟨g5, frN_tr (frN_tr (frN_tr f2 e3) e4) e5⟩
