/-! ===== the class: Sheet, what changes it ===== -/
def setSt (S : vS) (R : vRw) : vS := (S.1, S.2.1, R, S.2.2.2)
def setPa (S : vS) (R : vRw) : vS := (S.1, S.2.1, S.2.2.1, R)
/-- what isn't of the sheet stays, and the rows' limits -/
def frN (M M' : vM) : Prop := (∀ a, a < 1 ∨ 8 < a → M' a = M a) ∧ M' 3 0 = M 3 0 ∧ M' 6 0 = M 6 0
theorem frN_rf {M : vM} : frN M M := ⟨fun _ _ => rfl, rfl, rfl⟩
theorem frN_tr {M M1 M2 : vM} (h : frN M M1) (h2 : frN M1 M2) : frN M M2 := ⟨fun a ha => (h2.1 a ha).trans (h.1 a ha), h2.2.1.trans h.2.1, h2.2.2.trans h.2.2⟩
theorem rS1_st {M M' : vM} {S : vS} {R : vRw} (h : rS1 M S) (hR : rRw M' 3 R) (hf : frR 3 M M') : rS1 M' (setSt S R) ∧ frN M M' := by
  obtain ⟨h0, h1, h2, h3⟩ := h
  have f := hf.1
  refine ⟨⟨by rw [f 1 (by decide) (by decide) (by decide)]; exact h0, by rw [f 2 (by decide) (by decide) (by decide)]; exact h1, hR, ?_⟩, fun a ha => f a (by omega) (by omega) (by omega), hf.2, by rw [f 6 (by decide) (by decide) (by decide)]⟩
  rw [f 6 (by decide) (by decide) (by decide), f 7 (by decide) (by decide) (by decide), f 8 (by decide) (by decide) (by decide)]
  exact h3
theorem rS1_pa {M M' : vM} {S : vS} {R : vRw} (h : rS1 M S) (hR : rRw M' 6 R) (hf : frR 6 M M') : rS1 M' (setPa S R) ∧ frN M M' := by
  obtain ⟨h0, h1, h2, h3⟩ := h
  have f := hf.1
  refine ⟨⟨by rw [f 1 (by decide) (by decide) (by decide)]; exact h0, by rw [f 2 (by decide) (by decide) (by decide)]; exact h1, ?_, hR⟩, fun a ha => f a (by omega) (by omega) (by omega), by rw [f 3 (by decide) (by decide) (by decide)], hf.2⟩
  rw [f 3 (by decide) (by decide) (by decide), f 4 (by decide) (by decide) (by decide), f 5 (by decide) (by decide) (by decide)]
  exact h2
theorem rS1_3 {M : vM} {S : vS} (h : rS1 M S) : rRw M 3 (stS S) := h.2.2.1
theorem rS1_6 {M : vM} {S : vS} (h : rS1 M S) : rRw M 6 (paS S) := h.2.2.2
def rebS (S : vS) (s : Nat) (t : Option Nat) : vS := setSt S (rwRest (stS S) s t (lkS S (some s)) (lkS S t))
def rebP (S : vS) (p : Nat) (t : Option Nat) : vS := setPa S (rwRest (paS S) p t (lkP S p) (lkS S t))
theorem v_rebaseStyle {M : vM} {S : vS} (hS : rS1 M S) (h : vOK S) {s : Nat} (hs : s < (stS S).1) {t : Option Nat} (ht : sOK S t) : wpF F_X8_rebaseStyle [.ref 1, .int (nI s), .int (nO t)] gA M (fun v G' M' => G' = gA ∧ v = none ∧ rS1 M' (rebS S s t) ∧ frN M M') := by
  refine run_wp ⟨Nat.le_of_ble_eq_true rfl, rfl⟩ ?_
  have hn := ns_le h
  have l1 := (lkS_ok h (sOK_s hs)).1
  have l2 := (lkS_ok h ht).1
  have e1 := v_styleLook hS h (sOK_s hs)
  simp only [nO_s] at e1
  simp only [D_X8_rebaseStyle, wp_con, wp_ild0, wp_ald0, wp_ist0, wp_inc0, wp_ild1, wp_ald1, wp_ist1n, wp_inc1n, wp_ist1i, wp_inc1i, wp_ist1r, wp_inc1r, wp_ild2, wp_ald2, wp_ist2n, wp_inc2n, wp_ist2i, wp_inc2i, wp_ist2r, wp_inc2r, wp_ild3, wp_ald3, wp_ist3n, wp_inc3n, wp_ist3i, wp_inc3i, wp_ist3r, wp_inc3r, wp_ild4, wp_ald4, wp_ist4n, wp_inc4n, wp_ist4i, wp_inc4i, wp_ist4r, wp_inc4r, wp_ild5, wp_ald5, wp_ist5n, wp_inc5n, wp_ist5i, wp_inc5i, wp_ist5r, wp_inc5r, wp_ild6, wp_ald6, wp_ist6n, wp_inc6n, wp_ist6i, wp_inc6i, wp_ist6r, wp_inc6r, wp_ild7, wp_ald7, wp_ist7n, wp_inc7n, wp_ist7i, wp_inc7i, wp_ist7r, wp_inc7r, wp_ild8, wp_ald8, wp_ist8n, wp_inc8n, wp_ist8i, wp_inc8i, wp_ist8r, wp_inc8r, wp_ild9, wp_ald9, wp_ist9n, wp_inc9n, wp_ist9i, wp_inc9i, wp_ist9r, wp_inc9r, wp_bin, wp_div, wp_dupi, wp_dupr, wp_dup2, wp_popi, wp_popr, wp_ifeq, wp_ifne, wp_iflt, wp_ifge, wp_ifgt, wp_ifle, wp_iceq, wp_icne, wp_iclt, wp_icge, wp_icgt, wp_icle, wp_jmp, wp_seq, sq_j, sq_r, lq_j, lq_r, eq_r, wp_kil, wp_ret, wp_zret, wp_vret, wp_aret, wp_gfi, wp_gfr, wp_pfi, wp_pfz, wp_ial, wp_ias, wp_aal, wp_gst, wp_sal, wp_min, wp_calV0, wp_calV1, wp_calS1, wp_calV2, wp_calS2, wp_calV3, wp_calS3, wp_calV4, wp_calS4, wp_calV5, wp_calS5, wp_acp, wp_i2l, wp_l2i, wp_lcon, wp_lbin, wp_ldiv, psh_s, psh_n, en, List.map_cons, List.map_nil, List.cons_append, List.nil_append, List.length_cons, List.length_nil, List.replicate_succ, List.replicate_zero, List.zipWith_cons_cons, List.zipWith_nil_left, List.zipWith_nil_right, if_true, if_false, Bool.false_eq_true, Nat.reduceAdd, Nat.reduceSub, Nat.reduceLeDiff, Nat.reduceEqDiff, Nat.reduceMul, true_and, and_true, Option.some.injEq, exists_eq_left', Nat.le_refl, Nat.zero_le, reduceIte, Nat.add_zero, Nat.zero_add, xF0, xF1, xF2, xF3, wpF_eq e1, wpF_eq (v_styleLook hS h ht)]
  refine wpF_mono (v_rest isR3 (rS1_3 hS) (show (stS S).1 ≤ 8 by omega) hs t (show lkS S (some s) < 2147483648 by omega) (show lkS S t < 2147483648 by omega)) ?_
  rintro v G' M' ⟨rfl, rfl, hR, hf⟩
  simp only [wp_con, wp_ild0, wp_ald0, wp_ist0, wp_inc0, wp_ild1, wp_ald1, wp_ist1n, wp_inc1n, wp_ist1i, wp_inc1i, wp_ist1r, wp_inc1r, wp_ild2, wp_ald2, wp_ist2n, wp_inc2n, wp_ist2i, wp_inc2i, wp_ist2r, wp_inc2r, wp_ild3, wp_ald3, wp_ist3n, wp_inc3n, wp_ist3i, wp_inc3i, wp_ist3r, wp_inc3r, wp_ild4, wp_ald4, wp_ist4n, wp_inc4n, wp_ist4i, wp_inc4i, wp_ist4r, wp_inc4r, wp_ild5, wp_ald5, wp_ist5n, wp_inc5n, wp_ist5i, wp_inc5i, wp_ist5r, wp_inc5r, wp_ild6, wp_ald6, wp_ist6n, wp_inc6n, wp_ist6i, wp_inc6i, wp_ist6r, wp_inc6r, wp_ild7, wp_ald7, wp_ist7n, wp_inc7n, wp_ist7i, wp_inc7i, wp_ist7r, wp_inc7r, wp_ild8, wp_ald8, wp_ist8n, wp_inc8n, wp_ist8i, wp_inc8i, wp_ist8r, wp_inc8r, wp_ild9, wp_ald9, wp_ist9n, wp_inc9n, wp_ist9i, wp_inc9i, wp_ist9r, wp_inc9r, wp_bin, wp_div, wp_dupi, wp_dupr, wp_dup2, wp_popi, wp_popr, wp_ifeq, wp_ifne, wp_iflt, wp_ifge, wp_ifgt, wp_ifle, wp_iceq, wp_icne, wp_iclt, wp_icge, wp_icgt, wp_icle, wp_jmp, wp_seq, sq_j, sq_r, lq_j, lq_r, eq_r, wp_kil, wp_ret, wp_zret, wp_vret, wp_aret, wp_gfi, wp_gfr, wp_pfi, wp_pfz, wp_ial, wp_ias, wp_aal, wp_gst, wp_sal, wp_min, wp_calV0, wp_calV1, wp_calS1, wp_calV2, wp_calS2, wp_calV3, wp_calS3, wp_calV4, wp_calS4, wp_calV5, wp_calS5, wp_acp, wp_i2l, wp_l2i, wp_lcon, wp_lbin, wp_ldiv, psh_s, psh_n, en, List.map_cons, List.map_nil, List.cons_append, List.nil_append, List.length_cons, List.length_nil, List.replicate_succ, List.replicate_zero, List.zipWith_cons_cons, List.zipWith_nil_left, List.zipWith_nil_right, if_true, if_false, Bool.false_eq_true, Nat.reduceAdd, Nat.reduceSub, Nat.reduceLeDiff, Nat.reduceEqDiff, Nat.reduceMul, true_and, and_true, Option.some.injEq, exists_eq_left', Nat.le_refl, Nat.zero_le, reduceIte, Nat.add_zero, Nat.zero_add]
  exact rS1_st hS hR hf
theorem v_rebaseParagraph {M : vM} {S : vS} (hS : rS1 M S) (h : vOK S) {p : Nat} (hp : p < (paS S).1) {t : Option Nat} (ht : sOK S t) : wpF F_X8_rebaseParagraph [.ref 1, .int (nI p), .int (nO t)] gA M (fun v G' M' => G' = gA ∧ v = none ∧ rS1 M' (rebP S p t) ∧ frN M M') := by
  refine run_wp ⟨Nat.le_of_ble_eq_true rfl, rfl⟩ ?_
  have hn := np_le h
  have l1 := (lkP_ok h hp).1
  have l2 := (lkS_ok h ht).1
  simp only [D_X8_rebaseParagraph, wp_con, wp_ild0, wp_ald0, wp_ist0, wp_inc0, wp_ild1, wp_ald1, wp_ist1n, wp_inc1n, wp_ist1i, wp_inc1i, wp_ist1r, wp_inc1r, wp_ild2, wp_ald2, wp_ist2n, wp_inc2n, wp_ist2i, wp_inc2i, wp_ist2r, wp_inc2r, wp_ild3, wp_ald3, wp_ist3n, wp_inc3n, wp_ist3i, wp_inc3i, wp_ist3r, wp_inc3r, wp_ild4, wp_ald4, wp_ist4n, wp_inc4n, wp_ist4i, wp_inc4i, wp_ist4r, wp_inc4r, wp_ild5, wp_ald5, wp_ist5n, wp_inc5n, wp_ist5i, wp_inc5i, wp_ist5r, wp_inc5r, wp_ild6, wp_ald6, wp_ist6n, wp_inc6n, wp_ist6i, wp_inc6i, wp_ist6r, wp_inc6r, wp_ild7, wp_ald7, wp_ist7n, wp_inc7n, wp_ist7i, wp_inc7i, wp_ist7r, wp_inc7r, wp_ild8, wp_ald8, wp_ist8n, wp_inc8n, wp_ist8i, wp_inc8i, wp_ist8r, wp_inc8r, wp_ild9, wp_ald9, wp_ist9n, wp_inc9n, wp_ist9i, wp_inc9i, wp_ist9r, wp_inc9r, wp_bin, wp_div, wp_dupi, wp_dupr, wp_dup2, wp_popi, wp_popr, wp_ifeq, wp_ifne, wp_iflt, wp_ifge, wp_ifgt, wp_ifle, wp_iceq, wp_icne, wp_iclt, wp_icge, wp_icgt, wp_icle, wp_jmp, wp_seq, sq_j, sq_r, lq_j, lq_r, eq_r, wp_kil, wp_ret, wp_zret, wp_vret, wp_aret, wp_gfi, wp_gfr, wp_pfi, wp_pfz, wp_ial, wp_ias, wp_aal, wp_gst, wp_sal, wp_min, wp_calV0, wp_calV1, wp_calS1, wp_calV2, wp_calS2, wp_calV3, wp_calS3, wp_calV4, wp_calS4, wp_calV5, wp_calS5, wp_acp, wp_i2l, wp_l2i, wp_lcon, wp_lbin, wp_ldiv, psh_s, psh_n, en, List.map_cons, List.map_nil, List.cons_append, List.nil_append, List.length_cons, List.length_nil, List.replicate_succ, List.replicate_zero, List.zipWith_cons_cons, List.zipWith_nil_left, List.zipWith_nil_right, if_true, if_false, Bool.false_eq_true, Nat.reduceAdd, Nat.reduceSub, Nat.reduceLeDiff, Nat.reduceEqDiff, Nat.reduceMul, true_and, and_true, Option.some.injEq, exists_eq_left', Nat.le_refl, Nat.zero_le, reduceIte, Nat.add_zero, Nat.zero_add, xF0, xF1, xF2, xF3, wpF_eq (v_paragraphLook hS h hp), wpF_eq (v_styleLook hS h ht)]
  refine wpF_mono (v_rest isR6 (rS1_6 hS) hn hp t (show lkP S p < 2147483648 by omega) (show lkS S t < 2147483648 by omega)) ?_
  rintro v G' M' ⟨rfl, rfl, hR, hf⟩
  simp only [wp_con, wp_ild0, wp_ald0, wp_ist0, wp_inc0, wp_ild1, wp_ald1, wp_ist1n, wp_inc1n, wp_ist1i, wp_inc1i, wp_ist1r, wp_inc1r, wp_ild2, wp_ald2, wp_ist2n, wp_inc2n, wp_ist2i, wp_inc2i, wp_ist2r, wp_inc2r, wp_ild3, wp_ald3, wp_ist3n, wp_inc3n, wp_ist3i, wp_inc3i, wp_ist3r, wp_inc3r, wp_ild4, wp_ald4, wp_ist4n, wp_inc4n, wp_ist4i, wp_inc4i, wp_ist4r, wp_inc4r, wp_ild5, wp_ald5, wp_ist5n, wp_inc5n, wp_ist5i, wp_inc5i, wp_ist5r, wp_inc5r, wp_ild6, wp_ald6, wp_ist6n, wp_inc6n, wp_ist6i, wp_inc6i, wp_ist6r, wp_inc6r, wp_ild7, wp_ald7, wp_ist7n, wp_inc7n, wp_ist7i, wp_inc7i, wp_ist7r, wp_inc7r, wp_ild8, wp_ald8, wp_ist8n, wp_inc8n, wp_ist8i, wp_inc8i, wp_ist8r, wp_inc8r, wp_ild9, wp_ald9, wp_ist9n, wp_inc9n, wp_ist9i, wp_inc9i, wp_ist9r, wp_inc9r, wp_bin, wp_div, wp_dupi, wp_dupr, wp_dup2, wp_popi, wp_popr, wp_ifeq, wp_ifne, wp_iflt, wp_ifge, wp_ifgt, wp_ifle, wp_iceq, wp_icne, wp_iclt, wp_icge, wp_icgt, wp_icle, wp_jmp, wp_seq, sq_j, sq_r, lq_j, lq_r, eq_r, wp_kil, wp_ret, wp_zret, wp_vret, wp_aret, wp_gfi, wp_gfr, wp_pfi, wp_pfz, wp_ial, wp_ias, wp_aal, wp_gst, wp_sal, wp_min, wp_calV0, wp_calV1, wp_calS1, wp_calV2, wp_calS2, wp_calV3, wp_calS3, wp_calV4, wp_calS4, wp_calV5, wp_calS5, wp_acp, wp_i2l, wp_l2i, wp_lcon, wp_lbin, wp_ldiv, psh_s, psh_n, en, List.map_cons, List.map_nil, List.cons_append, List.nil_append, List.length_cons, List.length_nil, List.replicate_succ, List.replicate_zero, List.zipWith_cons_cons, List.zipWith_nil_left, List.zipWith_nil_right, if_true, if_false, Bool.false_eq_true, Nat.reduceAdd, Nat.reduceSub, Nat.reduceLeDiff, Nat.reduceEqDiff, Nat.reduceMul, true_and, and_true, Option.some.injEq, exists_eq_left', Nat.le_refl, Nat.zero_le, reduceIte, Nat.add_zero, Nat.zero_add]
  exact rS1_pa hS hR hf
/-! chains -/
theorem vst_more {S : vS} {k : Nat} : ∀ n o, it S n o = none → ∀ m, n ≤ m → vst S k m o = vst S k n o
  | 0, o, h, m, _ => by
    have h : o = none := h
    subst h
    cases m <;> rfl
  | n + 1, none, _, m, hm => by
    cases m with
    | zero => omega
    | succ m => rfl
  | n + 1, some s, h, m, hm => by
    cases m with
    | zero => omega
    | succ m =>
      have h : it S n ((stS S).2.1 s) = none := h
      unfold vst
      rw [vst_more n _ h m (by omega)]
theorem it_ok {S : vS} (h : vOK S) {o : Option Nat} (ho : sOK S o) : it S 6 o = none := by
  cases o with
  | none => rfl
  | some s => exact h.2.2.2.2 s (ho s rfl)
theorem it_b {S : vS} (h : vOK S) {s : Nat} (hs : s < (stS S).1) : it S 5 ((stS S).2.1 s) = none := h.2.2.2.2 s hs
/-- redundant -/
def red (S : vS) (R : vRw) (j k : Nat) : Bool := decide (R.2.2 j k = some (vst S k 6 (R.2.1 j)))
def rwRed (S : vS) (R : vRw) (b : Bool) (P : Nat → Nat → Bool) : vRw := (R.1, R.2.1, fun j k => if b && P j k && red S R j k then none else R.2.2 j k)
theorem it_red {S : vS} {R : vRw} (hR : R.2.1 = (stS S).2.1) : ∀ n o, it (setSt S R) n o = it S n o
  | 0, _ => rfl
  | _ + 1, none => rfl
  | n + 1, some s => by
    show it (setSt S R) n (R.2.1 s) = it S n ((stS S).2.1 s)
    rw [it_red hR n, hR]
theorem vst_red {S : vS} {b : Bool} {P : Nat → Nat → Bool} (h : vOK S) {k : Nat} : ∀ n o, n ≤ 6 → sOK S o → it S n o = none → vst (setSt S (rwRed S (stS S) b P)) k n o = vst S k n o
  | 0, _, _, _, _ => rfl
  | n + 1, none, _, _, _ => rfl
  | n + 1, some s, hn, ho, hi => by
    have hs := ho s rfl
    have ih := vst_red (b := b) (P := P) h (k := k) n ((stS S).2.1 s) (by omega) (sOK_b h hs) hi
    unfold vst
    show (match (if b && P s k && red S (stS S) s k then none else (stS S).2.2 s k) with | some v => v | none => vst (setSt S (rwRed S (stS S) b P)) k n ((stS S).2.1 s)) = _
    by_cases hc : (b && P s k && red S (stS S) s k) = true
    · rw [if_pos hc, ih]
      simp only [Bool.and_eq_true] at hc
      have hr : (stS S).2.2 s k = some (vst S k 6 ((stS S).2.1 s)) := by simpa [red] using hc.2
      rw [hr]
      exact (vst_more n _ hi 6 (by omega)).symm
    · rw [if_neg hc, ih]
      cases (stS S).2.2 s k <;> rfl
theorem vst_red6 {S : vS} {b : Bool} {P : Nat → Nat → Bool} (h : vOK S) {k : Nat} {o : Option Nat} (ho : sOK S o) : vst (setSt S (rwRed S (stS S) b P)) k 6 o = vst S k 6 o := vst_red h 6 o (Nat.le_refl _) ho (it_ok h ho)
theorem ok_redS {S : vS} (h : vOK S) (b : Bool) (P : Nat → Nat → Bool) : vOK (setSt S (rwRed S (stS S) b P)) := by
  obtain ⟨h0, h1, h2, h3, h4⟩ := h
  refine ⟨h0, h1, ⟨h2.1, fun j hj => ⟨(h2.2 j hj).1, fun k hk v hv => ?_⟩⟩, h3, fun s hs => ?_⟩
  · have hv : (if b && P j k && red S (stS S) j k then none else (stS S).2.2 j k) = some v := hv
    by_cases hc : (b && P j k && red S (stS S) j k) = true
    · rw [if_pos hc] at hv
      cases hv
    · rw [if_neg hc] at hv
      exact (h2.2 j hj).2 k hk v hv
  · rw [it_red (S := S) (R := rwRed S (stS S) b P) rfl]
    exact h4 s hs
theorem ok_redP {S : vS} (h : vOK S) (b : Bool) (P : Nat → Nat → Bool) : vOK (setPa S (rwRed S (paS S) b P)) := by
  obtain ⟨h0, h1, h2, h3, h4⟩ := h
  refine ⟨h0, h1, h2, ⟨h3.1, fun j hj => ⟨(h3.2 j hj).1, fun k hk v hv => ?_⟩⟩, fun s hs => ?_⟩
  · have hv : (if b && P j k && red S (paS S) j k then none else (paS S).2.2 j k) = some v := hv
    by_cases hc : (b && P j k && red S (paS S) j k) = true
    · rw [if_pos hc] at hv
      cases hv
    · rw [if_neg hc] at hv
      exact (h3.2 j hj).2 k hk v hv
  · have e : ∀ n o, it (setPa S (rwRed S (paS S) b P)) n o = it S n o := by
      intro n
      induction n with
      | zero => intro o; rfl
      | succ n ih =>
        intro o
        cases o with
        | none => rfl
        | some a => exact ih _
    rw [e]
    exact h4 s hs
theorem vst_pa {S : vS} {R : vRw} {k : Nat} : ∀ n o, vst (setPa S R) k n o = vst S k n o
  | 0, _ => rfl
  | _ + 1, none => rfl
  | n + 1, some s => by
    unfold vst
    rw [vst_pa n]
    rfl
def nred (S : vS) (R : vRw) (j i : Nat) : Nat := sm (fun k => if red S R j k then 1 else 0) i
theorem nred_le (S : vS) (R : vRw) (j i : Nat) : nred S R j i ≤ i := by
  have := sm_le (f := fun k => if red S R j k then 1 else 0) (b := 1) i (fun k _ => by show (if red S R j k then 1 else 0) ≤ 1; split <;> omega)
  unfold nred
  omega
def cred (S : vS) (R : vRw) (n : Nat) : Nat := sm (fun j => nred S R j 6) n
/-- the pairs ahead of row j, property i -/
def ahead (j i : Nat) : Nat → Nat → Bool := fun a c => decide (a < j) || (decide (a = j) && decide (c < i))
theorem v_redundantSt {M : vM} {S : vS} (hS : rS1 M S) (h : vOK S) (b : Bool) : wpF F_X8_redundantIn [.ref 1, .ref 3, .int (bI b)] gA M (fun v G' M' => G' = gA ∧ v = some (.int (nI (cred S (stS S) (stS S).1))) ∧ rS1 M' (setSt S (rwRed S (stS S) b (fun _ _ => true))) ∧ frN M M') := by
  have hn : (stS S).1 ≤ 8 := by have := ns_le h; omega
  have key : ∀ P : Nat → Nat → Bool, ∀ M', rS1 M' (setSt S (rwRed S (stS S) b P)) → ∀ (o : Option Nat), sOK S o → ∀ k, k < 6 → F_X8_styleValue [.ref 1, .int (nO o), .int (nI k)] gA M' = some (some (.int (nI (vst S k 6 o))), gA, M') := by
    intro P M' h1 o ho k hk
    have := v_styleValue h1 (ok_redS h b P) (s := o) (k := k) (by exact ho) hk
    rw [vst_red6 h ho] at this
    exact this
  refine run_wp ⟨Nat.le_of_ble_eq_true rfl, rfl⟩ ?_
  simp only [D_X8_redundantIn, wp_con, wp_ild0, wp_ald0, wp_ist0, wp_inc0, wp_ild1, wp_ald1, wp_ist1n, wp_inc1n, wp_ist1i, wp_inc1i, wp_ist1r, wp_inc1r, wp_ild2, wp_ald2, wp_ist2n, wp_inc2n, wp_ist2i, wp_inc2i, wp_ist2r, wp_inc2r, wp_ild3, wp_ald3, wp_ist3n, wp_inc3n, wp_ist3i, wp_inc3i, wp_ist3r, wp_inc3r, wp_ild4, wp_ald4, wp_ist4n, wp_inc4n, wp_ist4i, wp_inc4i, wp_ist4r, wp_inc4r, wp_ild5, wp_ald5, wp_ist5n, wp_inc5n, wp_ist5i, wp_inc5i, wp_ist5r, wp_inc5r, wp_ild6, wp_ald6, wp_ist6n, wp_inc6n, wp_ist6i, wp_inc6i, wp_ist6r, wp_inc6r, wp_ild7, wp_ald7, wp_ist7n, wp_inc7n, wp_ist7i, wp_inc7i, wp_ist7r, wp_inc7r, wp_ild8, wp_ald8, wp_ist8n, wp_inc8n, wp_ist8i, wp_inc8i, wp_ist8r, wp_inc8r, wp_ild9, wp_ald9, wp_ist9n, wp_inc9n, wp_ist9i, wp_inc9i, wp_ist9r, wp_inc9r, wp_bin, wp_div, wp_dupi, wp_dupr, wp_dup2, wp_popi, wp_popr, wp_ifeq, wp_ifne, wp_iflt, wp_ifge, wp_ifgt, wp_ifle, wp_iceq, wp_icne, wp_iclt, wp_icge, wp_icgt, wp_icle, wp_jmp, wp_seq, sq_j, sq_r, lq_j, lq_r, eq_r, wp_kil, wp_ret, wp_zret, wp_vret, wp_aret, wp_gfi, wp_gfr, wp_pfi, wp_pfz, wp_ial, wp_ias, wp_aal, wp_gst, wp_sal, wp_min, wp_calV0, wp_calV1, wp_calS1, wp_calV2, wp_calS2, wp_calV3, wp_calS3, wp_calV4, wp_calS4, wp_calV5, wp_calS5, wp_acp, wp_i2l, wp_l2i, wp_lcon, wp_lbin, wp_ldiv, psh_s, psh_n, en, List.map_cons, List.map_nil, List.cons_append, List.nil_append, List.length_cons, List.length_nil, List.replicate_succ, List.replicate_zero, List.zipWith_cons_cons, List.zipWith_nil_left, List.zipWith_nil_right, if_true, if_false, Bool.false_eq_true, Nat.reduceAdd, Nat.reduceSub, Nat.reduceLeDiff, Nat.reduceEqDiff, Nat.reduceMul, true_and, and_true, Option.some.injEq, exists_eq_left', Nat.le_refl, Nat.zero_le, reduceIte, Nat.add_zero, Nat.zero_add, l_0]
  refine wp_for (stS S).1 (fun j L M' => rS1 M' (setSt S (rwRed S (stS S) b (ahead j 0))) ∧ frN M M' ∧ L = [some (.ref 1), some (.ref 3), some (.int (bI b)), some (.int (nI (cred S (stS S) j))), some (.int (nI j)), none, none]) ?_ ?_ 4000 0 _ _ (by omega) (by omega) ⟨?_, frN_rf, rfl⟩
  · rintro j L M' hj ⟨h1, hf, rfl⟩
    have hc : M' 3 1 = nI (stS S).1 := h1.2.2.1.1
    simp only [B_X8_redundantIn_5, wp_con, wp_ild0, wp_ald0, wp_ist0, wp_inc0, wp_ild1, wp_ald1, wp_ist1n, wp_inc1n, wp_ist1i, wp_inc1i, wp_ist1r, wp_inc1r, wp_ild2, wp_ald2, wp_ist2n, wp_inc2n, wp_ist2i, wp_inc2i, wp_ist2r, wp_inc2r, wp_ild3, wp_ald3, wp_ist3n, wp_inc3n, wp_ist3i, wp_inc3i, wp_ist3r, wp_inc3r, wp_ild4, wp_ald4, wp_ist4n, wp_inc4n, wp_ist4i, wp_inc4i, wp_ist4r, wp_inc4r, wp_ild5, wp_ald5, wp_ist5n, wp_inc5n, wp_ist5i, wp_inc5i, wp_ist5r, wp_inc5r, wp_ild6, wp_ald6, wp_ist6n, wp_inc6n, wp_ist6i, wp_inc6i, wp_ist6r, wp_inc6r, wp_ild7, wp_ald7, wp_ist7n, wp_inc7n, wp_ist7i, wp_inc7i, wp_ist7r, wp_inc7r, wp_ild8, wp_ald8, wp_ist8n, wp_inc8n, wp_ist8i, wp_inc8i, wp_ist8r, wp_inc8r, wp_ild9, wp_ald9, wp_ist9n, wp_inc9n, wp_ist9i, wp_inc9i, wp_ist9r, wp_inc9r, wp_bin, wp_div, wp_dupi, wp_dupr, wp_dup2, wp_popi, wp_popr, wp_ifeq, wp_ifne, wp_iflt, wp_ifge, wp_ifgt, wp_ifle, wp_iceq, wp_icne, wp_iclt, wp_icge, wp_icgt, wp_icle, wp_jmp, wp_seq, sq_j, sq_r, lq_j, lq_r, eq_r, wp_kil, wp_ret, wp_zret, wp_vret, wp_aret, wp_gfi, wp_gfr, wp_pfi, wp_pfz, wp_ial, wp_ias, wp_aal, wp_gst, wp_sal, wp_min, wp_calV0, wp_calV1, wp_calS1, wp_calV2, wp_calS2, wp_calV3, wp_calS3, wp_calV4, wp_calS4, wp_calV5, wp_calS5, wp_acp, wp_i2l, wp_l2i, wp_lcon, wp_lbin, wp_ldiv, psh_s, psh_n, en, List.map_cons, List.map_nil, List.cons_append, List.nil_append, List.length_cons, List.length_nil, List.replicate_succ, List.replicate_zero, List.zipWith_cons_cons, List.zipWith_nil_left, List.zipWith_nil_right, if_true, if_false, Bool.false_eq_true, Nat.reduceAdd, Nat.reduceSub, Nat.reduceLeDiff, Nat.reduceEqDiff, Nat.reduceMul, true_and, and_true, Option.some.injEq, exists_eq_left', Nat.le_refl, Nat.zero_le, reduceIte, Nat.add_zero, Nat.zero_add, xF0, xF1, xF2, xF3, hc, l_0, N_le (show (stS S).1 < 2147483648 by omega) (show j < 2147483648 by omega)]
    refine ⟨fun h => absurd h (by omega), fun _ => ?_⟩
    refine wp_for 6 (fun i L M2 => rS1 M2 (setSt S (rwRed S (stS S) b (ahead j i))) ∧ frN M M2 ∧ L = [some (.ref 1), some (.ref 3), some (.int (bI b)), some (.int (nI (cred S (stS S) j + nred S (stS S) j i))), some (.int (nI j)), some (.int (nI i)), none]) ?_ ?_ 4000 0 _ _ (by omega) (by omega) ⟨h1, hf, rfl⟩
    · rintro i L M2 hi ⟨g1, gf, rfl⟩
      have q2 := g1.2.2.1.2 j hj
      have qo : M2 5 (j * 6 + i) = nO ((stS S).2.2 j i) := by
        have := q2.2 i hi
        have e : (stS (setSt S (rwRed S (stS S) b (ahead j i)))).2.2 j i = (stS S).2.2 j i := by
          show (if b && ahead j i j i && red S (stS S) j i then none else (stS S).2.2 j i) = _
          rw [if_neg (by simp [ahead])]
        rw [e] at this
        exact this
      have qb : M2 4 j = nO ((stS S).2.1 j) := q2.1
      have ov := v_ownValue isR3 (show j < 8 by omega) hi M2
      simp only [Nat.reduceAdd, qo] at ov
      have sv := key _ M2 g1 _ (sOK_b h hj) i hi
      have hp1 : ∀ a c, a < 8 → c < 6 → (a = j ∧ c = i ∨ ¬ (a = j ∧ c = i)) := fun a c _ _ => Classical.em _
      -- the world behind this property, if nothing is written
      have same : red S (stS S) j i = false → rS1 M2 (setSt S (rwRed S (stS S) b (ahead j (i + 1)))) := by
        intro hr
        have e : ∀ a c, (if b && ahead j (i + 1) a c && red S (stS S) a c then none else (stS S).2.2 a c) = (if b && ahead j i a c && red S (stS S) a c then none else (stS S).2.2 a c) := by
          intro a c
          by_cases hac : a = j ∧ c = i
          · obtain ⟨rfl, rfl⟩ := hac
            simp [hr]
          · have : ahead j (i + 1) a c = ahead j i a c := by
              simp only [ahead]
              by_cases ha : a = j
              · subst ha
                have hc : ¬ c = i := fun q => hac ⟨rfl, q⟩
                simp
                omega
              · simp [ha]
            rw [this]
        have : rwRed S (stS S) b (ahead j (i + 1)) = rwRed S (stS S) b (ahead j i) := by
          unfold rwRed
          congr 2
          funext a c
          exact e a c
        rw [this]
        exact g1
      have hit : ∀ x : Int32, red S (stS S) j i = true → x = nO (if b then none else (stS S).2.2 j i) → rS1 (mset M2 5 (j * 6 + i) x) (setSt S (rwRed S (stS S) b (ahead j (i + 1)))) ∧ frN M (mset M2 5 (j * 6 + i) x) := by
        intro x hr hx
        have hR : rRw (mset M2 5 (j * 6 + i) x) 3 (rwRed S (stS S) b (ahead j (i + 1))) := by
          refine ⟨?_, fun a ha => ⟨?_, fun c hc => ?_⟩⟩
          · rw [ms_a (by decide)]
            exact g1.2.2.1.1
          · rw [ms_a (by decide)]
            exact (g1.2.2.1.2 a ha).1
          · show mset M2 5 (j * 6 + i) x 5 (a * 6 + c) = nO (if b && ahead j (i + 1) a c && red S (stS S) a c then none else (stS S).2.2 a c)
            by_cases hac : a = j ∧ c = i
            · obtain ⟨rfl, rfl⟩ := hac
              rw [ms_eq, hx]
              cases b <;> simp [ahead, hr]
            · rw [ms_k (by omega)]
              have e2 := (g1.2.2.1.2 a ha).2 c hc
              rw [e2]
              show nO (if b && ahead j i a c && red S (stS S) a c then none else (stS S).2.2 a c) = _
              have : ahead j (i + 1) a c = ahead j i a c := by
                simp only [ahead]
                by_cases ha' : a = j
                · subst ha'
                  have hc' : ¬ c = i := fun q => hac ⟨rfl, q⟩
                  simp
                  omega
                · simp [ha']
              rw [this]
        have hfr : frR 3 M2 (mset M2 5 (j * 6 + i) x) := ⟨fun a a0 a1 a2 => ms_a a2, by rw [ms_a (by decide)]⟩
        have := rS1_st (S := setSt S (rwRed S (stS S) b (ahead j i))) g1 hR hfr
        exact ⟨this.1, frN_tr gf this.2⟩
      have cw : ∀ x : Int32, F_X7_changeOwn [.ref 3, .int (nI j), .int (nI i), .int x] gA M2 = some (some (.int (M2 5 (j * 6 + i))), gA, mset M2 5 (j * 6 + i) x) := fun x => v_changeOwn isR3 (show j < 8 by omega) hi x M2
      have cc := cred S (stS S) j
      simp only [B_X8_redundantIn_17, K_X8_redundantIn_80, K_X8_redundantIn_76, wp_con, wp_ild0, wp_ald0, wp_ist0, wp_inc0, wp_ild1, wp_ald1, wp_ist1n, wp_inc1n, wp_ist1i, wp_inc1i, wp_ist1r, wp_inc1r, wp_ild2, wp_ald2, wp_ist2n, wp_inc2n, wp_ist2i, wp_inc2i, wp_ist2r, wp_inc2r, wp_ild3, wp_ald3, wp_ist3n, wp_inc3n, wp_ist3i, wp_inc3i, wp_ist3r, wp_inc3r, wp_ild4, wp_ald4, wp_ist4n, wp_inc4n, wp_ist4i, wp_inc4i, wp_ist4r, wp_inc4r, wp_ild5, wp_ald5, wp_ist5n, wp_inc5n, wp_ist5i, wp_inc5i, wp_ist5r, wp_inc5r, wp_ild6, wp_ald6, wp_ist6n, wp_inc6n, wp_ist6i, wp_inc6i, wp_ist6r, wp_inc6r, wp_ild7, wp_ald7, wp_ist7n, wp_inc7n, wp_ist7i, wp_inc7i, wp_ist7r, wp_inc7r, wp_ild8, wp_ald8, wp_ist8n, wp_inc8n, wp_ist8i, wp_inc8i, wp_ist8r, wp_inc8r, wp_ild9, wp_ald9, wp_ist9n, wp_inc9n, wp_ist9i, wp_inc9i, wp_ist9r, wp_inc9r, wp_bin, wp_div, wp_dupi, wp_dupr, wp_dup2, wp_popi, wp_popr, wp_ifeq, wp_ifne, wp_iflt, wp_ifge, wp_ifgt, wp_ifle, wp_iceq, wp_icne, wp_iclt, wp_icge, wp_icgt, wp_icle, wp_jmp, wp_seq, sq_j, sq_r, lq_j, lq_r, eq_r, wp_kil, wp_ret, wp_zret, wp_vret, wp_aret, wp_gfi, wp_gfr, wp_pfi, wp_pfz, wp_ial, wp_ias, wp_aal, wp_gst, wp_sal, wp_min, wp_calV0, wp_calV1, wp_calS1, wp_calV2, wp_calS2, wp_calV3, wp_calS3, wp_calV4, wp_calS4, wp_calV5, wp_calS5, wp_acp, wp_i2l, wp_l2i, wp_lcon, wp_lbin, wp_ldiv, psh_s, psh_n, en, List.map_cons, List.map_nil, List.cons_append, List.nil_append, List.length_cons, List.length_nil, List.replicate_succ, List.replicate_zero, List.zipWith_cons_cons, List.zipWith_nil_left, List.zipWith_nil_right, if_true, if_false, Bool.false_eq_true, Nat.reduceAdd, Nat.reduceSub, Nat.reduceLeDiff, Nat.reduceEqDiff, Nat.reduceMul, true_and, and_true, Option.some.injEq, exists_eq_left', Nat.le_refl, Nat.zero_le, reduceIte, Nat.add_zero, Nat.zero_add, xF0, xF1, xF2, xF3, l_6, l_0, N_s, N_le (show 6 < 2147483648 by decide) (show i < 2147483648 by omega), wpF_eq ov, N_cl (show j < 2147483648 by omega), N_in (show j < 8 by omega) (by decide), qb, wpF_eq sv, wpF_eq (cw _)]
      refine ⟨fun h => absurd h (by omega), fun _ => ⟨fun e => ?_, fun e => ⟨fun e2 => ?_, fun e2 => ⟨fun e3 => ?_, fun e3 => ?_⟩⟩⟩⟩
      · have e' : (stS S).2.2 j i = none := (nO_m1 (fun v hv => by have := so_lt h hj hi hv; omega)).mp e
        have hr : red S (stS S) j i = false := by simp [red, e']
        exact ⟨same hr, gf, by simp [nred, sm, hr]⟩
      · have hr : red S (stS S) j i = false := by
          cases hq : (stS S).2.2 j i with
          | none => simp [red, hq]
          | some v =>
            have : v ≠ vst S i 6 ((stS S).2.1 j) := fun q => e2 (by rw [hq, q]; rfl)
            simp [red, hq, this]
        exact ⟨same hr, gf, by simp [nred, sm, hr]⟩
      · have hr : red S (stS S) j i = true := by
          cases hq : (stS S).2.2 j i with
          | none => rw [hq] at e; exact absurd rfl e
          | some v =>
            have h1 := so_lt h hj hi hq
            have h2 := vst_ok h hi 6 _ (sOK_b h hj)
            have h3 := (top_lt i hi).2
            rw [hq, nO_s, N_eq (by omega) (by omega)] at e2
            simp [red, hq, e2]
        have hb : b = false := by
          cases b
          · rfl
          · exact absurd e3 (by decide)
        have := hit _ hr (show nO ((stS S).2.2 j i) = nO (if b then none else (stS S).2.2 j i) by rw [hb]; rfl)
        exact ⟨this.1, this.2, by simp [nred, sm, hr, Nat.add_assoc]⟩
      · have hr : red S (stS S) j i = true := by
          cases hq : (stS S).2.2 j i with
          | none => rw [hq] at e; exact absurd rfl e
          | some v =>
            have h1 := so_lt h hj hi hq
            have h2 := vst_ok h hi 6 _ (sOK_b h hj)
            have h3 := (top_lt i hi).2
            rw [hq, nO_s, N_eq (by omega) (by omega)] at e2
            simp [red, hq, e2]
        have hb : b = true := by
          cases b
          · exact absurd rfl e3
          · rfl
        have := hit _ hr (show (-1 : Int32) = nO (if b then none else (stS S).2.2 j i) by rw [hb]; rfl)
        exact ⟨this.1, this.2, by simp [nred, sm, hr, Nat.add_assoc]⟩
    · rintro L M2 ⟨g1, gf, rfl⟩
      simp only [B_X8_redundantIn_17, K_X8_redundantIn_86, wp_con, wp_ild0, wp_ald0, wp_ist0, wp_inc0, wp_ild1, wp_ald1, wp_ist1n, wp_inc1n, wp_ist1i, wp_inc1i, wp_ist1r, wp_inc1r, wp_ild2, wp_ald2, wp_ist2n, wp_inc2n, wp_ist2i, wp_inc2i, wp_ist2r, wp_inc2r, wp_ild3, wp_ald3, wp_ist3n, wp_inc3n, wp_ist3i, wp_inc3i, wp_ist3r, wp_inc3r, wp_ild4, wp_ald4, wp_ist4n, wp_inc4n, wp_ist4i, wp_inc4i, wp_ist4r, wp_inc4r, wp_ild5, wp_ald5, wp_ist5n, wp_inc5n, wp_ist5i, wp_inc5i, wp_ist5r, wp_inc5r, wp_ild6, wp_ald6, wp_ist6n, wp_inc6n, wp_ist6i, wp_inc6i, wp_ist6r, wp_inc6r, wp_ild7, wp_ald7, wp_ist7n, wp_inc7n, wp_ist7i, wp_inc7i, wp_ist7r, wp_inc7r, wp_ild8, wp_ald8, wp_ist8n, wp_inc8n, wp_ist8i, wp_inc8i, wp_ist8r, wp_inc8r, wp_ild9, wp_ald9, wp_ist9n, wp_inc9n, wp_ist9i, wp_inc9i, wp_ist9r, wp_inc9r, wp_bin, wp_div, wp_dupi, wp_dupr, wp_dup2, wp_popi, wp_popr, wp_ifeq, wp_ifne, wp_iflt, wp_ifge, wp_ifgt, wp_ifle, wp_iceq, wp_icne, wp_iclt, wp_icge, wp_icgt, wp_icle, wp_jmp, wp_seq, sq_j, sq_r, lq_j, lq_r, eq_r, wp_kil, wp_ret, wp_zret, wp_vret, wp_aret, wp_gfi, wp_gfr, wp_pfi, wp_pfz, wp_ial, wp_ias, wp_aal, wp_gst, wp_sal, wp_min, wp_calV0, wp_calV1, wp_calS1, wp_calV2, wp_calS2, wp_calV3, wp_calS3, wp_calV4, wp_calS4, wp_calV5, wp_calS5, wp_acp, wp_i2l, wp_l2i, wp_lcon, wp_lbin, wp_ldiv, psh_s, psh_n, en, List.map_cons, List.map_nil, List.cons_append, List.nil_append, List.length_cons, List.length_nil, List.replicate_succ, List.replicate_zero, List.zipWith_cons_cons, List.zipWith_nil_left, List.zipWith_nil_right, if_true, if_false, Bool.false_eq_true, Nat.reduceAdd, Nat.reduceSub, Nat.reduceLeDiff, Nat.reduceEqDiff, Nat.reduceMul, true_and, and_true, Option.some.injEq, exists_eq_left', Nat.le_refl, Nat.zero_le, reduceIte, Nat.add_zero, Nat.zero_add, xF0, xF1, xF2, xF3, l_6, N_s, N_le (show 6 < 2147483648 by decide) (show 6 < 2147483648 by decide)]
      refine ⟨fun _ => ⟨?_, gf, by simp [cred, sm]⟩, fun h => absurd trivial h⟩
      have : rS1 M2 (setSt S (rwRed S (stS S) b (ahead j 6))) := g1
      obtain ⟨a0, a1, a2, a3⟩ := this
      refine ⟨a0, a1, ⟨a2.1, fun a ha => ⟨(a2.2 a ha).1, fun c hc => by rw [(a2.2 a ha).2 c hc]; exact congrArg nO (by simp only [stS, setSt, rwRed, ahead]; simp only [stS, setSt, rwRed] at ha; by_cases q : a = j <;> simp [q, hc, show (a < j + 1) = (a < j ∨ a = j) by simp; omega])⟩⟩, a3⟩
  · rintro L M' ⟨h1, hf, rfl⟩
    have hc : M' 3 1 = nI (stS S).1 := h1.2.2.1.1
    simp only [B_X8_redundantIn_5, K_X8_redundantIn_92, wp_con, wp_ild0, wp_ald0, wp_ist0, wp_inc0, wp_ild1, wp_ald1, wp_ist1n, wp_inc1n, wp_ist1i, wp_inc1i, wp_ist1r, wp_inc1r, wp_ild2, wp_ald2, wp_ist2n, wp_inc2n, wp_ist2i, wp_inc2i, wp_ist2r, wp_inc2r, wp_ild3, wp_ald3, wp_ist3n, wp_inc3n, wp_ist3i, wp_inc3i, wp_ist3r, wp_inc3r, wp_ild4, wp_ald4, wp_ist4n, wp_inc4n, wp_ist4i, wp_inc4i, wp_ist4r, wp_inc4r, wp_ild5, wp_ald5, wp_ist5n, wp_inc5n, wp_ist5i, wp_inc5i, wp_ist5r, wp_inc5r, wp_ild6, wp_ald6, wp_ist6n, wp_inc6n, wp_ist6i, wp_inc6i, wp_ist6r, wp_inc6r, wp_ild7, wp_ald7, wp_ist7n, wp_inc7n, wp_ist7i, wp_inc7i, wp_ist7r, wp_inc7r, wp_ild8, wp_ald8, wp_ist8n, wp_inc8n, wp_ist8i, wp_inc8i, wp_ist8r, wp_inc8r, wp_ild9, wp_ald9, wp_ist9n, wp_inc9n, wp_ist9i, wp_inc9i, wp_ist9r, wp_inc9r, wp_bin, wp_div, wp_dupi, wp_dupr, wp_dup2, wp_popi, wp_popr, wp_ifeq, wp_ifne, wp_iflt, wp_ifge, wp_ifgt, wp_ifle, wp_iceq, wp_icne, wp_iclt, wp_icge, wp_icgt, wp_icle, wp_jmp, wp_seq, sq_j, sq_r, lq_j, lq_r, eq_r, wp_kil, wp_ret, wp_zret, wp_vret, wp_aret, wp_gfi, wp_gfr, wp_pfi, wp_pfz, wp_ial, wp_ias, wp_aal, wp_gst, wp_sal, wp_min, wp_calV0, wp_calV1, wp_calS1, wp_calV2, wp_calS2, wp_calV3, wp_calS3, wp_calV4, wp_calS4, wp_calV5, wp_calS5, wp_acp, wp_i2l, wp_l2i, wp_lcon, wp_lbin, wp_ldiv, psh_s, psh_n, en, List.map_cons, List.map_nil, List.cons_append, List.nil_append, List.length_cons, List.length_nil, List.replicate_succ, List.replicate_zero, List.zipWith_cons_cons, List.zipWith_nil_left, List.zipWith_nil_right, if_true, if_false, Bool.false_eq_true, Nat.reduceAdd, Nat.reduceSub, Nat.reduceLeDiff, Nat.reduceEqDiff, Nat.reduceMul, true_and, and_true, Option.some.injEq, exists_eq_left', Nat.le_refl, Nat.zero_le, reduceIte, Nat.add_zero, Nat.zero_add, xF0, xF1, xF2, xF3, hc, N_le (show (stS S).1 < 2147483648 by omega) (show (stS S).1 < 2147483648 by omega)]
    refine ⟨fun _ => ⟨?_, hf⟩, fun h => absurd trivial h⟩
    obtain ⟨a0, a1, a2, a3⟩ := h1
    refine ⟨a0, a1, ⟨a2.1, fun a ha => ⟨(a2.2 a ha).1, fun c hc => by rw [(a2.2 a ha).2 c hc]; exact congrArg nO (by simp only [stS, setSt, rwRed, ahead]; simp only [stS, setSt, rwRed] at ha; simp [ha])⟩⟩, a3⟩
  · obtain ⟨a0, a1, a2, a3⟩ := hS
    refine ⟨a0, a1, ⟨a2.1, fun a ha => ⟨(a2.2 a ha).1, fun c hc => by rw [(a2.2 a ha).2 c hc]; exact congrArg nO (by simp [stS, setSt, rwRed, ahead])⟩⟩, a3⟩
theorem v_redundantPa {M : vM} {S : vS} (hS : rS1 M S) (h : vOK S) (b : Bool) : wpF F_X8_redundantIn [.ref 1, .ref 6, .int (bI b)] gA M (fun v G' M' => G' = gA ∧ v = some (.int (nI (cred S (paS S) (paS S).1))) ∧ rS1 M' (setPa S (rwRed S (paS S) b (fun _ _ => true))) ∧ frN M M') := by
  have hn : (paS S).1 ≤ 8 := by have := np_le h; omega
  have key : ∀ P : Nat → Nat → Bool, ∀ M', rS1 M' (setPa S (rwRed S (paS S) b P)) → ∀ (o : Option Nat), sOK S o → ∀ k, k < 6 → F_X8_styleValue [.ref 1, .int (nO o), .int (nI k)] gA M' = some (some (.int (nI (vst S k 6 o))), gA, M') := by
    intro P M' h1 o ho k hk
    have := v_styleValue h1 (ok_redP h b P) (s := o) (k := k) (by exact ho) hk
    rw [vst_pa] at this
    exact this
  refine run_wp ⟨Nat.le_of_ble_eq_true rfl, rfl⟩ ?_
  simp only [D_X8_redundantIn, wp_con, wp_ild0, wp_ald0, wp_ist0, wp_inc0, wp_ild1, wp_ald1, wp_ist1n, wp_inc1n, wp_ist1i, wp_inc1i, wp_ist1r, wp_inc1r, wp_ild2, wp_ald2, wp_ist2n, wp_inc2n, wp_ist2i, wp_inc2i, wp_ist2r, wp_inc2r, wp_ild3, wp_ald3, wp_ist3n, wp_inc3n, wp_ist3i, wp_inc3i, wp_ist3r, wp_inc3r, wp_ild4, wp_ald4, wp_ist4n, wp_inc4n, wp_ist4i, wp_inc4i, wp_ist4r, wp_inc4r, wp_ild5, wp_ald5, wp_ist5n, wp_inc5n, wp_ist5i, wp_inc5i, wp_ist5r, wp_inc5r, wp_ild6, wp_ald6, wp_ist6n, wp_inc6n, wp_ist6i, wp_inc6i, wp_ist6r, wp_inc6r, wp_ild7, wp_ald7, wp_ist7n, wp_inc7n, wp_ist7i, wp_inc7i, wp_ist7r, wp_inc7r, wp_ild8, wp_ald8, wp_ist8n, wp_inc8n, wp_ist8i, wp_inc8i, wp_ist8r, wp_inc8r, wp_ild9, wp_ald9, wp_ist9n, wp_inc9n, wp_ist9i, wp_inc9i, wp_ist9r, wp_inc9r, wp_bin, wp_div, wp_dupi, wp_dupr, wp_dup2, wp_popi, wp_popr, wp_ifeq, wp_ifne, wp_iflt, wp_ifge, wp_ifgt, wp_ifle, wp_iceq, wp_icne, wp_iclt, wp_icge, wp_icgt, wp_icle, wp_jmp, wp_seq, sq_j, sq_r, lq_j, lq_r, eq_r, wp_kil, wp_ret, wp_zret, wp_vret, wp_aret, wp_gfi, wp_gfr, wp_pfi, wp_pfz, wp_ial, wp_ias, wp_aal, wp_gst, wp_sal, wp_min, wp_calV0, wp_calV1, wp_calS1, wp_calV2, wp_calS2, wp_calV3, wp_calS3, wp_calV4, wp_calS4, wp_calV5, wp_calS5, wp_acp, wp_i2l, wp_l2i, wp_lcon, wp_lbin, wp_ldiv, psh_s, psh_n, en, List.map_cons, List.map_nil, List.cons_append, List.nil_append, List.length_cons, List.length_nil, List.replicate_succ, List.replicate_zero, List.zipWith_cons_cons, List.zipWith_nil_left, List.zipWith_nil_right, if_true, if_false, Bool.false_eq_true, Nat.reduceAdd, Nat.reduceSub, Nat.reduceLeDiff, Nat.reduceEqDiff, Nat.reduceMul, true_and, and_true, Option.some.injEq, exists_eq_left', Nat.le_refl, Nat.zero_le, reduceIte, Nat.add_zero, Nat.zero_add, l_0]
  refine wp_for (paS S).1 (fun j L M' => rS1 M' (setPa S (rwRed S (paS S) b (ahead j 0))) ∧ frN M M' ∧ L = [some (.ref 1), some (.ref 6), some (.int (bI b)), some (.int (nI (cred S (paS S) j))), some (.int (nI j)), none, none]) ?_ ?_ 4000 0 _ _ (by omega) (by omega) ⟨?_, frN_rf, rfl⟩
  · rintro j L M' hj ⟨h1, hf, rfl⟩
    have hc : M' 6 1 = nI (paS S).1 := h1.2.2.2.1
    simp only [B_X8_redundantIn_5, wp_con, wp_ild0, wp_ald0, wp_ist0, wp_inc0, wp_ild1, wp_ald1, wp_ist1n, wp_inc1n, wp_ist1i, wp_inc1i, wp_ist1r, wp_inc1r, wp_ild2, wp_ald2, wp_ist2n, wp_inc2n, wp_ist2i, wp_inc2i, wp_ist2r, wp_inc2r, wp_ild3, wp_ald3, wp_ist3n, wp_inc3n, wp_ist3i, wp_inc3i, wp_ist3r, wp_inc3r, wp_ild4, wp_ald4, wp_ist4n, wp_inc4n, wp_ist4i, wp_inc4i, wp_ist4r, wp_inc4r, wp_ild5, wp_ald5, wp_ist5n, wp_inc5n, wp_ist5i, wp_inc5i, wp_ist5r, wp_inc5r, wp_ild6, wp_ald6, wp_ist6n, wp_inc6n, wp_ist6i, wp_inc6i, wp_ist6r, wp_inc6r, wp_ild7, wp_ald7, wp_ist7n, wp_inc7n, wp_ist7i, wp_inc7i, wp_ist7r, wp_inc7r, wp_ild8, wp_ald8, wp_ist8n, wp_inc8n, wp_ist8i, wp_inc8i, wp_ist8r, wp_inc8r, wp_ild9, wp_ald9, wp_ist9n, wp_inc9n, wp_ist9i, wp_inc9i, wp_ist9r, wp_inc9r, wp_bin, wp_div, wp_dupi, wp_dupr, wp_dup2, wp_popi, wp_popr, wp_ifeq, wp_ifne, wp_iflt, wp_ifge, wp_ifgt, wp_ifle, wp_iceq, wp_icne, wp_iclt, wp_icge, wp_icgt, wp_icle, wp_jmp, wp_seq, sq_j, sq_r, lq_j, lq_r, eq_r, wp_kil, wp_ret, wp_zret, wp_vret, wp_aret, wp_gfi, wp_gfr, wp_pfi, wp_pfz, wp_ial, wp_ias, wp_aal, wp_gst, wp_sal, wp_min, wp_calV0, wp_calV1, wp_calS1, wp_calV2, wp_calS2, wp_calV3, wp_calS3, wp_calV4, wp_calS4, wp_calV5, wp_calS5, wp_acp, wp_i2l, wp_l2i, wp_lcon, wp_lbin, wp_ldiv, psh_s, psh_n, en, List.map_cons, List.map_nil, List.cons_append, List.nil_append, List.length_cons, List.length_nil, List.replicate_succ, List.replicate_zero, List.zipWith_cons_cons, List.zipWith_nil_left, List.zipWith_nil_right, if_true, if_false, Bool.false_eq_true, Nat.reduceAdd, Nat.reduceSub, Nat.reduceLeDiff, Nat.reduceEqDiff, Nat.reduceMul, true_and, and_true, Option.some.injEq, exists_eq_left', Nat.le_refl, Nat.zero_le, reduceIte, Nat.add_zero, Nat.zero_add, xF0, xF1, xF2, xF3, hc, l_0, N_le (show (paS S).1 < 2147483648 by omega) (show j < 2147483648 by omega)]
    refine ⟨fun h => absurd h (by omega), fun _ => ?_⟩
    refine wp_for 6 (fun i L M2 => rS1 M2 (setPa S (rwRed S (paS S) b (ahead j i))) ∧ frN M M2 ∧ L = [some (.ref 1), some (.ref 6), some (.int (bI b)), some (.int (nI (cred S (paS S) j + nred S (paS S) j i))), some (.int (nI j)), some (.int (nI i)), none]) ?_ ?_ 4000 0 _ _ (by omega) (by omega) ⟨h1, hf, rfl⟩
    · rintro i L M2 hi ⟨g1, gf, rfl⟩
      have q2 := g1.2.2.2.2 j hj
      have qo : M2 8 (j * 6 + i) = nO ((paS S).2.2 j i) := by
        have := q2.2 i hi
        have e : (paS (setPa S (rwRed S (paS S) b (ahead j i)))).2.2 j i = (paS S).2.2 j i := by
          show (if b && ahead j i j i && red S (paS S) j i then none else (paS S).2.2 j i) = _
          rw [if_neg (by simp [ahead])]
        rw [e] at this
        exact this
      have qb : M2 7 j = nO ((paS S).2.1 j) := q2.1
      have ov := v_ownValue isR6 (show j < 8 by omega) hi M2
      simp only [Nat.reduceAdd, qo] at ov
      have sv := key _ M2 g1 _ (sOK_p h hj) i hi
      have hp1 : ∀ a c, a < 8 → c < 6 → (a = j ∧ c = i ∨ ¬ (a = j ∧ c = i)) := fun a c _ _ => Classical.em _
      -- the world behind this property, if nothing is written
      have same : red S (paS S) j i = false → rS1 M2 (setPa S (rwRed S (paS S) b (ahead j (i + 1)))) := by
        intro hr
        have e : ∀ a c, (if b && ahead j (i + 1) a c && red S (paS S) a c then none else (paS S).2.2 a c) = (if b && ahead j i a c && red S (paS S) a c then none else (paS S).2.2 a c) := by
          intro a c
          by_cases hac : a = j ∧ c = i
          · obtain ⟨rfl, rfl⟩ := hac
            simp [hr]
          · have : ahead j (i + 1) a c = ahead j i a c := by
              simp only [ahead]
              by_cases ha : a = j
              · subst ha
                have hc : ¬ c = i := fun q => hac ⟨rfl, q⟩
                simp
                omega
              · simp [ha]
            rw [this]
        have : rwRed S (paS S) b (ahead j (i + 1)) = rwRed S (paS S) b (ahead j i) := by
          unfold rwRed
          congr 2
          funext a c
          exact e a c
        rw [this]
        exact g1
      have hit : ∀ x : Int32, red S (paS S) j i = true → x = nO (if b then none else (paS S).2.2 j i) → rS1 (mset M2 8 (j * 6 + i) x) (setPa S (rwRed S (paS S) b (ahead j (i + 1)))) ∧ frN M (mset M2 8 (j * 6 + i) x) := by
        intro x hr hx
        have hR : rRw (mset M2 8 (j * 6 + i) x) 6 (rwRed S (paS S) b (ahead j (i + 1))) := by
          refine ⟨?_, fun a ha => ⟨?_, fun c hc => ?_⟩⟩
          · rw [ms_a (by decide)]
            exact g1.2.2.2.1
          · rw [ms_a (by decide)]
            exact (g1.2.2.2.2 a ha).1
          · show mset M2 8 (j * 6 + i) x 8 (a * 6 + c) = nO (if b && ahead j (i + 1) a c && red S (paS S) a c then none else (paS S).2.2 a c)
            by_cases hac : a = j ∧ c = i
            · obtain ⟨rfl, rfl⟩ := hac
              rw [ms_eq, hx]
              cases b <;> simp [ahead, hr]
            · rw [ms_k (by omega)]
              have e2 := (g1.2.2.2.2 a ha).2 c hc
              rw [e2]
              show nO (if b && ahead j i a c && red S (paS S) a c then none else (paS S).2.2 a c) = _
              have : ahead j (i + 1) a c = ahead j i a c := by
                simp only [ahead]
                by_cases ha' : a = j
                · subst ha'
                  have hc' : ¬ c = i := fun q => hac ⟨rfl, q⟩
                  simp
                  omega
                · simp [ha']
              rw [this]
        have hfr : frR 6 M2 (mset M2 8 (j * 6 + i) x) := ⟨fun a a0 a1 a2 => ms_a a2, by rw [ms_a (by decide)]⟩
        have := rS1_pa (S := setPa S (rwRed S (paS S) b (ahead j i))) g1 hR hfr
        exact ⟨this.1, frN_tr gf this.2⟩
      have cw : ∀ x : Int32, F_X7_changeOwn [.ref 6, .int (nI j), .int (nI i), .int x] gA M2 = some (some (.int (M2 8 (j * 6 + i))), gA, mset M2 8 (j * 6 + i) x) := fun x => v_changeOwn isR6 (show j < 8 by omega) hi x M2
      have cc := cred S (paS S) j
      simp only [B_X8_redundantIn_17, K_X8_redundantIn_80, K_X8_redundantIn_76, wp_con, wp_ild0, wp_ald0, wp_ist0, wp_inc0, wp_ild1, wp_ald1, wp_ist1n, wp_inc1n, wp_ist1i, wp_inc1i, wp_ist1r, wp_inc1r, wp_ild2, wp_ald2, wp_ist2n, wp_inc2n, wp_ist2i, wp_inc2i, wp_ist2r, wp_inc2r, wp_ild3, wp_ald3, wp_ist3n, wp_inc3n, wp_ist3i, wp_inc3i, wp_ist3r, wp_inc3r, wp_ild4, wp_ald4, wp_ist4n, wp_inc4n, wp_ist4i, wp_inc4i, wp_ist4r, wp_inc4r, wp_ild5, wp_ald5, wp_ist5n, wp_inc5n, wp_ist5i, wp_inc5i, wp_ist5r, wp_inc5r, wp_ild6, wp_ald6, wp_ist6n, wp_inc6n, wp_ist6i, wp_inc6i, wp_ist6r, wp_inc6r, wp_ild7, wp_ald7, wp_ist7n, wp_inc7n, wp_ist7i, wp_inc7i, wp_ist7r, wp_inc7r, wp_ild8, wp_ald8, wp_ist8n, wp_inc8n, wp_ist8i, wp_inc8i, wp_ist8r, wp_inc8r, wp_ild9, wp_ald9, wp_ist9n, wp_inc9n, wp_ist9i, wp_inc9i, wp_ist9r, wp_inc9r, wp_bin, wp_div, wp_dupi, wp_dupr, wp_dup2, wp_popi, wp_popr, wp_ifeq, wp_ifne, wp_iflt, wp_ifge, wp_ifgt, wp_ifle, wp_iceq, wp_icne, wp_iclt, wp_icge, wp_icgt, wp_icle, wp_jmp, wp_seq, sq_j, sq_r, lq_j, lq_r, eq_r, wp_kil, wp_ret, wp_zret, wp_vret, wp_aret, wp_gfi, wp_gfr, wp_pfi, wp_pfz, wp_ial, wp_ias, wp_aal, wp_gst, wp_sal, wp_min, wp_calV0, wp_calV1, wp_calS1, wp_calV2, wp_calS2, wp_calV3, wp_calS3, wp_calV4, wp_calS4, wp_calV5, wp_calS5, wp_acp, wp_i2l, wp_l2i, wp_lcon, wp_lbin, wp_ldiv, psh_s, psh_n, en, List.map_cons, List.map_nil, List.cons_append, List.nil_append, List.length_cons, List.length_nil, List.replicate_succ, List.replicate_zero, List.zipWith_cons_cons, List.zipWith_nil_left, List.zipWith_nil_right, if_true, if_false, Bool.false_eq_true, Nat.reduceAdd, Nat.reduceSub, Nat.reduceLeDiff, Nat.reduceEqDiff, Nat.reduceMul, true_and, and_true, Option.some.injEq, exists_eq_left', Nat.le_refl, Nat.zero_le, reduceIte, Nat.add_zero, Nat.zero_add, xF0, xF1, xF2, xF3, l_6, l_0, N_s, N_le (show 6 < 2147483648 by decide) (show i < 2147483648 by omega), wpF_eq ov, N_cl (show j < 2147483648 by omega), N_in (show j < 8 by omega) (by decide), qb, wpF_eq sv, wpF_eq (cw _)]
      refine ⟨fun h => absurd h (by omega), fun _ => ⟨fun e => ?_, fun e => ⟨fun e2 => ?_, fun e2 => ⟨fun e3 => ?_, fun e3 => ?_⟩⟩⟩⟩
      · have e' : (paS S).2.2 j i = none := (nO_m1 (fun v hv => by have := po_lt h hj hi hv; omega)).mp e
        have hr : red S (paS S) j i = false := by simp [red, e']
        exact ⟨same hr, gf, by simp [nred, sm, hr]⟩
      · have hr : red S (paS S) j i = false := by
          cases hq : (paS S).2.2 j i with
          | none => simp [red, hq]
          | some v =>
            have : v ≠ vst S i 6 ((paS S).2.1 j) := fun q => e2 (by rw [hq, q]; rfl)
            simp [red, hq, this]
        exact ⟨same hr, gf, by simp [nred, sm, hr]⟩
      · have hr : red S (paS S) j i = true := by
          cases hq : (paS S).2.2 j i with
          | none => rw [hq] at e; exact absurd rfl e
          | some v =>
            have h1 := po_lt h hj hi hq
            have h2 := vst_ok h hi 6 _ (sOK_p h hj)
            have h3 := (top_lt i hi).2
            rw [hq, nO_s, N_eq (by omega) (by omega)] at e2
            simp [red, hq, e2]
        have hb : b = false := by
          cases b
          · rfl
          · exact absurd e3 (by decide)
        have := hit _ hr (show nO ((paS S).2.2 j i) = nO (if b then none else (paS S).2.2 j i) by rw [hb]; rfl)
        exact ⟨this.1, this.2, by simp [nred, sm, hr, Nat.add_assoc]⟩
      · have hr : red S (paS S) j i = true := by
          cases hq : (paS S).2.2 j i with
          | none => rw [hq] at e; exact absurd rfl e
          | some v =>
            have h1 := po_lt h hj hi hq
            have h2 := vst_ok h hi 6 _ (sOK_p h hj)
            have h3 := (top_lt i hi).2
            rw [hq, nO_s, N_eq (by omega) (by omega)] at e2
            simp [red, hq, e2]
        have hb : b = true := by
          cases b
          · exact absurd rfl e3
          · rfl
        have := hit _ hr (show (-1 : Int32) = nO (if b then none else (paS S).2.2 j i) by rw [hb]; rfl)
        exact ⟨this.1, this.2, by simp [nred, sm, hr, Nat.add_assoc]⟩
    · rintro L M2 ⟨g1, gf, rfl⟩
      simp only [B_X8_redundantIn_17, K_X8_redundantIn_86, wp_con, wp_ild0, wp_ald0, wp_ist0, wp_inc0, wp_ild1, wp_ald1, wp_ist1n, wp_inc1n, wp_ist1i, wp_inc1i, wp_ist1r, wp_inc1r, wp_ild2, wp_ald2, wp_ist2n, wp_inc2n, wp_ist2i, wp_inc2i, wp_ist2r, wp_inc2r, wp_ild3, wp_ald3, wp_ist3n, wp_inc3n, wp_ist3i, wp_inc3i, wp_ist3r, wp_inc3r, wp_ild4, wp_ald4, wp_ist4n, wp_inc4n, wp_ist4i, wp_inc4i, wp_ist4r, wp_inc4r, wp_ild5, wp_ald5, wp_ist5n, wp_inc5n, wp_ist5i, wp_inc5i, wp_ist5r, wp_inc5r, wp_ild6, wp_ald6, wp_ist6n, wp_inc6n, wp_ist6i, wp_inc6i, wp_ist6r, wp_inc6r, wp_ild7, wp_ald7, wp_ist7n, wp_inc7n, wp_ist7i, wp_inc7i, wp_ist7r, wp_inc7r, wp_ild8, wp_ald8, wp_ist8n, wp_inc8n, wp_ist8i, wp_inc8i, wp_ist8r, wp_inc8r, wp_ild9, wp_ald9, wp_ist9n, wp_inc9n, wp_ist9i, wp_inc9i, wp_ist9r, wp_inc9r, wp_bin, wp_div, wp_dupi, wp_dupr, wp_dup2, wp_popi, wp_popr, wp_ifeq, wp_ifne, wp_iflt, wp_ifge, wp_ifgt, wp_ifle, wp_iceq, wp_icne, wp_iclt, wp_icge, wp_icgt, wp_icle, wp_jmp, wp_seq, sq_j, sq_r, lq_j, lq_r, eq_r, wp_kil, wp_ret, wp_zret, wp_vret, wp_aret, wp_gfi, wp_gfr, wp_pfi, wp_pfz, wp_ial, wp_ias, wp_aal, wp_gst, wp_sal, wp_min, wp_calV0, wp_calV1, wp_calS1, wp_calV2, wp_calS2, wp_calV3, wp_calS3, wp_calV4, wp_calS4, wp_calV5, wp_calS5, wp_acp, wp_i2l, wp_l2i, wp_lcon, wp_lbin, wp_ldiv, psh_s, psh_n, en, List.map_cons, List.map_nil, List.cons_append, List.nil_append, List.length_cons, List.length_nil, List.replicate_succ, List.replicate_zero, List.zipWith_cons_cons, List.zipWith_nil_left, List.zipWith_nil_right, if_true, if_false, Bool.false_eq_true, Nat.reduceAdd, Nat.reduceSub, Nat.reduceLeDiff, Nat.reduceEqDiff, Nat.reduceMul, true_and, and_true, Option.some.injEq, exists_eq_left', Nat.le_refl, Nat.zero_le, reduceIte, Nat.add_zero, Nat.zero_add, xF0, xF1, xF2, xF3, l_6, N_s, N_le (show 6 < 2147483648 by decide) (show 6 < 2147483648 by decide)]
      refine ⟨fun _ => ⟨?_, gf, by simp [cred, sm]⟩, fun h => absurd trivial h⟩
      have : rS1 M2 (setPa S (rwRed S (paS S) b (ahead j 6))) := g1
      obtain ⟨a0, a1, a2, a3⟩ := this
      refine ⟨a0, a1, a2, ⟨a3.1, fun a ha => ⟨(a3.2 a ha).1, fun c hc => by rw [(a3.2 a ha).2 c hc]; exact congrArg nO (by simp only [paS, setPa, rwRed, ahead]; simp only [paS, setPa, rwRed] at ha; by_cases q : a = j <;> simp [q, hc, show (a < j + 1) = (a < j ∨ a = j) by simp; omega])⟩⟩⟩
  · rintro L M' ⟨h1, hf, rfl⟩
    have hc : M' 6 1 = nI (paS S).1 := h1.2.2.2.1
    simp only [B_X8_redundantIn_5, K_X8_redundantIn_92, wp_con, wp_ild0, wp_ald0, wp_ist0, wp_inc0, wp_ild1, wp_ald1, wp_ist1n, wp_inc1n, wp_ist1i, wp_inc1i, wp_ist1r, wp_inc1r, wp_ild2, wp_ald2, wp_ist2n, wp_inc2n, wp_ist2i, wp_inc2i, wp_ist2r, wp_inc2r, wp_ild3, wp_ald3, wp_ist3n, wp_inc3n, wp_ist3i, wp_inc3i, wp_ist3r, wp_inc3r, wp_ild4, wp_ald4, wp_ist4n, wp_inc4n, wp_ist4i, wp_inc4i, wp_ist4r, wp_inc4r, wp_ild5, wp_ald5, wp_ist5n, wp_inc5n, wp_ist5i, wp_inc5i, wp_ist5r, wp_inc5r, wp_ild6, wp_ald6, wp_ist6n, wp_inc6n, wp_ist6i, wp_inc6i, wp_ist6r, wp_inc6r, wp_ild7, wp_ald7, wp_ist7n, wp_inc7n, wp_ist7i, wp_inc7i, wp_ist7r, wp_inc7r, wp_ild8, wp_ald8, wp_ist8n, wp_inc8n, wp_ist8i, wp_inc8i, wp_ist8r, wp_inc8r, wp_ild9, wp_ald9, wp_ist9n, wp_inc9n, wp_ist9i, wp_inc9i, wp_ist9r, wp_inc9r, wp_bin, wp_div, wp_dupi, wp_dupr, wp_dup2, wp_popi, wp_popr, wp_ifeq, wp_ifne, wp_iflt, wp_ifge, wp_ifgt, wp_ifle, wp_iceq, wp_icne, wp_iclt, wp_icge, wp_icgt, wp_icle, wp_jmp, wp_seq, sq_j, sq_r, lq_j, lq_r, eq_r, wp_kil, wp_ret, wp_zret, wp_vret, wp_aret, wp_gfi, wp_gfr, wp_pfi, wp_pfz, wp_ial, wp_ias, wp_aal, wp_gst, wp_sal, wp_min, wp_calV0, wp_calV1, wp_calS1, wp_calV2, wp_calS2, wp_calV3, wp_calS3, wp_calV4, wp_calS4, wp_calV5, wp_calS5, wp_acp, wp_i2l, wp_l2i, wp_lcon, wp_lbin, wp_ldiv, psh_s, psh_n, en, List.map_cons, List.map_nil, List.cons_append, List.nil_append, List.length_cons, List.length_nil, List.replicate_succ, List.replicate_zero, List.zipWith_cons_cons, List.zipWith_nil_left, List.zipWith_nil_right, if_true, if_false, Bool.false_eq_true, Nat.reduceAdd, Nat.reduceSub, Nat.reduceLeDiff, Nat.reduceEqDiff, Nat.reduceMul, true_and, and_true, Option.some.injEq, exists_eq_left', Nat.le_refl, Nat.zero_le, reduceIte, Nat.add_zero, Nat.zero_add, xF0, xF1, xF2, xF3, hc, N_le (show (paS S).1 < 2147483648 by omega) (show (paS S).1 < 2147483648 by omega)]
    refine ⟨fun _ => ⟨?_, hf⟩, fun h => absurd trivial h⟩
    obtain ⟨a0, a1, a2, a3⟩ := h1
    refine ⟨a0, a1, a2, ⟨a3.1, fun a ha => ⟨(a3.2 a ha).1, fun c hc => by rw [(a3.2 a ha).2 c hc]; exact congrArg nO (by simp only [paS, setPa, rwRed, ahead]; simp only [paS, setPa, rwRed] at ha; simp [ha])⟩⟩⟩
  · obtain ⟨a0, a1, a2, a3⟩ := hS
    refine ⟨a0, a1, a2, ⟨a3.1, fun a ha => ⟨(a3.2 a ha).1, fun c hc => by rw [(a3.2 a ha).2 c hc]; exact congrArg nO (by simp [paS, setPa, rwRed, ahead])⟩⟩⟩
