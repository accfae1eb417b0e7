-- the reference: adopt
theorem w0_taPaN {M M' : vM} {S : vS} (hw : w0 M S) (hns : (stS S).1 ≤ 6) {p l bl : Nat} {s : Option Nat} (t1 : M' 191 (52 + 7 * p) = nO s) (t2 : ∀ k, k < 6 → M' 191 (52 + 7 * p + 1 + k) = nO (rsO l bl k)) (t3 : ∀ q, ¬ (52 + 7 * p ≤ q ∧ q < 52 + 7 * p + 7) → M' 191 q = M 191 q) : w0 M' (setPa S (rwRest (paS S) p s l bl)) := by
  refine ⟨by rw [t3 0 (by omega)]; exact hw.1, by rw [t3 1 (by omega)]; exact hw.2.1, by rw [t3 2 (by omega)]; exact hw.2.2.1, fun k hk => by rw [t3 _ (by omega)]; exact hw.2.2.2.1 k hk, fun i hi => ?_, fun i hi => ?_⟩
  · have i2 : i < (stS S).1 := hi
    exact ⟨by rw [t3 _ (by omega)]; exact (hw.2.2.2.2.1 i hi).1, fun k hk => by rw [t3 _ (by omega)]; exact (hw.2.2.2.2.1 i hi).2 k hk⟩
  · refine ⟨?_, fun k hk => ?_⟩
    · show _ = nO (if i = p then s else (paS S).2.1 i)
      by_cases e : i = p
      · rw [if_pos e, e]; exact t1
      · rw [if_neg e, t3 _ (by omega)]; exact (hw.2.2.2.2.2 i hi).1
    · show _ = nO (if i = p then rsO l bl k else (paS S).2.2 i k)
      by_cases e : i = p
      · rw [if_pos e, e]; exact t2 k hk
      · rw [if_neg e, t3 _ (by omega)]; exact (hw.2.2.2.2.2 i hi).2 k hk
def oG (lk : Nat → Nat) (gl : Nat) : Option Nat → Nat
  | none => gl
  | some t => lk t
theorem ap_un {l a b : Nat} (h : ∀ k, k < 6 → un a k = un b k) : ap l a = ap l b := sm_eq 6 (fun k hk => by
  show (if un l k = un a k then 0 else bt k (un l k)) = if un l k = un b k then 0 else bt k (un l k)
  rw [h k hk])
theorem cwG_cong {lk lk' : Nat → Nat} {gl l : Nat} {o : Option Nat} (h : ∀ t, o = some t → ∀ k, k < 6 → un (lk t) k = un (lk' t) k) : cwG lk gl l o = cwG lk' gl l o := by
  cases o with
  | none => rfl
  | some t => show 1 + ap l (lk t) = 1 + ap l (lk' t); rw [ap_un (h t rfl)]
theorem neG_cong {lk lk' : Nat → Nat} {gl l : Nat} : ∀ n, (∀ t, t < n → ∀ k, k < 6 → un (lk t) k = un (lk' t) k) → neG lk gl l n = neG lk' gl l n := by
  intro n
  induction n with
  | zero => intro _; rfl
  | succ n ih =>
    intro h
    have h2 := ih (fun t ht => h t (by omega))
    unfold neG
    rw [h2, cwG_cong (o := some n) (fun t ht => h t (by cases ht; omega)), cwG_cong (o := neG lk' gl l n) (fun t ht => h t (by have := neG_lt n t ht; omega))]
def adR (S : vS) (lk : Nat → Nat) (gl n i : Nat) : vRw := ((paS S).1, (fun x => if x < i then neG lk gl (lkP S x) n else (paS S).2.1 x), (fun x k => if x < i then rsO (lkP S x) (oG lk gl (neG lk gl (lkP S x) n)) k else (paS S).2.2 x k))
theorem w0_adp {M : vM} {S : vS} (h : vOK S) (hw : w0 M (setPa (setSt S (rwL (adn S) (adl S) (gl_ S) (par (adl S) (gl_ S) (adn S)))) (adR S (adl S) (gl_ S) (adn S) (paS S).1))) : w0 M (adp S) := by
  obtain ⟨a1, a2, a3⟩ := rpC_ok h (adn_le h) (adl_ok h) (par_rank (by have := adn_le h; omega) (adl_ok h))
  have a1 : vOK (rpC S (adn S) (adl S) (gl_ S) (par (adl S) (gl_ S) (adn S))) := a1
  have a2 : ∀ k, k < 6 → ∀ s, s < adn S → vst (rpC S (adn S) (adl S) (gl_ S) (par (adl S) (gl_ S) (adn S))) k 6 (some s) = un (adl S s) k := a2
  have a3 : ∀ k, k < 6 → ∀ q, q < (paS S).1 → vpa (rpC S (adn S) (adl S) (gl_ S) (par (adl S) (gl_ S) (adn S))) q k = vpa S q k := a3
  refine w0_pac (S := setSt S (rwL (adn S) (adl S) (gl_ S) (par (adl S) (gl_ S) (adn S)))) hw rfl (fun j hj => ?_)
  have hj : j < (paS S).1 := hj
  have n1 : lkP (rpC S (adn S) (adl S) (gl_ S) (par (adl S) (gl_ S) (adn S))) j = lkP S j := lkP_eq (fun k hk => a3 k hk j hj)
  have n2 : ∀ t, t < adn S → ∀ k, k < 6 → un (lk_ (rpC S (adn S) (adl S) (gl_ S) (par (adl S) (gl_ S) (adn S))) t) k = un (adl S t) k := fun t ht k hk => by
    show un (lkS _ (some t)) k = _
    rw [(lkS_ok a1 (sOK_s ht)).2 k hk]
    exact a2 k hk t ht
  have n3 : nea (rpC S (adn S) (adl S) (gl_ S) (par (adl S) (gl_ S) (adn S))) (lkP S j) (adn S) = neG (adl S) (gl_ S) (lkP S j) (adn S) := by
    rw [← neG_eq]
    exact neG_cong (adn S) n2
  refine ⟨?_, fun k hk => ?_⟩
  · show (if j < (paS S).1 then nea (rpC S (adn S) (adl S) (gl_ S) (par (adl S) (gl_ S) (adn S))) (lkP (rpC S (adn S) (adl S) (gl_ S) (par (adl S) (gl_ S) (adn S))) j) (adn S) else _) = if j < (paS S).1 then neG (adl S) (gl_ S) (lkP S j) (adn S) else _
    rw [if_pos hj, if_pos hj, n1, n3]
  · show (if j < (paS S).1 then rsO (lkP (rpC S (adn S) (adl S) (gl_ S) (par (adl S) (gl_ S) (adn S))) j) (lkS (rpC S (adn S) (adl S) (gl_ S) (par (adl S) (gl_ S) (adn S))) (nea (rpC S (adn S) (adl S) (gl_ S) (par (adl S) (gl_ S) (adn S))) (lkP (rpC S (adn S) (adl S) (gl_ S) (par (adl S) (gl_ S) (adn S))) j) (adn S))) k else _) = if j < (paS S).1 then rsO (lkP S j) (oG (adl S) (gl_ S) (neG (adl S) (gl_ S) (lkP S j) (adn S))) k else _
    rw [if_pos hj, if_pos hj, n1, n3]
    have lt := neG_lt (lk := adl S) (gl := gl_ S) (l := lkP S j) (adn S)
    revert lt
    cases neG (adl S) (gl_ S) (lkP S j) (adn S) with
    | none => intro _; rfl
    | some t => intro lt; unfold rsO; rw [show un (lkS (rpC S (adn S) (adl S) (gl_ S) (par (adl S) (gl_ S) (adn S))) (some t)) k = un (adl S t) k from n2 t (lt t rfl) k hk]; rfl
theorem ad_fill {M : vM} {S : vS} (h : vOK S) (hf : M 190 16 = nI (bestS S).1) (hU : rU M (KK S)) {Q : vJ ⊕ vR → Prop} (hQ : ∀ M', rLo M' 196 (adn S) (adl S) → (∀ a, a ≠ 196 → M' a = M a) → wp K_X11_adopt_85 [some (.ref 190), some (.int (nI (adn S))), none, none] [] gA M' Q) : wp (op_loop 12 B_X11_adopt_12 4000) [some (.ref 190), some (.int (nI 0)), some (.int (nI 0)), none] [] gA M (sq 85 K_X11_adopt_85 Q) := by
  have hk8 := KK_le h
  have hp : (2 : Nat) ^ (KK S).1 ≤ 256 := pow_le (n := 8) hk8
  have hbs := (bestS_ok h).1
  have had := adn_le h
  have o1 : (nI 1 = (1 : Int32)) = True := eq_true rfl
  refine wp_for (KK S).1 (fun l L M' => L = [some (.ref 190), some (.int (nI (cho (KK S).2.1 (bestS S).1 l).1)), some (.int (nI l)), none] ∧ rLo M' 196 (cho (KK S).2.1 (bestS S).1 l).1 (cho (KK S).2.1 (bestS S).1 l).2 ∧ ∀ a, a ≠ 196 → M' a = M a) ?_ ?_ 4000 0 _ _ (by omega) (by omega) ⟨rfl, fun j hj => absurd hj (Nat.not_lt_zero j), fun _ _ => rfl⟩
  · rintro l L M' hl ⟨rfl, d1, d2⟩
    have e12 : M' 190 12 = nI (KK S).1 := by rw [d2 190 (by decide)]; exact hU.1
    have e16 : M' 190 16 = nI (bestS S).1 := by rw [d2 190 (by decide)]; exact hf
    have le1 := (cho_le (f := (KK S).2.1) (set := (bestS S).1) l).1
    by_cases hb : (bestS S).1.testBit l = true
    · have hc : cho (KK S).2.1 (bestS S).1 (l + 1) = ((cho (KK S).2.1 (bestS S).1 l).1 + 1, fun j => if j = (cho (KK S).2.1 (bestS S).1 l).1 then (KK S).2.1 l else (cho (KK S).2.1 (bestS S).1 l).2 j) := if_pos hb
      have up : (cho (KK S).2.1 (bestS S).1 (l + 1)).1 ≤ adn S := by
        unfold adn
        rw [cho_cnt, cho_cnt]
        exact cnt_up _ _ (by omega)
      rw [hc] at up ⊢
      have up : (cho (KK S).2.1 (bestS S).1 l).1 + 1 ≤ adn S := up
      revert d1 up le1
      generalize (cho (KK S).2.1 (bestS S).1 l).1 = n
      generalize (cho (KK S).2.1 (bestS S).1 l).2 = f
      intro d1 le1 up
      simp only [B_X11_adopt_12, wp_con, wp_ild0, wp_ald0, wp_ist0, wp_inc0, wp_ild1, wp_ald1, wp_ist1n, wp_inc1n, wp_ist1i, wp_inc1i, wp_ist1r, wp_inc1r, wp_ild2, wp_ald2, wp_ist2n, wp_inc2n, wp_ist2i, wp_inc2i, wp_ist2r, wp_inc2r, wp_ild3, wp_ald3, wp_ist3n, wp_inc3n, wp_ist3i, wp_inc3i, wp_ist3r, wp_inc3r, wp_ild4, wp_ald4, wp_ist4n, wp_inc4n, wp_ist4i, wp_inc4i, wp_ist4r, wp_inc4r, wp_ild5, wp_ald5, wp_ist5n, wp_inc5n, wp_ist5i, wp_inc5i, wp_ist5r, wp_inc5r, wp_ild6, wp_ald6, wp_ist6n, wp_inc6n, wp_ist6i, wp_inc6i, wp_ist6r, wp_inc6r, wp_ild7, wp_ald7, wp_ist7n, wp_inc7n, wp_ist7i, wp_inc7i, wp_ist7r, wp_inc7r, wp_ild8, wp_ald8, wp_ist8n, wp_inc8n, wp_ist8i, wp_inc8i, wp_ist8r, wp_inc8r, wp_ild9, wp_ald9, wp_ist9n, wp_inc9n, wp_ist9i, wp_inc9i, wp_ist9r, wp_inc9r, wp_bin, wp_div, wp_dupi, wp_dupr, wp_dup2, wp_popi, wp_popr, wp_ifeq, wp_ifne, wp_iflt, wp_ifge, wp_ifgt, wp_ifle, wp_iceq, wp_icne, wp_iclt, wp_icge, wp_icgt, wp_icle, wp_jmp, wp_seq, sq_j, sq_r, lq_j, lq_r, eq_r, wp_kil, wp_ret, wp_zret, wp_vret, wp_aret, wp_gfi, wp_gfr, wp_pfi, wp_pfz, wp_ial, wp_ias, wp_aal, wp_gst, wp_sal, wp_min, wp_calV0, wp_calV1, wp_calS1, wp_calV2, wp_calS2, wp_calV3, wp_calS3, wp_calV4, wp_calS4, wp_calV5, wp_calS5, wp_acp, wp_i2l, wp_l2i, wp_lcon, wp_lbin, wp_ldiv, psh_s, psh_n, en, List.map_cons, List.map_nil, List.cons_append, List.nil_append, List.length_cons, List.length_nil, List.replicate_succ, List.replicate_zero, List.zipWith_cons_cons, List.zipWith_nil_left, List.zipWith_nil_right, if_true, if_false, Bool.false_eq_true, Nat.reduceAdd, Nat.reduceSub, Nat.reduceLeDiff, Nat.reduceEqDiff, Nat.reduceMul, true_and, and_true, Option.some.injEq, exists_eq_left', Nat.le_refl, Nat.zero_le, reduceIte, Nat.add_zero, Nat.zero_add, mF, e12, N_le (show (KK S).1 < 2147483648 by omega) (show l < 2147483648 by omega), show ¬ (KK S).1 ≤ l by omega, bI_t, bI_f, z10, eq_self, not_true_eq_false, not_false_eq_true, true_implies, false_implies, true_and, and_true, l_0]
      refine wp_for 6 (fun k L M' => L = [some (.ref 190), some (.int (nI n)), some (.int (nI l)), some (.int (nI k))] ∧ (rLo M' 196 n f ∧ ∀ j, j < k → M' 196 (6 * n + j) = nI (un ((KK S).2.1 l) j)) ∧ ∀ a, a ≠ 196 → M' a = M a) ?_ ?_ 4000 0 _ _ (by omega) (by omega) ⟨rfl, ⟨d1, fun j hj => absurd hj (Nat.not_lt_zero j)⟩, d2⟩
      · rintro k L M4 hk ⟨rfl, ⟨e1, e2⟩, e3⟩
        have f16 : M4 190 16 = nI (bestS S).1 := by rw [e3 190 (by decide)]; exact hf
        have fu : M4 198 (6 * l + k) = nI (un ((KK S).2.1 l) k) := by rw [e3 198 (by decide)]; exact hU.2 l hl k hk
        simp only [B_X11_adopt_22, wp_con, wp_ild0, wp_ald0, wp_ist0, wp_inc0, wp_ild1, wp_ald1, wp_ist1n, wp_inc1n, wp_ist1i, wp_inc1i, wp_ist1r, wp_inc1r, wp_ild2, wp_ald2, wp_ist2n, wp_inc2n, wp_ist2i, wp_inc2i, wp_ist2r, wp_inc2r, wp_ild3, wp_ald3, wp_ist3n, wp_inc3n, wp_ist3i, wp_inc3i, wp_ist3r, wp_inc3r, wp_ild4, wp_ald4, wp_ist4n, wp_inc4n, wp_ist4i, wp_inc4i, wp_ist4r, wp_inc4r, wp_ild5, wp_ald5, wp_ist5n, wp_inc5n, wp_ist5i, wp_inc5i, wp_ist5r, wp_inc5r, wp_ild6, wp_ald6, wp_ist6n, wp_inc6n, wp_ist6i, wp_inc6i, wp_ist6r, wp_inc6r, wp_ild7, wp_ald7, wp_ist7n, wp_inc7n, wp_ist7i, wp_inc7i, wp_ist7r, wp_inc7r, wp_ild8, wp_ald8, wp_ist8n, wp_inc8n, wp_ist8i, wp_inc8i, wp_ist8r, wp_inc8r, wp_ild9, wp_ald9, wp_ist9n, wp_inc9n, wp_ist9i, wp_inc9i, wp_ist9r, wp_inc9r, wp_bin, wp_div, wp_dupi, wp_dupr, wp_dup2, wp_popi, wp_popr, wp_ifeq, wp_ifne, wp_iflt, wp_ifge, wp_ifgt, wp_ifle, wp_iceq, wp_icne, wp_iclt, wp_icge, wp_icgt, wp_icle, wp_jmp, wp_seq, sq_j, sq_r, lq_j, lq_r, eq_r, wp_kil, wp_ret, wp_zret, wp_vret, wp_aret, wp_gfi, wp_gfr, wp_pfi, wp_pfz, wp_ial, wp_ias, wp_aal, wp_gst, wp_sal, wp_min, wp_calV0, wp_calV1, wp_calS1, wp_calV2, wp_calS2, wp_calV3, wp_calS3, wp_calV4, wp_calS4, wp_calV5, wp_calS5, wp_acp, wp_i2l, wp_l2i, wp_lcon, wp_lbin, wp_ldiv, psh_s, psh_n, en, List.map_cons, List.map_nil, List.cons_append, List.nil_append, List.length_cons, List.length_nil, List.replicate_succ, List.replicate_zero, List.zipWith_cons_cons, List.zipWith_nil_left, List.zipWith_nil_right, if_true, if_false, Bool.false_eq_true, Nat.reduceAdd, Nat.reduceSub, Nat.reduceLeDiff, Nat.reduceEqDiff, Nat.reduceMul, true_and, and_true, Option.some.injEq, exists_eq_left', Nat.le_refl, Nat.zero_le, reduceIte, Nat.add_zero, Nat.zero_add, mF, l_6, N_le (show 6 < 2147483648 by decide) (show k < 2147483648 by omega), show ¬ 6 ≤ k by omega, bI_t, bI_f, z10, eq_self, not_true_eq_false, not_false_eq_true, true_implies, false_implies, true_and, and_true, f16, f_shr, f_and, bit_at (show l < 31 by omega) (show (bestS S).1 < 2147483648 by omega), hb, if_true, o1, f_mul, f_add, N_mul, N_add, N_cl (show 6 * n + k < 2147483648 by omega), N_in (show 6 * n + k < 36 by omega) (show 36 < 2147483648 by decide), N_cl (show 6 * l + k < 2147483648 by omega), N_in (show 6 * l + k < 48 by omega) (show 48 < 2147483648 by decide), fu, N_s]
        refine ⟨⟨fun j hj q hq => by rw [ms_k (by omega)]; exact e1 j hj q hq, fun j hj => ?_⟩, fun a ha => by rw [ms_a ha]; exact e3 a ha⟩
        by_cases e : j = k
        · rw [e, ms_eq]
        · rw [ms_k (by omega)]; exact e2 j (by omega)
      · rintro L M4 ⟨rfl, ⟨e1, e2⟩, e3⟩
        have f16 : M4 190 16 = nI (bestS S).1 := by rw [e3 190 (by decide)]; exact hf
        simp only [B_X11_adopt_22, K_X11_adopt_68, wp_con, wp_ild0, wp_ald0, wp_ist0, wp_inc0, wp_ild1, wp_ald1, wp_ist1n, wp_inc1n, wp_ist1i, wp_inc1i, wp_ist1r, wp_inc1r, wp_ild2, wp_ald2, wp_ist2n, wp_inc2n, wp_ist2i, wp_inc2i, wp_ist2r, wp_inc2r, wp_ild3, wp_ald3, wp_ist3n, wp_inc3n, wp_ist3i, wp_inc3i, wp_ist3r, wp_inc3r, wp_ild4, wp_ald4, wp_ist4n, wp_inc4n, wp_ist4i, wp_inc4i, wp_ist4r, wp_inc4r, wp_ild5, wp_ald5, wp_ist5n, wp_inc5n, wp_ist5i, wp_inc5i, wp_ist5r, wp_inc5r, wp_ild6, wp_ald6, wp_ist6n, wp_inc6n, wp_ist6i, wp_inc6i, wp_ist6r, wp_inc6r, wp_ild7, wp_ald7, wp_ist7n, wp_inc7n, wp_ist7i, wp_inc7i, wp_ist7r, wp_inc7r, wp_ild8, wp_ald8, wp_ist8n, wp_inc8n, wp_ist8i, wp_inc8i, wp_ist8r, wp_inc8r, wp_ild9, wp_ald9, wp_ist9n, wp_inc9n, wp_ist9i, wp_inc9i, wp_ist9r, wp_inc9r, wp_bin, wp_div, wp_dupi, wp_dupr, wp_dup2, wp_popi, wp_popr, wp_ifeq, wp_ifne, wp_iflt, wp_ifge, wp_ifgt, wp_ifle, wp_iceq, wp_icne, wp_iclt, wp_icge, wp_icgt, wp_icle, wp_jmp, wp_seq, sq_j, sq_r, lq_j, lq_r, eq_r, wp_kil, wp_ret, wp_zret, wp_vret, wp_aret, wp_gfi, wp_gfr, wp_pfi, wp_pfz, wp_ial, wp_ias, wp_aal, wp_gst, wp_sal, wp_min, wp_calV0, wp_calV1, wp_calS1, wp_calV2, wp_calS2, wp_calV3, wp_calS3, wp_calV4, wp_calS4, wp_calV5, wp_calS5, wp_acp, wp_i2l, wp_l2i, wp_lcon, wp_lbin, wp_ldiv, psh_s, psh_n, en, List.map_cons, List.map_nil, List.cons_append, List.nil_append, List.length_cons, List.length_nil, List.replicate_succ, List.replicate_zero, List.zipWith_cons_cons, List.zipWith_nil_left, List.zipWith_nil_right, if_true, if_false, Bool.false_eq_true, Nat.reduceAdd, Nat.reduceSub, Nat.reduceLeDiff, Nat.reduceEqDiff, Nat.reduceMul, true_and, and_true, Option.some.injEq, exists_eq_left', Nat.le_refl, Nat.zero_le, reduceIte, Nat.add_zero, Nat.zero_add, mF, l_6, N_le (show 6 < 2147483648 by decide) (show 6 < 2147483648 by decide), Nat.le_refl, bI_t, bI_f, z10, eq_self, not_true_eq_false, not_false_eq_true, true_implies, false_implies, true_and, and_true, f16, f_shr, f_and, bit_at (show l < 31 by omega) (show (bestS S).1 < 2147483648 by omega), hb, if_true, o1, f_add, N_add, N_s]
        refine ⟨fun j hj q hq => ?_, e3⟩
        have hj : j < n + 1 := hj
        show _ = nI (un (if j = n then (KK S).2.1 l else f j) q)
        by_cases e : j = n
        · rw [if_pos e, e]; exact e2 q hq
        · rw [if_neg e]; exact e1 j (by omega) q hq
    · have hc : cho (KK S).2.1 (bestS S).1 (l + 1) = cho (KK S).2.1 (bestS S).1 l := if_neg hb
      rw [hc]
      have hb : (bestS S).1.testBit l = false := by simpa using hb
      have e10 : (nI 0 = (1 : Int32)) = False := eq_false (by decide)
      simp only [B_X11_adopt_12, wp_con, wp_ild0, wp_ald0, wp_ist0, wp_inc0, wp_ild1, wp_ald1, wp_ist1n, wp_inc1n, wp_ist1i, wp_inc1i, wp_ist1r, wp_inc1r, wp_ild2, wp_ald2, wp_ist2n, wp_inc2n, wp_ist2i, wp_inc2i, wp_ist2r, wp_inc2r, wp_ild3, wp_ald3, wp_ist3n, wp_inc3n, wp_ist3i, wp_inc3i, wp_ist3r, wp_inc3r, wp_ild4, wp_ald4, wp_ist4n, wp_inc4n, wp_ist4i, wp_inc4i, wp_ist4r, wp_inc4r, wp_ild5, wp_ald5, wp_ist5n, wp_inc5n, wp_ist5i, wp_inc5i, wp_ist5r, wp_inc5r, wp_ild6, wp_ald6, wp_ist6n, wp_inc6n, wp_ist6i, wp_inc6i, wp_ist6r, wp_inc6r, wp_ild7, wp_ald7, wp_ist7n, wp_inc7n, wp_ist7i, wp_inc7i, wp_ist7r, wp_inc7r, wp_ild8, wp_ald8, wp_ist8n, wp_inc8n, wp_ist8i, wp_inc8i, wp_ist8r, wp_inc8r, wp_ild9, wp_ald9, wp_ist9n, wp_inc9n, wp_ist9i, wp_inc9i, wp_ist9r, wp_inc9r, wp_bin, wp_div, wp_dupi, wp_dupr, wp_dup2, wp_popi, wp_popr, wp_ifeq, wp_ifne, wp_iflt, wp_ifge, wp_ifgt, wp_ifle, wp_iceq, wp_icne, wp_iclt, wp_icge, wp_icgt, wp_icle, wp_jmp, wp_seq, sq_j, sq_r, lq_j, lq_r, eq_r, wp_kil, wp_ret, wp_zret, wp_vret, wp_aret, wp_gfi, wp_gfr, wp_pfi, wp_pfz, wp_ial, wp_ias, wp_aal, wp_gst, wp_sal, wp_min, wp_calV0, wp_calV1, wp_calS1, wp_calV2, wp_calS2, wp_calV3, wp_calS3, wp_calV4, wp_calS4, wp_calV5, wp_calS5, wp_acp, wp_i2l, wp_l2i, wp_lcon, wp_lbin, wp_ldiv, psh_s, psh_n, en, List.map_cons, List.map_nil, List.cons_append, List.nil_append, List.length_cons, List.length_nil, List.replicate_succ, List.replicate_zero, List.zipWith_cons_cons, List.zipWith_nil_left, List.zipWith_nil_right, if_true, if_false, Bool.false_eq_true, Nat.reduceAdd, Nat.reduceSub, Nat.reduceLeDiff, Nat.reduceEqDiff, Nat.reduceMul, true_and, and_true, Option.some.injEq, exists_eq_left', Nat.le_refl, Nat.zero_le, reduceIte, Nat.add_zero, Nat.zero_add, mF, e12, N_le (show (KK S).1 < 2147483648 by omega) (show l < 2147483648 by omega), show ¬ (KK S).1 ≤ l by omega, bI_t, bI_f, z10, eq_self, not_true_eq_false, not_false_eq_true, true_implies, false_implies, true_and, and_true]
      refine wp_for 0 (fun k L M4 => L = [some (.ref 190), some (.int (nI (cho (KK S).2.1 (bestS S).1 l).1)), some (.int (nI l)), some (.int 0)] ∧ M4 = M') (fun k _ _ hk => absurd hk (Nat.not_lt_zero k)) ?_ 4000 0 _ _ (by omega) (by omega) ⟨rfl, rfl⟩
      rintro L M4 ⟨rfl, rfl⟩
      have i06 : ¬ (6 : Int32) ≤ 0 := by decide
      simp only [B_X11_adopt_22, K_X11_adopt_68, wp_con, wp_ild0, wp_ald0, wp_ist0, wp_inc0, wp_ild1, wp_ald1, wp_ist1n, wp_inc1n, wp_ist1i, wp_inc1i, wp_ist1r, wp_inc1r, wp_ild2, wp_ald2, wp_ist2n, wp_inc2n, wp_ist2i, wp_inc2i, wp_ist2r, wp_inc2r, wp_ild3, wp_ald3, wp_ist3n, wp_inc3n, wp_ist3i, wp_inc3i, wp_ist3r, wp_inc3r, wp_ild4, wp_ald4, wp_ist4n, wp_inc4n, wp_ist4i, wp_inc4i, wp_ist4r, wp_inc4r, wp_ild5, wp_ald5, wp_ist5n, wp_inc5n, wp_ist5i, wp_inc5i, wp_ist5r, wp_inc5r, wp_ild6, wp_ald6, wp_ist6n, wp_inc6n, wp_ist6i, wp_inc6i, wp_ist6r, wp_inc6r, wp_ild7, wp_ald7, wp_ist7n, wp_inc7n, wp_ist7i, wp_inc7i, wp_ist7r, wp_inc7r, wp_ild8, wp_ald8, wp_ist8n, wp_inc8n, wp_ist8i, wp_inc8i, wp_ist8r, wp_inc8r, wp_ild9, wp_ald9, wp_ist9n, wp_inc9n, wp_ist9i, wp_inc9i, wp_ist9r, wp_inc9r, wp_bin, wp_div, wp_dupi, wp_dupr, wp_dup2, wp_popi, wp_popr, wp_ifeq, wp_ifne, wp_iflt, wp_ifge, wp_ifgt, wp_ifle, wp_iceq, wp_icne, wp_iclt, wp_icge, wp_icgt, wp_icle, wp_jmp, wp_seq, sq_j, sq_r, lq_j, lq_r, eq_r, wp_kil, wp_ret, wp_zret, wp_vret, wp_aret, wp_gfi, wp_gfr, wp_pfi, wp_pfz, wp_ial, wp_ias, wp_aal, wp_gst, wp_sal, wp_min, wp_calV0, wp_calV1, wp_calS1, wp_calV2, wp_calS2, wp_calV3, wp_calS3, wp_calV4, wp_calS4, wp_calV5, wp_calS5, wp_acp, wp_i2l, wp_l2i, wp_lcon, wp_lbin, wp_ldiv, psh_s, psh_n, en, List.map_cons, List.map_nil, List.cons_append, List.nil_append, List.length_cons, List.length_nil, List.replicate_succ, List.replicate_zero, List.zipWith_cons_cons, List.zipWith_nil_left, List.zipWith_nil_right, if_true, if_false, Bool.false_eq_true, Nat.reduceAdd, Nat.reduceSub, Nat.reduceLeDiff, Nat.reduceEqDiff, Nat.reduceMul, true_and, and_true, Option.some.injEq, exists_eq_left', Nat.le_refl, Nat.zero_le, reduceIte, Nat.add_zero, Nat.zero_add, mF, i06, bI_t, bI_f, z10, eq_self, not_true_eq_false, not_false_eq_true, true_implies, false_implies, true_and, and_true, e16, f_shr, f_and, bit_at (show l < 31 by omega) (show (bestS S).1 < 2147483648 by omega), hb, Bool.false_eq_true, if_false, e10, not_false_eq_true, true_implies, f_add, N_add, N_s, Nat.add_zero]
      exact ⟨d1, d2⟩
  · rintro L M' ⟨rfl, d1, d2⟩
    have e12 : M' 190 12 = nI (KK S).1 := by rw [d2 190 (by decide)]; exact hU.1
    simp only [B_X11_adopt_12, wp_con, wp_ild0, wp_ald0, wp_ist0, wp_inc0, wp_ild1, wp_ald1, wp_ist1n, wp_inc1n, wp_ist1i, wp_inc1i, wp_ist1r, wp_inc1r, wp_ild2, wp_ald2, wp_ist2n, wp_inc2n, wp_ist2i, wp_inc2i, wp_ist2r, wp_inc2r, wp_ild3, wp_ald3, wp_ist3n, wp_inc3n, wp_ist3i, wp_inc3i, wp_ist3r, wp_inc3r, wp_ild4, wp_ald4, wp_ist4n, wp_inc4n, wp_ist4i, wp_inc4i, wp_ist4r, wp_inc4r, wp_ild5, wp_ald5, wp_ist5n, wp_inc5n, wp_ist5i, wp_inc5i, wp_ist5r, wp_inc5r, wp_ild6, wp_ald6, wp_ist6n, wp_inc6n, wp_ist6i, wp_inc6i, wp_ist6r, wp_inc6r, wp_ild7, wp_ald7, wp_ist7n, wp_inc7n, wp_ist7i, wp_inc7i, wp_ist7r, wp_inc7r, wp_ild8, wp_ald8, wp_ist8n, wp_inc8n, wp_ist8i, wp_inc8i, wp_ist8r, wp_inc8r, wp_ild9, wp_ald9, wp_ist9n, wp_inc9n, wp_ist9i, wp_inc9i, wp_ist9r, wp_inc9r, wp_bin, wp_div, wp_dupi, wp_dupr, wp_dup2, wp_popi, wp_popr, wp_ifeq, wp_ifne, wp_iflt, wp_ifge, wp_ifgt, wp_ifle, wp_iceq, wp_icne, wp_iclt, wp_icge, wp_icgt, wp_icle, wp_jmp, wp_seq, sq_j, sq_r, lq_j, lq_r, eq_r, wp_kil, wp_ret, wp_zret, wp_vret, wp_aret, wp_gfi, wp_gfr, wp_pfi, wp_pfz, wp_ial, wp_ias, wp_aal, wp_gst, wp_sal, wp_min, wp_calV0, wp_calV1, wp_calS1, wp_calV2, wp_calS2, wp_calV3, wp_calS3, wp_calV4, wp_calS4, wp_calV5, wp_calS5, wp_acp, wp_i2l, wp_l2i, wp_lcon, wp_lbin, wp_ldiv, psh_s, psh_n, en, List.map_cons, List.map_nil, List.cons_append, List.nil_append, List.length_cons, List.length_nil, List.replicate_succ, List.replicate_zero, List.zipWith_cons_cons, List.zipWith_nil_left, List.zipWith_nil_right, if_true, if_false, Bool.false_eq_true, Nat.reduceAdd, Nat.reduceSub, Nat.reduceLeDiff, Nat.reduceEqDiff, Nat.reduceMul, true_and, and_true, Option.some.injEq, exists_eq_left', Nat.le_refl, Nat.zero_le, reduceIte, Nat.add_zero, Nat.zero_add, mF, e12, N_le (show (KK S).1 < 2147483648 by omega) (show (KK S).1 < 2147483648 by omega), Nat.le_refl, bI_t, bI_f, z10, eq_self, not_true_eq_false, not_false_eq_true, true_implies, false_implies, true_and, and_true]
    exact hQ M' d1 d2
