/-! ===== the class: styles are laid by the forest ===== -/
def plk (lk : Nat → Nat) (gl : Nat) (pr : Nat → Option Nat) (s : Nat) : Nat := match pr s with
  | none => gl
  | some y => lk y
def rwLay (R : vRw) (lk : Nat → Nat) (gl : Nat) (pr : Nat → Option Nat) (i : Nat) : vRw := (R.1, (fun s => if s < i then pr s else R.2.1 s), (fun s k => if s < i then rsO (lk s) (plk lk gl pr s) k else R.2.2 s k))
theorem plk_lt {lk : Nat → Nat} {gl n : Nat} {pr : Nat → Option Nat} (hl : lOK n lk) (hgl : gl < 16777216) (hpv : ∀ i, i < n → ∀ y, pr i = some y → y < n) {s : Nat} (hs : s < n) : plk lk gl pr s < 16777216 := by
  unfold plk
  split
  · exact hgl
  · next y hy => exact (hl y (hpv s hs y hy)).1
theorem v_layStyles {M : vM} {S : vS} (hS : rS1 M S) {n gl : Nat} {lk : Nat → Nat} (hn : n ≤ 8) (hns : (stS S).1 = n) (hF : rFo M n lk gl) (hl : lOK n lk) (hgl : gl < 16777216) {pr : Nat → Option Nat} (hp : ∀ i, i < n → M 149 i = nO (pr i)) (hpv : ∀ i, i < n → ∀ y, pr i = some y → y < n) : wpF F_X8_layStyles [.ref 1, .ref 147] gA M (fun v G' M' => G' = gA ∧ v = none ∧ rS1 M' (setSt S (rwLay (stS S) lk gl pr n)) ∧ frN M M') := by
  refine run_wp ⟨Nat.le_of_ble_eq_true rfl, rfl⟩ ?_
  simp only [D_X8_layStyles, wp_con, wp_ild0, wp_ald0, wp_ist0, wp_inc0, wp_ild1, wp_ald1, wp_ist1n, wp_inc1n, wp_ist1i, wp_inc1i, wp_ist1r, wp_inc1r, wp_ild2, wp_ald2, wp_ist2n, wp_inc2n, wp_ist2i, wp_inc2i, wp_ist2r, wp_inc2r, wp_ild3, wp_ald3, wp_ist3n, wp_inc3n, wp_ist3i, wp_inc3i, wp_ist3r, wp_inc3r, wp_ild4, wp_ald4, wp_ist4n, wp_inc4n, wp_ist4i, wp_inc4i, wp_ist4r, wp_inc4r, wp_ild5, wp_ald5, wp_ist5n, wp_inc5n, wp_ist5i, wp_inc5i, wp_ist5r, wp_inc5r, wp_ild6, wp_ald6, wp_ist6n, wp_inc6n, wp_ist6i, wp_inc6i, wp_ist6r, wp_inc6r, wp_ild7, wp_ald7, wp_ist7n, wp_inc7n, wp_ist7i, wp_inc7i, wp_ist7r, wp_inc7r, wp_ild8, wp_ald8, wp_ist8n, wp_inc8n, wp_ist8i, wp_inc8i, wp_ist8r, wp_inc8r, wp_ild9, wp_ald9, wp_ist9n, wp_inc9n, wp_ist9i, wp_inc9i, wp_ist9r, wp_inc9r, wp_bin, wp_div, wp_dupi, wp_dupr, wp_dup2, wp_popi, wp_popr, wp_ifeq, wp_ifne, wp_iflt, wp_ifge, wp_ifgt, wp_ifle, wp_iceq, wp_icne, wp_iclt, wp_icge, wp_icgt, wp_icle, wp_jmp, wp_seq, sq_j, sq_r, lq_j, lq_r, eq_r, wp_kil, wp_ret, wp_zret, wp_vret, wp_aret, wp_gfi, wp_gfr, wp_pfi, wp_pfz, wp_ial, wp_ias, wp_aal, wp_gst, wp_sal, wp_min, wp_calV0, wp_calV1, wp_calS1, wp_calV2, wp_calS2, wp_calV3, wp_calS3, wp_calV4, wp_calS4, wp_calV5, wp_calS5, wp_acp, wp_i2l, wp_l2i, wp_lcon, wp_lbin, wp_ldiv, psh_s, psh_n, en, List.map_cons, List.map_nil, List.cons_append, List.nil_append, List.length_cons, List.length_nil, List.replicate_succ, List.replicate_zero, List.zipWith_cons_cons, List.zipWith_nil_left, List.zipWith_nil_right, if_true, if_false, Bool.false_eq_true, Nat.reduceAdd, Nat.reduceSub, Nat.reduceLeDiff, Nat.reduceEqDiff, Nat.reduceMul, true_and, and_true, Option.some.injEq, exists_eq_left', Nat.le_refl, Nat.zero_le, reduceIte, Nat.add_zero, Nat.zero_add, l_0]
  refine wp_for n (fun i L M' => L = [some (.ref 1), some (.ref 147), some (.int (nI i))] ∧ rS1 M' (setSt S (rwLay (stS S) lk gl pr i)) ∧ frN M M') ?_ ?_ 4000 0 _ _ (by omega) (by omega) ⟨rfl, ?_, frN_rf⟩
  · rintro i L M' hi ⟨rfl, h1, hf⟩
    have c0 : M' 3 1 = nI n := by have := h1.2.2.1.1; rw [show (stS (setSt S (rwLay (stS S) lk gl pr i))).1 = n from hns] at this; exact this
    have e149 : M' 149 i = nO (pr i) := by rw [hf.1 149 (by decide)]; exact hp i hi
    have e148 : M' 148 i = nI (lk i) := by rw [hf.1 148 (by decide)]; exact hF.2.2 i hi
    have hF' : rFo M' n lk gl := by
      unfold rFo
      rw [hf.1 147 (by decide), hf.1 148 (by decide)]
      exact hF
    have hpl := v_parentLook hF' hn (fun j hj => by rw [hf.1 149 (by decide)]; exact hp j hj) hpv hi
    have l1 := (hl i hi).1
    have l2 := plk_lt hl hgl hpv hi
    simp only [B_X8_layStyles_2, wp_con, wp_ild0, wp_ald0, wp_ist0, wp_inc0, wp_ild1, wp_ald1, wp_ist1n, wp_inc1n, wp_ist1i, wp_inc1i, wp_ist1r, wp_inc1r, wp_ild2, wp_ald2, wp_ist2n, wp_inc2n, wp_ist2i, wp_inc2i, wp_ist2r, wp_inc2r, wp_ild3, wp_ald3, wp_ist3n, wp_inc3n, wp_ist3i, wp_inc3i, wp_ist3r, wp_inc3r, wp_ild4, wp_ald4, wp_ist4n, wp_inc4n, wp_ist4i, wp_inc4i, wp_ist4r, wp_inc4r, wp_ild5, wp_ald5, wp_ist5n, wp_inc5n, wp_ist5i, wp_inc5i, wp_ist5r, wp_inc5r, wp_ild6, wp_ald6, wp_ist6n, wp_inc6n, wp_ist6i, wp_inc6i, wp_ist6r, wp_inc6r, wp_ild7, wp_ald7, wp_ist7n, wp_inc7n, wp_ist7i, wp_inc7i, wp_ist7r, wp_inc7r, wp_ild8, wp_ald8, wp_ist8n, wp_inc8n, wp_ist8i, wp_inc8i, wp_ist8r, wp_inc8r, wp_ild9, wp_ald9, wp_ist9n, wp_inc9n, wp_ist9i, wp_inc9i, wp_ist9r, wp_inc9r, wp_bin, wp_div, wp_dupi, wp_dupr, wp_dup2, wp_popi, wp_popr, wp_ifeq, wp_ifne, wp_iflt, wp_ifge, wp_ifgt, wp_ifle, wp_iceq, wp_icne, wp_iclt, wp_icge, wp_icgt, wp_icle, wp_jmp, wp_seq, sq_j, sq_r, lq_j, lq_r, eq_r, wp_kil, wp_ret, wp_zret, wp_vret, wp_aret, wp_gfi, wp_gfr, wp_pfi, wp_pfz, wp_ial, wp_ias, wp_aal, wp_gst, wp_sal, wp_min, wp_calV0, wp_calV1, wp_calS1, wp_calV2, wp_calS2, wp_calV3, wp_calS3, wp_calV4, wp_calS4, wp_calV5, wp_calS5, wp_acp, wp_i2l, wp_l2i, wp_lcon, wp_lbin, wp_ldiv, psh_s, psh_n, en, List.map_cons, List.map_nil, List.cons_append, List.nil_append, List.length_cons, List.length_nil, List.replicate_succ, List.replicate_zero, List.zipWith_cons_cons, List.zipWith_nil_left, List.zipWith_nil_right, if_true, if_false, Bool.false_eq_true, Nat.reduceAdd, Nat.reduceSub, Nat.reduceLeDiff, Nat.reduceEqDiff, Nat.reduceMul, true_and, and_true, Option.some.injEq, exists_eq_left', Nat.le_refl, Nat.zero_le, reduceIte, Nat.add_zero, Nat.zero_add, xF0, xF1, xF2, xF3, c0, N_le (show n < 2147483648 by omega) (show i < 2147483648 by omega), N_cl (show i < 2147483648 by omega), N_in (show i < 8 by omega) (by decide), e149, e148, wpF_eq hpl]
    refine ⟨fun h => absurd h (by omega), fun _ => ?_⟩
    have hr := v_rest isR3 (rS1_3 h1) (show (stS S).1 ≤ 8 by omega) (j := i) (show i < (stS S).1 by omega) (pr i) (l := lk i) (bl := plk lk gl pr i) (by omega) (by omega)
    refine wpF_mono hr ?_
    rintro v G' M2 ⟨rfl, rfl, r2, f2⟩
    simp only [wp_con, wp_ild0, wp_ald0, wp_ist0, wp_inc0, wp_ild1, wp_ald1, wp_ist1n, wp_inc1n, wp_ist1i, wp_inc1i, wp_ist1r, wp_inc1r, wp_ild2, wp_ald2, wp_ist2n, wp_inc2n, wp_ist2i, wp_inc2i, wp_ist2r, wp_inc2r, wp_ild3, wp_ald3, wp_ist3n, wp_inc3n, wp_ist3i, wp_inc3i, wp_ist3r, wp_inc3r, wp_ild4, wp_ald4, wp_ist4n, wp_inc4n, wp_ist4i, wp_inc4i, wp_ist4r, wp_inc4r, wp_ild5, wp_ald5, wp_ist5n, wp_inc5n, wp_ist5i, wp_inc5i, wp_ist5r, wp_inc5r, wp_ild6, wp_ald6, wp_ist6n, wp_inc6n, wp_ist6i, wp_inc6i, wp_ist6r, wp_inc6r, wp_ild7, wp_ald7, wp_ist7n, wp_inc7n, wp_ist7i, wp_inc7i, wp_ist7r, wp_inc7r, wp_ild8, wp_ald8, wp_ist8n, wp_inc8n, wp_ist8i, wp_inc8i, wp_ist8r, wp_inc8r, wp_ild9, wp_ald9, wp_ist9n, wp_inc9n, wp_ist9i, wp_inc9i, wp_ist9r, wp_inc9r, wp_bin, wp_div, wp_dupi, wp_dupr, wp_dup2, wp_popi, wp_popr, wp_ifeq, wp_ifne, wp_iflt, wp_ifge, wp_ifgt, wp_ifle, wp_iceq, wp_icne, wp_iclt, wp_icge, wp_icgt, wp_icle, wp_jmp, wp_seq, sq_j, sq_r, lq_j, lq_r, eq_r, wp_kil, wp_ret, wp_zret, wp_vret, wp_aret, wp_gfi, wp_gfr, wp_pfi, wp_pfz, wp_ial, wp_ias, wp_aal, wp_gst, wp_sal, wp_min, wp_calV0, wp_calV1, wp_calS1, wp_calV2, wp_calS2, wp_calV3, wp_calS3, wp_calV4, wp_calS4, wp_calV5, wp_calS5, wp_acp, wp_i2l, wp_l2i, wp_lcon, wp_lbin, wp_ldiv, psh_s, psh_n, en, List.map_cons, List.map_nil, List.cons_append, List.nil_append, List.length_cons, List.length_nil, List.replicate_succ, List.replicate_zero, List.zipWith_cons_cons, List.zipWith_nil_left, List.zipWith_nil_right, if_true, if_false, Bool.false_eq_true, Nat.reduceAdd, Nat.reduceSub, Nat.reduceLeDiff, Nat.reduceEqDiff, Nat.reduceMul, true_and, and_true, Option.some.injEq, exists_eq_left', Nat.le_refl, Nat.zero_le, reduceIte, Nat.add_zero, Nat.zero_add, N_s]
    have := rS1_st h1 r2 f2
    have e : setSt (setSt S (rwLay (stS S) lk gl pr i)) (rwRest (stS (setSt S (rwLay (stS S) lk gl pr i))) i (pr i) (lk i) (plk lk gl pr i)) = setSt S (rwLay (stS S) lk gl pr (i + 1)) := by
      show (S.1, S.2.1, _, S.2.2.2) = (S.1, S.2.1, _, S.2.2.2)
      congr 3
      show ((stS S).1, _, _) = ((stS S).1, _, _)
      congr 2
      · funext s
        show (if s = i then pr i else if s < i then pr s else (stS S).2.1 s) = if s < i + 1 then pr s else (stS S).2.1 s
        by_cases e : s = i
        · subst e; simp
        · by_cases e2 : s < i
          · simp [e, e2, show s < i + 1 by omega]
          · simp [e, e2, show ¬ s < i + 1 by omega]
      · funext s k
        show (if s = i then (if un (lk i) k = un (plk lk gl pr i) k then none else some (un (lk i) k)) else if s < i then rsO (lk s) (plk lk gl pr s) k else (stS S).2.2 s k) = if s < i + 1 then rsO (lk s) (plk lk gl pr s) k else (stS S).2.2 s k
        by_cases e : s = i
        · subst e; simp [rsO]
        · by_cases e2 : s < i
          · simp [e, e2, show s < i + 1 by omega]
          · simp [e, e2, show ¬ s < i + 1 by omega]
    rw [e] at this
    exact ⟨this.1, frN_tr hf this.2⟩
  · rintro L M' ⟨rfl, h1, hf⟩
    have c0 : M' 3 1 = nI n := by have := h1.2.2.1.1; rw [show (stS (setSt S (rwLay (stS S) lk gl pr n))).1 = n from hns] at this; exact this
    simp only [B_X8_layStyles_2, K_X8_layStyles_44, wp_con, wp_ild0, wp_ald0, wp_ist0, wp_inc0, wp_ild1, wp_ald1, wp_ist1n, wp_inc1n, wp_ist1i, wp_inc1i, wp_ist1r, wp_inc1r, wp_ild2, wp_ald2, wp_ist2n, wp_inc2n, wp_ist2i, wp_inc2i, wp_ist2r, wp_inc2r, wp_ild3, wp_ald3, wp_ist3n, wp_inc3n, wp_ist3i, wp_inc3i, wp_ist3r, wp_inc3r, wp_ild4, wp_ald4, wp_ist4n, wp_inc4n, wp_ist4i, wp_inc4i, wp_ist4r, wp_inc4r, wp_ild5, wp_ald5, wp_ist5n, wp_inc5n, wp_ist5i, wp_inc5i, wp_ist5r, wp_inc5r, wp_ild6, wp_ald6, wp_ist6n, wp_inc6n, wp_ist6i, wp_inc6i, wp_ist6r, wp_inc6r, wp_ild7, wp_ald7, wp_ist7n, wp_inc7n, wp_ist7i, wp_inc7i, wp_ist7r, wp_inc7r, wp_ild8, wp_ald8, wp_ist8n, wp_inc8n, wp_ist8i, wp_inc8i, wp_ist8r, wp_inc8r, wp_ild9, wp_ald9, wp_ist9n, wp_inc9n, wp_ist9i, wp_inc9i, wp_ist9r, wp_inc9r, wp_bin, wp_div, wp_dupi, wp_dupr, wp_dup2, wp_popi, wp_popr, wp_ifeq, wp_ifne, wp_iflt, wp_ifge, wp_ifgt, wp_ifle, wp_iceq, wp_icne, wp_iclt, wp_icge, wp_icgt, wp_icle, wp_jmp, wp_seq, sq_j, sq_r, lq_j, lq_r, eq_r, wp_kil, wp_ret, wp_zret, wp_vret, wp_aret, wp_gfi, wp_gfr, wp_pfi, wp_pfz, wp_ial, wp_ias, wp_aal, wp_gst, wp_sal, wp_min, wp_calV0, wp_calV1, wp_calS1, wp_calV2, wp_calS2, wp_calV3, wp_calS3, wp_calV4, wp_calS4, wp_calV5, wp_calS5, wp_acp, wp_i2l, wp_l2i, wp_lcon, wp_lbin, wp_ldiv, psh_s, psh_n, en, List.map_cons, List.map_nil, List.cons_append, List.nil_append, List.length_cons, List.length_nil, List.replicate_succ, List.replicate_zero, List.zipWith_cons_cons, List.zipWith_nil_left, List.zipWith_nil_right, if_true, if_false, Bool.false_eq_true, Nat.reduceAdd, Nat.reduceSub, Nat.reduceLeDiff, Nat.reduceEqDiff, Nat.reduceMul, true_and, and_true, Option.some.injEq, exists_eq_left', Nat.le_refl, Nat.zero_le, reduceIte, Nat.add_zero, Nat.zero_add, xF0, xF1, xF2, xF3, c0, N_le (show n < 2147483648 by omega) (show n < 2147483648 by omega)]
    exact ⟨fun _ => ⟨h1, hf⟩, fun h => absurd trivial h⟩
  · have : setSt S (rwLay (stS S) lk gl pr 0) = S := by
      obtain ⟨a, b, ⟨c, d, e⟩, f⟩ := S
      simp [setSt, rwLay, stS]
    rw [this]
    exact hS
/-- laid styles: the sheet is right, and each style has its look -/
theorem lay_ok {S : vS} {n gl : Nat} {lk : Nat → Nat} {pr : Nat → Option Nat} (h0 : (1 ≤ S.1 ∧ S.1 ≤ 20) ∧ (∀ k, k < 6 → S.2.1 k ≤ top k) ∧ rwOK 8 n (paS S)) (hn : n ≤ 6) (hns : (stS S).1 = n) (hl : lOK n lk) (hg : ∀ k, k < 6 → un gl k = S.2.1 k) (hρ : ∃ ρ : Nat → Nat, ∀ j, j < n → ∀ y, pr j = some y → y < n ∧ ρ y < ρ j) : vOK (setSt S (rwLay (stS S) lk gl pr n)) ∧ ∀ k, k < 6 → ∀ s, s < n → vst (setSt S (rwLay (stS S) lk gl pr n)) k 6 (some s) = un (lk s) k := by
  obtain ⟨ρ, hρ⟩ := hρ
  have hb : ∀ s, s < n → (stS (setSt S (rwLay (stS S) lk gl pr n))).2.1 s = pr s := fun s hs => if_pos hs
  have hov : ∀ s k, s < n → (stS (setSt S (rwLay (stS S) lk gl pr n))).2.2 s k = rsO (lk s) (plk lk gl pr s) k := fun s k hs => if_pos hs
  have ha : ∀ s, s < n → it (setSt S (rwLay (stS S) lk gl pr n)) n (some s) = none := acy_rank (n := n) ρ (fun s hs t ht => by rw [hb s hs] at ht; exact hρ s hs t ht)
  have key : ∀ k, k < 6 → ∀ m s, s < n → it (setSt S (rwLay (stS S) lk gl pr n)) m (some s) = none → vst (setSt S (rwLay (stS S) lk gl pr n)) k m (some s) = un (lk s) k := by
    intro k hk m
    induction m with
    | zero => intro s _ h; cases h
    | succ m ih =>
      intro s hs hi
      have hi : it (setSt S (rwLay (stS S) lk gl pr n)) m ((stS (setSt S (rwLay (stS S) lk gl pr n))).2.1 s) = none := hi
      show (match (stS (setSt S (rwLay (stS S) lk gl pr n))).2.2 s k with
        | some v => v
        | none => vst (setSt S (rwLay (stS S) lk gl pr n)) k m ((stS (setSt S (rwLay (stS S) lk gl pr n))).2.1 s)) = _
      rw [hb s hs] at hi ⊢
      rw [hov s k hs]
      have hp : vst (setSt S (rwLay (stS S) lk gl pr n)) k m (pr s) = un (plk lk gl pr s) k := by
        unfold plk
        cases hpr : pr s with
        | none =>
          rw [hg k hk]
          cases m <;> rfl
        | some y =>
          rw [hpr] at hi
          exact ih y (hρ s hs y hpr).1 hi
      rw [hp]
      exact rsO_v
  refine ⟨⟨h0.1, h0.2.1, ⟨by show (stS S).1 ≤ 6; omega, fun j hj => ?_⟩, ?_, fun s hs => ?_⟩, fun k hk s hs => key k hk 6 s hs (it_more _ _ (ha s hs) 6 hn)⟩
  · have hj : j < n := by rw [← hns]; exact hj
    refine ⟨fun t ht => ?_, fun k hk v hv => ?_⟩
    · rw [hb j hj] at ht
      show t < (stS S).1
      have := (hρ j hj t ht).1
      omega
    · rw [hov j k hj] at hv
      exact rsO_top ((hl j hj).2 k hk) hv
  · show rwOK 8 (stS S).1 (paS S)
    rw [hns]
    exact h0.2.2
  · have hs : s < n := by rw [← hns]; exact hs
    exact it_more _ _ (ha s hs) 6 hn
/-! looks are planted -/
theorem v_layForest {M : vM} {S : vS} (hS : rS1 M S) (h : vOK S) : wpF F_X10_layForestOfStyles [.ref 0] gA M (fun v G' M' => G' = gA ∧ v = none ∧ rPn M' (stS S).1 (fun s => lkS S (some s)) (lkS S none) (fun _ => none) ∧ (∀ s, s < 2 ^ (stS S).1 → M' 160 s = nI (sD BIG (RR (fun s => lkS S (some s)) (lkS S none) (stS S).1 (fun _ => none)) (stS S).1 s)) ∧ frF M M') := by
  have hn := ns_le h
  refine run_wp ⟨Nat.le_of_ble_eq_true rfl, rfl⟩ ?_
  have eg := v_styleLook hS h (s := none) sOK_n
  simp only [nO_n] at eg
  simp only [D_X10_layForestOfStyles, wp_con, wp_ild0, wp_ald0, wp_ist0, wp_inc0, wp_ild1, wp_ald1, wp_ist1n, wp_inc1n, wp_ist1i, wp_inc1i, wp_ist1r, wp_inc1r, wp_ild2, wp_ald2, wp_ist2n, wp_inc2n, wp_ist2i, wp_inc2i, wp_ist2r, wp_inc2r, wp_ild3, wp_ald3, wp_ist3n, wp_inc3n, wp_ist3i, wp_inc3i, wp_ist3r, wp_inc3r, wp_ild4, wp_ald4, wp_ist4n, wp_inc4n, wp_ist4i, wp_inc4i, wp_ist4r, wp_inc4r, wp_ild5, wp_ald5, wp_ist5n, wp_inc5n, wp_ist5i, wp_inc5i, wp_ist5r, wp_inc5r, wp_ild6, wp_ald6, wp_ist6n, wp_inc6n, wp_ist6i, wp_inc6i, wp_ist6r, wp_inc6r, wp_ild7, wp_ald7, wp_ist7n, wp_inc7n, wp_ist7i, wp_inc7i, wp_ist7r, wp_inc7r, wp_ild8, wp_ald8, wp_ist8n, wp_inc8n, wp_ist8i, wp_inc8i, wp_ist8r, wp_inc8r, wp_ild9, wp_ald9, wp_ist9n, wp_inc9n, wp_ist9i, wp_inc9i, wp_ist9r, wp_inc9r, wp_bin, wp_div, wp_dupi, wp_dupr, wp_dup2, wp_popi, wp_popr, wp_ifeq, wp_ifne, wp_iflt, wp_ifge, wp_ifgt, wp_ifle, wp_iceq, wp_icne, wp_iclt, wp_icge, wp_icgt, wp_icle, wp_jmp, wp_seq, sq_j, sq_r, lq_j, lq_r, eq_r, wp_kil, wp_ret, wp_zret, wp_vret, wp_aret, wp_gfi, wp_gfr, wp_pfi, wp_pfz, wp_ial, wp_ias, wp_aal, wp_gst, wp_sal, wp_min, wp_calV0, wp_calV1, wp_calS1, wp_calV2, wp_calS2, wp_calV3, wp_calS3, wp_calV4, wp_calS4, wp_calV5, wp_calS5, wp_acp, wp_i2l, wp_l2i, wp_lcon, wp_lbin, wp_ldiv, psh_s, psh_n, en, List.map_cons, List.map_nil, List.cons_append, List.nil_append, List.length_cons, List.length_nil, List.replicate_succ, List.replicate_zero, List.zipWith_cons_cons, List.zipWith_nil_left, List.zipWith_nil_right, if_true, if_false, Bool.false_eq_true, Nat.reduceAdd, Nat.reduceSub, Nat.reduceLeDiff, Nat.reduceEqDiff, Nat.reduceMul, true_and, and_true, Option.some.injEq, exists_eq_left', Nat.le_refl, Nat.zero_le, reduceIte, Nat.add_zero, Nat.zero_add, xF0, xF1, xF2, xF3, wpF_eq eg, wpF_eq (v_begin _)]
  simp only [l_0]
  refine wp_for (stS S).1 (fun i L M' => L = [some (.ref 0), some (.int (nI i))] ∧ rFo M' i (fun s => lkS S (some s)) (lkS S none) ∧ ∀ a, a ≠ 147 → a ≠ 148 → M' a = M a) ?_ ?_ 4000 0 _ _ (by omega) (by omega) ⟨rfl, ⟨by rw [ms_k (by decide), ms_eq], ms_eq _ _ _ _, fun j hj => absurd hj (Nat.not_lt_zero j)⟩, fun a a1 a2 => by rw [ms_a a1, ms_a a1]⟩
  · rintro i L M' hi ⟨rfl, hF, hf⟩
    have hS' : rS1 M' S := rS1_fr hS (fun a ha => hf a (by omega) (by omega))
    have c0 : M' 3 1 = nI (stS S).1 := hS'.2.2.1.1
    have e1 := v_styleLook hS' h (sOK_s hi)
    simp only [nO_s] at e1
    simp only [B_X10_layForestOfStyles_17, wp_con, wp_ild0, wp_ald0, wp_ist0, wp_inc0, wp_ild1, wp_ald1, wp_ist1n, wp_inc1n, wp_ist1i, wp_inc1i, wp_ist1r, wp_inc1r, wp_ild2, wp_ald2, wp_ist2n, wp_inc2n, wp_ist2i, wp_inc2i, wp_ist2r, wp_inc2r, wp_ild3, wp_ald3, wp_ist3n, wp_inc3n, wp_ist3i, wp_inc3i, wp_ist3r, wp_inc3r, wp_ild4, wp_ald4, wp_ist4n, wp_inc4n, wp_ist4i, wp_inc4i, wp_ist4r, wp_inc4r, wp_ild5, wp_ald5, wp_ist5n, wp_inc5n, wp_ist5i, wp_inc5i, wp_ist5r, wp_inc5r, wp_ild6, wp_ald6, wp_ist6n, wp_inc6n, wp_ist6i, wp_inc6i, wp_ist6r, wp_inc6r, wp_ild7, wp_ald7, wp_ist7n, wp_inc7n, wp_ist7i, wp_inc7i, wp_ist7r, wp_inc7r, wp_ild8, wp_ald8, wp_ist8n, wp_inc8n, wp_ist8i, wp_inc8i, wp_ist8r, wp_inc8r, wp_ild9, wp_ald9, wp_ist9n, wp_inc9n, wp_ist9i, wp_inc9i, wp_ist9r, wp_inc9r, wp_bin, wp_div, wp_dupi, wp_dupr, wp_dup2, wp_popi, wp_popr, wp_ifeq, wp_ifne, wp_iflt, wp_ifge, wp_ifgt, wp_ifle, wp_iceq, wp_icne, wp_iclt, wp_icge, wp_icgt, wp_icle, wp_jmp, wp_seq, sq_j, sq_r, lq_j, lq_r, eq_r, wp_kil, wp_ret, wp_zret, wp_vret, wp_aret, wp_gfi, wp_gfr, wp_pfi, wp_pfz, wp_ial, wp_ias, wp_aal, wp_gst, wp_sal, wp_min, wp_calV0, wp_calV1, wp_calS1, wp_calV2, wp_calS2, wp_calV3, wp_calS3, wp_calV4, wp_calS4, wp_calV5, wp_calS5, wp_acp, wp_i2l, wp_l2i, wp_lcon, wp_lbin, wp_ldiv, psh_s, psh_n, en, List.map_cons, List.map_nil, List.cons_append, List.nil_append, List.length_cons, List.length_nil, List.replicate_succ, List.replicate_zero, List.zipWith_cons_cons, List.zipWith_nil_left, List.zipWith_nil_right, if_true, if_false, Bool.false_eq_true, Nat.reduceAdd, Nat.reduceSub, Nat.reduceLeDiff, Nat.reduceEqDiff, Nat.reduceMul, true_and, and_true, Option.some.injEq, exists_eq_left', Nat.le_refl, Nat.zero_le, reduceIte, Nat.add_zero, Nat.zero_add, xF0, xF1, xF2, xF3, c0, N_le (show (stS S).1 < 2147483648 by omega) (show i < 2147483648 by omega), wpF_eq e1]
    refine ⟨fun h => absurd h (by omega), fun _ => ?_⟩
    refine wpF_mono (v_plant hF (by omega) (lkS S (some i))) ?_
    rintro v G' M2 ⟨rfl, rfl, d1, d2⟩
    simp only [wp_con, wp_ild0, wp_ald0, wp_ist0, wp_inc0, wp_ild1, wp_ald1, wp_ist1n, wp_inc1n, wp_ist1i, wp_inc1i, wp_ist1r, wp_inc1r, wp_ild2, wp_ald2, wp_ist2n, wp_inc2n, wp_ist2i, wp_inc2i, wp_ist2r, wp_inc2r, wp_ild3, wp_ald3, wp_ist3n, wp_inc3n, wp_ist3i, wp_inc3i, wp_ist3r, wp_inc3r, wp_ild4, wp_ald4, wp_ist4n, wp_inc4n, wp_ist4i, wp_inc4i, wp_ist4r, wp_inc4r, wp_ild5, wp_ald5, wp_ist5n, wp_inc5n, wp_ist5i, wp_inc5i, wp_ist5r, wp_inc5r, wp_ild6, wp_ald6, wp_ist6n, wp_inc6n, wp_ist6i, wp_inc6i, wp_ist6r, wp_inc6r, wp_ild7, wp_ald7, wp_ist7n, wp_inc7n, wp_ist7i, wp_inc7i, wp_ist7r, wp_inc7r, wp_ild8, wp_ald8, wp_ist8n, wp_inc8n, wp_ist8i, wp_inc8i, wp_ist8r, wp_inc8r, wp_ild9, wp_ald9, wp_ist9n, wp_inc9n, wp_ist9i, wp_inc9i, wp_ist9r, wp_inc9r, wp_bin, wp_div, wp_dupi, wp_dupr, wp_dup2, wp_popi, wp_popr, wp_ifeq, wp_ifne, wp_iflt, wp_ifge, wp_ifgt, wp_ifle, wp_iceq, wp_icne, wp_iclt, wp_icge, wp_icgt, wp_icle, wp_jmp, wp_seq, sq_j, sq_r, lq_j, lq_r, eq_r, wp_kil, wp_ret, wp_zret, wp_vret, wp_aret, wp_gfi, wp_gfr, wp_pfi, wp_pfz, wp_ial, wp_ias, wp_aal, wp_gst, wp_sal, wp_min, wp_calV0, wp_calV1, wp_calS1, wp_calV2, wp_calS2, wp_calV3, wp_calS3, wp_calV4, wp_calS4, wp_calV5, wp_calS5, wp_acp, wp_i2l, wp_l2i, wp_lcon, wp_lbin, wp_ldiv, psh_s, psh_n, en, List.map_cons, List.map_nil, List.cons_append, List.nil_append, List.length_cons, List.length_nil, List.replicate_succ, List.replicate_zero, List.zipWith_cons_cons, List.zipWith_nil_left, List.zipWith_nil_right, if_true, if_false, Bool.false_eq_true, Nat.reduceAdd, Nat.reduceSub, Nat.reduceLeDiff, Nat.reduceEqDiff, Nat.reduceMul, true_and, and_true, Option.some.injEq, exists_eq_left', Nat.le_refl, Nat.zero_le, reduceIte, Nat.add_zero, Nat.zero_add, xF0, xF1, xF2, xF3, N_s]
    refine ⟨⟨d1.1, d1.2.1, fun j hj => ?_⟩, fun a a1 a2 => by rw [d2 a a1 a2, hf a a1 a2]⟩
    rw [d1.2.2 j hj]
    by_cases e : j = i
    · simp [e]
    · simp [e]
  · rintro L M' ⟨rfl, hF, hf⟩
    have hS' : rS1 M' S := rS1_fr hS (fun a ha => hf a (by omega) (by omega))
    have c0 : M' 3 1 = nI (stS S).1 := hS'.2.2.1.1
    simp only [B_X10_layForestOfStyles_17, K_X10_layForestOfStyles_52, wp_con, wp_ild0, wp_ald0, wp_ist0, wp_inc0, wp_ild1, wp_ald1, wp_ist1n, wp_inc1n, wp_ist1i, wp_inc1i, wp_ist1r, wp_inc1r, wp_ild2, wp_ald2, wp_ist2n, wp_inc2n, wp_ist2i, wp_inc2i, wp_ist2r, wp_inc2r, wp_ild3, wp_ald3, wp_ist3n, wp_inc3n, wp_ist3i, wp_inc3i, wp_ist3r, wp_inc3r, wp_ild4, wp_ald4, wp_ist4n, wp_inc4n, wp_ist4i, wp_inc4i, wp_ist4r, wp_inc4r, wp_ild5, wp_ald5, wp_ist5n, wp_inc5n, wp_ist5i, wp_inc5i, wp_ist5r, wp_inc5r, wp_ild6, wp_ald6, wp_ist6n, wp_inc6n, wp_ist6i, wp_inc6i, wp_ist6r, wp_inc6r, wp_ild7, wp_ald7, wp_ist7n, wp_inc7n, wp_ist7i, wp_inc7i, wp_ist7r, wp_inc7r, wp_ild8, wp_ald8, wp_ist8n, wp_inc8n, wp_ist8i, wp_inc8i, wp_ist8r, wp_inc8r, wp_ild9, wp_ald9, wp_ist9n, wp_inc9n, wp_ist9i, wp_inc9i, wp_ist9r, wp_inc9r, wp_bin, wp_div, wp_dupi, wp_dupr, wp_dup2, wp_popi, wp_popr, wp_ifeq, wp_ifne, wp_iflt, wp_ifge, wp_ifgt, wp_ifle, wp_iceq, wp_icne, wp_iclt, wp_icge, wp_icgt, wp_icle, wp_jmp, wp_seq, sq_j, sq_r, lq_j, lq_r, eq_r, wp_kil, wp_ret, wp_zret, wp_vret, wp_aret, wp_gfi, wp_gfr, wp_pfi, wp_pfz, wp_ial, wp_ias, wp_aal, wp_gst, wp_sal, wp_min, wp_calV0, wp_calV1, wp_calS1, wp_calV2, wp_calS2, wp_calV3, wp_calS3, wp_calV4, wp_calS4, wp_calV5, wp_calS5, wp_acp, wp_i2l, wp_l2i, wp_lcon, wp_lbin, wp_ldiv, psh_s, psh_n, en, List.map_cons, List.map_nil, List.cons_append, List.nil_append, List.length_cons, List.length_nil, List.replicate_succ, List.replicate_zero, List.zipWith_cons_cons, List.zipWith_nil_left, List.zipWith_nil_right, if_true, if_false, Bool.false_eq_true, Nat.reduceAdd, Nat.reduceSub, Nat.reduceLeDiff, Nat.reduceEqDiff, Nat.reduceMul, true_and, and_true, Option.some.injEq, exists_eq_left', Nat.le_refl, Nat.zero_le, reduceIte, Nat.add_zero, Nat.zero_add, xF0, xF1, xF2, xF3, c0, N_le (show (stS S).1 < 2147483648 by omega) (show (stS S).1 < 2147483648 by omega)]
    refine ⟨fun _ => ?_, fun h => absurd trivial h⟩
    have hl : lOK (stS S).1 (fun s => lkS S (some s)) := fun j hj => ⟨(lkS_ok h (sOK_s hj)).1, fun k hk => by rw [(lkS_ok h (sOK_s hj)).2 k hk]; exact vst_ok h hk 6 _ (sOK_s hj)⟩
    refine wpF_mono (v_grow hF (by omega) hl (lkS_ok h sOK_n).1) ?_
    rintro v G' M2 ⟨rfl, rfl, d1, d2, d3, d4⟩
    simp only [wp_con, wp_ild0, wp_ald0, wp_ist0, wp_inc0, wp_ild1, wp_ald1, wp_ist1n, wp_inc1n, wp_ist1i, wp_inc1i, wp_ist1r, wp_inc1r, wp_ild2, wp_ald2, wp_ist2n, wp_inc2n, wp_ist2i, wp_inc2i, wp_ist2r, wp_inc2r, wp_ild3, wp_ald3, wp_ist3n, wp_inc3n, wp_ist3i, wp_inc3i, wp_ist3r, wp_inc3r, wp_ild4, wp_ald4, wp_ist4n, wp_inc4n, wp_ist4i, wp_inc4i, wp_ist4r, wp_inc4r, wp_ild5, wp_ald5, wp_ist5n, wp_inc5n, wp_ist5i, wp_inc5i, wp_ist5r, wp_inc5r, wp_ild6, wp_ald6, wp_ist6n, wp_inc6n, wp_ist6i, wp_inc6i, wp_ist6r, wp_inc6r, wp_ild7, wp_ald7, wp_ist7n, wp_inc7n, wp_ist7i, wp_inc7i, wp_ist7r, wp_inc7r, wp_ild8, wp_ald8, wp_ist8n, wp_inc8n, wp_ist8i, wp_inc8i, wp_ist8r, wp_inc8r, wp_ild9, wp_ald9, wp_ist9n, wp_inc9n, wp_ist9i, wp_inc9i, wp_ist9r, wp_inc9r, wp_bin, wp_div, wp_dupi, wp_dupr, wp_dup2, wp_popi, wp_popr, wp_ifeq, wp_ifne, wp_iflt, wp_ifge, wp_ifgt, wp_ifle, wp_iceq, wp_icne, wp_iclt, wp_icge, wp_icgt, wp_icle, wp_jmp, wp_seq, sq_j, sq_r, lq_j, lq_r, eq_r, wp_kil, wp_ret, wp_zret, wp_vret, wp_aret, wp_gfi, wp_gfr, wp_pfi, wp_pfz, wp_ial, wp_ias, wp_aal, wp_gst, wp_sal, wp_min, wp_calV0, wp_calV1, wp_calS1, wp_calV2, wp_calS2, wp_calV3, wp_calS3, wp_calV4, wp_calS4, wp_calV5, wp_calS5, wp_acp, wp_i2l, wp_l2i, wp_lcon, wp_lbin, wp_ldiv, psh_s, psh_n, en, List.map_cons, List.map_nil, List.cons_append, List.nil_append, List.length_cons, List.length_nil, List.replicate_succ, List.replicate_zero, List.zipWith_cons_cons, List.zipWith_nil_left, List.zipWith_nil_right, if_true, if_false, Bool.false_eq_true, Nat.reduceAdd, Nat.reduceSub, Nat.reduceLeDiff, Nat.reduceEqDiff, Nat.reduceMul, true_and, and_true, Option.some.injEq, exists_eq_left', Nat.le_refl, Nat.zero_le, reduceIte, Nat.add_zero, Nat.zero_add]
    exact ⟨⟨d1, d2⟩, d3, fun a ha => by rw [d4 a ha, hf a (by omega) (by omega)]⟩
