-- the class: all styles are replaced
theorem rS1_st_cong {M : vM} {S : vS} {R R' : vRw} (h : rS1 M (setSt S R)) (hn : R'.1 = R.1) (hb : ∀ j, j < R.1 → R'.2.1 j = R.2.1 j ∧ ∀ k, k < 6 → R'.2.2 j k = R.2.2 j k) : rS1 M (setSt S R') := by
  obtain ⟨h1, h2, h3, h4⟩ := h
  refine ⟨h1, h2, ⟨?_, fun j hj => ?_⟩, h4⟩
  · show M 3 1 = nI R'.1
    rw [hn]; exact h3.1
  · have hj : j < R.1 := by rw [← hn]; exact hj
    obtain ⟨a, b⟩ := h3.2 j hj
    obtain ⟨c, d⟩ := hb j hj
    refine ⟨?_, fun k hk => ?_⟩
    · show M 4 j = nO (R'.2.1 j)
      rw [c]; exact a
    · show M 5 (j * 6 + k) = nO (R'.2.2 j k)
      rw [d k hk]; exact b k hk
def rwL (n : Nat) (lk : Nat → Nat) (gl : Nat) (pr : Nat → Option Nat) : vRw := (n, pr, fun s k => rsO (lk s) (plk lk gl pr s) k)
theorem rwLay_cong {M : vM} {S : vS} {R : vRw} {n gl : Nat} {lk : Nat → Nat} {pr : Nat → Option Nat} (hR : R.1 = n) (h : rS1 M (setSt S (rwLay R lk gl pr n))) : rS1 M (setSt S (rwL n lk gl pr)) := by
  refine rS1_st_cong h hR.symm (fun j hj => ?_)
  have hj : j < n := by rw [← hR]; exact hj
  refine ⟨?_, fun k hk => ?_⟩
  · show pr j = if j < n then pr j else _
    rw [if_pos hj]
  · show rsO (lk j) (plk lk gl pr j) k = if j < n then rsO (lk j) (plk lk gl pr j) k else _
    rw [if_pos hj]
theorem rwL_ok {S : vS} {n gl : Nat} {lk : Nat → Nat} {pr : Nat → Option Nat} (h0 : (1 ≤ S.1 ∧ S.1 ≤ 20) ∧ (∀ k, k < 6 → S.2.1 k ≤ top k) ∧ rwOK 8 n (paS S)) (hn : n ≤ 6) (hl : lOK n lk) (hg : ∀ k, k < 6 → un gl k = S.2.1 k) (hρ : ∃ ρ : Nat → Nat, ∀ j, j < n → ∀ y, pr j = some y → y < n ∧ ρ y < ρ j) : vOK (setSt S (rwL n lk gl pr)) ∧ ∀ k, k < 6 → ∀ s, s < n → vst (setSt S (rwL n lk gl pr)) k 6 (some s) = un (lk s) k := by
  have h := lay_ok (S := setSt S (rwL n lk gl pr)) h0 hn rfl hl hg hρ
  have e : setSt (setSt S (rwL n lk gl pr)) (rwLay (stS (setSt S (rwL n lk gl pr))) lk gl pr n) = setSt S (rwL n lk gl pr) := by
    show (S.1, S.2.1, _, S.2.2.2) = (S.1, S.2.1, _, S.2.2.2)
    congr 3
    show (n, _, _) = (n, _, _)
    congr 2
    · funext s
      show (if s < n then pr s else pr s) = pr s
      split <;> rfl
    · funext s k
      show (if s < n then rsO (lk s) (plk lk gl pr s) k else rsO (lk s) (plk lk gl pr s) k) = _
      split <;> rfl
  rw [e] at h
  exact h
def rbA (C : vS) (tg : Nat → Option Nat) (i : Nat) : vS := setPa C ((paS C).1, (fun x => if x < i then tg x else (paS C).2.1 x), fun x k => if x < i then rsO (lkP C x) (lkS C (tg x)) k else (paS C).2.2 x k)
theorem lkS_pa {S : vS} {R : vRw} {o : Option Nat} : lkS (setPa S R) o = lkS S o := lkS_eq (fun k _ => vst_pa 6 o)
theorem lkP_at {C : vS} {tg : Nat → Option Nat} {i x : Nat} (h : i ≤ x) : lkP (rbA C tg i) x = lkP C x := lkP_eq (fun k hk => by
  unfold vpa
  show (match (if x < i then _ else (paS C).2.2 x k) with | some v => v | none => vst (rbA C tg i) k 6 (if x < i then _ else (paS C).2.1 x)) = _
  rw [if_neg (by omega), if_neg (by omega)]
  rw [show vst (rbA C tg i) k 6 ((paS C).2.1 x) = vst C k 6 ((paS C).2.1 x) from vst_pa 6 _]; rfl)
theorem rbA_next {C : vS} {tg : Nat → Option Nat} {i : Nat} : rebP (rbA C tg i) i (tg i) = rbA C tg (i + 1) := by
  show (C.1, C.2.1, C.2.2.1, _) = (C.1, C.2.1, C.2.2.1, _)
  congr 3
  rw [lkP_at (Nat.le_refl i), show lkS (rbA C tg i) (tg i) = lkS C (tg i) from lkS_pa]
  show ((paS C).1, _, _) = ((paS C).1, _, _)
  congr 2
  · funext x
    show (if x = i then tg i else if x < i then tg x else (paS C).2.1 x) = if x < i + 1 then tg x else (paS C).2.1 x
    by_cases e : x = i
    · subst e; simp
    · by_cases e2 : x < i
      · simp [e, e2, show x < i + 1 by omega]
      · simp [e, e2, show ¬ x < i + 1 by omega]
  · funext x k
    show (if x = i then rsO (lkP C i) (lkS C (tg i)) k else if x < i then rsO (lkP C x) (lkS C (tg x)) k else (paS C).2.2 x k) = if x < i + 1 then rsO (lkP C x) (lkS C (tg x)) k else (paS C).2.2 x k
    by_cases e : x = i
    · subst e; simp
    · by_cases e2 : x < i
      · simp [e, e2, show x < i + 1 by omega]
      · simp [e, e2, show ¬ x < i + 1 by omega]
theorem rbA_0 (C : vS) (tg : Nat → Option Nat) : rbA C tg 0 = C := by
  obtain ⟨a, b, c, d, e, f⟩ := C
  simp [rbA, setPa, paS]
theorem rbA_ok {C : vS} (h : vOK C) {tg : Nat → Option Nat} (ht : ∀ p, p < (paS C).1 → sOK C (tg p)) : ∀ i, i ≤ (paS C).1 → vOK (rbA C tg i) ∧ ∀ k, k < 6 → ∀ q, q < (paS C).1 → vpa (rbA C tg i) q k = vpa C q k := by
  intro i
  induction i with
  | zero => intro _; rw [rbA_0]; exact ⟨h, fun _ _ _ _ => rfl⟩
  | succ i ih =>
    intro hi
    obtain ⟨a, b⟩ := ih (by omega)
    obtain ⟨c, d, _⟩ := rebP_ok a (p := i) (show i < (paS C).1 by omega) (t := tg i) (ht i (by omega))
    rw [rbA_next] at c d
    exact ⟨c, fun k hk q hq => by rw [d k hk q hq, b k hk q hq]⟩
def apps (R : vRw) : Nat → vRw
  | 0 => R
  | i + 1 => rwApp (apps R i)
theorem apps_n {R : vRw} : ∀ i, (apps R i).1 = R.1 + i
  | 0 => rfl
  | i + 1 => by show (apps R i).1 + 1 = _; rw [apps_n i]; omega
def rpC (S : vS) (n : Nat) (lk : Nat → Nat) (gl : Nat) (pr : Nat → Option Nat) : vS := setSt (rbA S (fun _ => none) (paS S).1) (rwL n lk gl pr)
def rpD (C : vS) : vS := rbA C (fun x => nea C (lkP C x) (stS C).1) (paS C).1
theorem rpC_ok {S : vS} (h : vOK S) {n : Nat} {lk : Nat → Nat} {pr : Nat → Option Nat} (hn : n ≤ 6) (hl : lOK n lk) (hρ : ∃ ρ : Nat → Nat, ∀ j, j < n → ∀ y, pr j = some y → y < n ∧ ρ y < ρ j) : vOK (rpC S n lk (lkS S none) pr) ∧ (∀ k, k < 6 → ∀ s, s < n → vst (rpC S n lk (lkS S none) pr) k 6 (some s) = un (lk s) k) ∧ ∀ k, k < 6 → ∀ q, q < (paS S).1 → vpa (rpC S n lk (lkS S none) pr) q k = vpa S q k := by
  obtain ⟨a, b⟩ := rbA_ok h (tg := fun _ => none) (fun _ _ => sOK_n) (paS S).1 (Nat.le_refl _)
  have hb : ∀ j, j < (paS S).1 → (paS (rbA S (fun _ => none) (paS S).1)).2.1 j = none := fun j hj => if_pos hj
  obtain ⟨c, d⟩ := rwL_ok (S := rbA S (fun _ => none) (paS S).1) (n := n) (gl := lkS S none) (lk := lk) (pr := pr) ⟨a.1, a.2.1, a.2.2.2.1.1, fun j hj => ⟨fun t ht => absurd ((hb j hj).symm.trans ht) (by simp), (a.2.2.2.1.2 j hj).2⟩⟩ hn hl (fun k hk => (lkS_ok h sOK_n).2 k hk) hρ
  refine ⟨c, d, fun k hk q hq => ?_⟩
  rw [← b k hk q hq]
  unfold vpa
  show (match (paS (rbA S (fun _ => none) (paS S).1)).2.2 q k with | some v => v | none => vst (rpC S n lk (lkS S none) pr) k 6 ((paS (rbA S (fun _ => none) (paS S).1)).2.1 q)) = _
  rw [hb q hq]
  rfl
theorem rpD_ok {C : vS} (h : vOK C) : vOK (rpD C) ∧ ∀ k, k < 6 → ∀ q, q < (paS C).1 → vpa (rpD C) q k = vpa C q k := rbA_ok h (fun _ _ => nea_ok _ (Nat.le_refl _)) _ (Nat.le_refl _)
theorem nea_cong {S S' : vS} {l : Nat} : ∀ n, (∀ o, lkS S' o = lkS S o) → nea S' l n = nea S l n := by
  intro n h
  induction n with
  | zero => rfl
  | succ n ih =>
    unfold nea
    rw [ih]
    unfold cws
    simp only [h]
theorem v_replaceStyles {M : vM} {S : vS} (hS : rS1 M S) (h : vOK S) (h30 : M 3 0 = nI 6) {n : Nat} {lk : Nat → Nat} {pr : Nat → Option Nat} (hn : n ≤ 6) (hF : rFo M n lk (lkS S none)) (hl : lOK n lk) (hp : ∀ i, i < n → M 149 i = nO (pr i)) (hρ : ∃ ρ : Nat → Nat, ∀ j, j < n → ∀ y, pr j = some y → y < n ∧ ρ y < ρ j) : wpF F_X8_replaceStyles [.ref 1, .ref 147] gA M (fun v G' M' => G' = gA ∧ v = none ∧ rS1 M' (rpD (rpC S n lk (lkS S none) pr)) ∧ frN M M') := by
  have hnp := np_le h
  obtain ⟨oC1, oC2, oC3⟩ := rpC_ok h hn hl hρ
  have hpv : ∀ i, i < n → ∀ y, pr i = some y → y < n := fun i hi y hy => by obtain ⟨ρ, hρ⟩ := hρ; exact (hρ i hi y hy).1
  refine run_wp ⟨Nat.le_of_ble_eq_true rfl, rfl⟩ ?_
  simp only [D_X8_replaceStyles, wp_con, wp_ild0, wp_ald0, wp_ist0, wp_inc0, wp_ild1, wp_ald1, wp_ist1n, wp_inc1n, wp_ist1i, wp_inc1i, wp_ist1r, wp_inc1r, wp_ild2, wp_ald2, wp_ist2n, wp_inc2n, wp_ist2i, wp_inc2i, wp_ist2r, wp_inc2r, wp_ild3, wp_ald3, wp_ist3n, wp_inc3n, wp_ist3i, wp_inc3i, wp_ist3r, wp_inc3r, wp_ild4, wp_ald4, wp_ist4n, wp_inc4n, wp_ist4i, wp_inc4i, wp_ist4r, wp_inc4r, wp_ild5, wp_ald5, wp_ist5n, wp_inc5n, wp_ist5i, wp_inc5i, wp_ist5r, wp_inc5r, wp_ild6, wp_ald6, wp_ist6n, wp_inc6n, wp_ist6i, wp_inc6i, wp_ist6r, wp_inc6r, wp_ild7, wp_ald7, wp_ist7n, wp_inc7n, wp_ist7i, wp_inc7i, wp_ist7r, wp_inc7r, wp_ild8, wp_ald8, wp_ist8n, wp_inc8n, wp_ist8i, wp_inc8i, wp_ist8r, wp_inc8r, wp_ild9, wp_ald9, wp_ist9n, wp_inc9n, wp_ist9i, wp_inc9i, wp_ist9r, wp_inc9r, wp_bin, wp_div, wp_dupi, wp_dupr, wp_dup2, wp_popi, wp_popr, wp_ifeq, wp_ifne, wp_iflt, wp_ifge, wp_ifgt, wp_ifle, wp_iceq, wp_icne, wp_iclt, wp_icge, wp_icgt, wp_icle, wp_jmp, wp_seq, sq_j, sq_r, lq_j, lq_r, eq_r, wp_kil, wp_ret, wp_zret, wp_vret, wp_aret, wp_gfi, wp_gfr, wp_pfi, wp_pfz, wp_ial, wp_ias, wp_aal, wp_gst, wp_sal, wp_min, wp_calV0, wp_calV1, wp_calS1, wp_calV2, wp_calS2, wp_calV3, wp_calS3, wp_calV4, wp_calS4, wp_calV5, wp_calS5, wp_acp, wp_i2l, wp_l2i, wp_lcon, wp_lbin, wp_ldiv, psh_s, psh_n, en, List.map_cons, List.map_nil, List.cons_append, List.nil_append, List.length_cons, List.length_nil, List.replicate_succ, List.replicate_zero, List.zipWith_cons_cons, List.zipWith_nil_left, List.zipWith_nil_right, if_true, if_false, Bool.false_eq_true, Nat.reduceAdd, Nat.reduceSub, Nat.reduceLeDiff, Nat.reduceEqDiff, Nat.reduceMul, true_and, and_true, Option.some.injEq, exists_eq_left', Nat.le_refl, Nat.zero_le, reduceIte, Nat.add_zero, Nat.zero_add, l_0]
  refine wp_for (paS S).1 (fun i L M' => L = [some (.ref 1), some (.ref 147), some (.int (nI i))] ∧ rS1 M' (rbA S (fun _ => none) i) ∧ frN M M') ?_ ?_ 4000 0 _ _ (by omega) (by omega) ⟨rfl, by rw [rbA_0]; exact hS, frN_rf⟩
  · rintro i L M' hi ⟨rfl, h1, hf⟩
    have c0 : M' 6 1 = nI (paS S).1 := h1.2.2.2.1
    obtain ⟨o1, o2⟩ := rbA_ok h (tg := fun _ => none) (fun _ _ => sOK_n) i (by omega)
    simp only [B_X8_replaceStyles_2, wp_con, wp_ild0, wp_ald0, wp_ist0, wp_inc0, wp_ild1, wp_ald1, wp_ist1n, wp_inc1n, wp_ist1i, wp_inc1i, wp_ist1r, wp_inc1r, wp_ild2, wp_ald2, wp_ist2n, wp_inc2n, wp_ist2i, wp_inc2i, wp_ist2r, wp_inc2r, wp_ild3, wp_ald3, wp_ist3n, wp_inc3n, wp_ist3i, wp_inc3i, wp_ist3r, wp_inc3r, wp_ild4, wp_ald4, wp_ist4n, wp_inc4n, wp_ist4i, wp_inc4i, wp_ist4r, wp_inc4r, wp_ild5, wp_ald5, wp_ist5n, wp_inc5n, wp_ist5i, wp_inc5i, wp_ist5r, wp_inc5r, wp_ild6, wp_ald6, wp_ist6n, wp_inc6n, wp_ist6i, wp_inc6i, wp_ist6r, wp_inc6r, wp_ild7, wp_ald7, wp_ist7n, wp_inc7n, wp_ist7i, wp_inc7i, wp_ist7r, wp_inc7r, wp_ild8, wp_ald8, wp_ist8n, wp_inc8n, wp_ist8i, wp_inc8i, wp_ist8r, wp_inc8r, wp_ild9, wp_ald9, wp_ist9n, wp_inc9n, wp_ist9i, wp_inc9i, wp_ist9r, wp_inc9r, wp_bin, wp_div, wp_dupi, wp_dupr, wp_dup2, wp_popi, wp_popr, wp_ifeq, wp_ifne, wp_iflt, wp_ifge, wp_ifgt, wp_ifle, wp_iceq, wp_icne, wp_iclt, wp_icge, wp_icgt, wp_icle, wp_jmp, wp_seq, sq_j, sq_r, lq_j, lq_r, eq_r, wp_kil, wp_ret, wp_zret, wp_vret, wp_aret, wp_gfi, wp_gfr, wp_pfi, wp_pfz, wp_ial, wp_ias, wp_aal, wp_gst, wp_sal, wp_min, wp_calV0, wp_calV1, wp_calS1, wp_calV2, wp_calS2, wp_calV3, wp_calS3, wp_calV4, wp_calS4, wp_calV5, wp_calS5, wp_acp, wp_i2l, wp_l2i, wp_lcon, wp_lbin, wp_ldiv, psh_s, psh_n, en, List.map_cons, List.map_nil, List.cons_append, List.nil_append, List.length_cons, List.length_nil, List.replicate_succ, List.replicate_zero, List.zipWith_cons_cons, List.zipWith_nil_left, List.zipWith_nil_right, if_true, if_false, Bool.false_eq_true, Nat.reduceAdd, Nat.reduceSub, Nat.reduceLeDiff, Nat.reduceEqDiff, Nat.reduceMul, true_and, and_true, Option.some.injEq, exists_eq_left', Nat.le_refl, Nat.zero_le, reduceIte, Nat.add_zero, Nat.zero_add, xF0, xF1, xF2, xF3, c0, N_le (show (paS S).1 < 2147483648 by omega) (show i < 2147483648 by omega)]
    refine ⟨fun h => absurd h (by omega), fun _ => ?_⟩
    have hr := v_rebaseParagraph h1 o1 (p := i) hi (t := none) sOK_n
    simp only [nO_n] at hr
    refine wpF_mono hr ?_
    rintro v G' M2 ⟨rfl, rfl, r2, f2⟩
    simp only [wp_con, wp_ild0, wp_ald0, wp_ist0, wp_inc0, wp_ild1, wp_ald1, wp_ist1n, wp_inc1n, wp_ist1i, wp_inc1i, wp_ist1r, wp_inc1r, wp_ild2, wp_ald2, wp_ist2n, wp_inc2n, wp_ist2i, wp_inc2i, wp_ist2r, wp_inc2r, wp_ild3, wp_ald3, wp_ist3n, wp_inc3n, wp_ist3i, wp_inc3i, wp_ist3r, wp_inc3r, wp_ild4, wp_ald4, wp_ist4n, wp_inc4n, wp_ist4i, wp_inc4i, wp_ist4r, wp_inc4r, wp_ild5, wp_ald5, wp_ist5n, wp_inc5n, wp_ist5i, wp_inc5i, wp_ist5r, wp_inc5r, wp_ild6, wp_ald6, wp_ist6n, wp_inc6n, wp_ist6i, wp_inc6i, wp_ist6r, wp_inc6r, wp_ild7, wp_ald7, wp_ist7n, wp_inc7n, wp_ist7i, wp_inc7i, wp_ist7r, wp_inc7r, wp_ild8, wp_ald8, wp_ist8n, wp_inc8n, wp_ist8i, wp_inc8i, wp_ist8r, wp_inc8r, wp_ild9, wp_ald9, wp_ist9n, wp_inc9n, wp_ist9i, wp_inc9i, wp_ist9r, wp_inc9r, wp_bin, wp_div, wp_dupi, wp_dupr, wp_dup2, wp_popi, wp_popr, wp_ifeq, wp_ifne, wp_iflt, wp_ifge, wp_ifgt, wp_ifle, wp_iceq, wp_icne, wp_iclt, wp_icge, wp_icgt, wp_icle, wp_jmp, wp_seq, sq_j, sq_r, lq_j, lq_r, eq_r, wp_kil, wp_ret, wp_zret, wp_vret, wp_aret, wp_gfi, wp_gfr, wp_pfi, wp_pfz, wp_ial, wp_ias, wp_aal, wp_gst, wp_sal, wp_min, wp_calV0, wp_calV1, wp_calS1, wp_calV2, wp_calS2, wp_calV3, wp_calS3, wp_calV4, wp_calS4, wp_calV5, wp_calS5, wp_acp, wp_i2l, wp_l2i, wp_lcon, wp_lbin, wp_ldiv, psh_s, psh_n, en, List.map_cons, List.map_nil, List.cons_append, List.nil_append, List.length_cons, List.length_nil, List.replicate_succ, List.replicate_zero, List.zipWith_cons_cons, List.zipWith_nil_left, List.zipWith_nil_right, if_true, if_false, Bool.false_eq_true, Nat.reduceAdd, Nat.reduceSub, Nat.reduceLeDiff, Nat.reduceEqDiff, Nat.reduceMul, true_and, and_true, Option.some.injEq, exists_eq_left', Nat.le_refl, Nat.zero_le, reduceIte, Nat.add_zero, Nat.zero_add, N_s]
    have e := rbA_next (C := S) (tg := fun _ => none) (i := i)
    rw [e] at r2
    exact ⟨r2, frN_tr hf f2⟩
  · rintro L M' ⟨rfl, h1, hf⟩
    have c0 : M' 6 1 = nI (paS S).1 := h1.2.2.2.1
    simp only [B_X8_replaceStyles_2, K_X8_replaceStyles_25, wp_con, wp_ild0, wp_ald0, wp_ist0, wp_inc0, wp_ild1, wp_ald1, wp_ist1n, wp_inc1n, wp_ist1i, wp_inc1i, wp_ist1r, wp_inc1r, wp_ild2, wp_ald2, wp_ist2n, wp_inc2n, wp_ist2i, wp_inc2i, wp_ist2r, wp_inc2r, wp_ild3, wp_ald3, wp_ist3n, wp_inc3n, wp_ist3i, wp_inc3i, wp_ist3r, wp_inc3r, wp_ild4, wp_ald4, wp_ist4n, wp_inc4n, wp_ist4i, wp_inc4i, wp_ist4r, wp_inc4r, wp_ild5, wp_ald5, wp_ist5n, wp_inc5n, wp_ist5i, wp_inc5i, wp_ist5r, wp_inc5r, wp_ild6, wp_ald6, wp_ist6n, wp_inc6n, wp_ist6i, wp_inc6i, wp_ist6r, wp_inc6r, wp_ild7, wp_ald7, wp_ist7n, wp_inc7n, wp_ist7i, wp_inc7i, wp_ist7r, wp_inc7r, wp_ild8, wp_ald8, wp_ist8n, wp_inc8n, wp_ist8i, wp_inc8i, wp_ist8r, wp_inc8r, wp_ild9, wp_ald9, wp_ist9n, wp_inc9n, wp_ist9i, wp_inc9i, wp_ist9r, wp_inc9r, wp_bin, wp_div, wp_dupi, wp_dupr, wp_dup2, wp_popi, wp_popr, wp_ifeq, wp_ifne, wp_iflt, wp_ifge, wp_ifgt, wp_ifle, wp_iceq, wp_icne, wp_iclt, wp_icge, wp_icgt, wp_icle, wp_jmp, wp_seq, sq_j, sq_r, lq_j, lq_r, eq_r, wp_kil, wp_ret, wp_zret, wp_vret, wp_aret, wp_gfi, wp_gfr, wp_pfi, wp_pfz, wp_ial, wp_ias, wp_aal, wp_gst, wp_sal, wp_min, wp_calV0, wp_calV1, wp_calS1, wp_calV2, wp_calS2, wp_calV3, wp_calS3, wp_calV4, wp_calS4, wp_calV5, wp_calS5, wp_acp, wp_i2l, wp_l2i, wp_lcon, wp_lbin, wp_ldiv, psh_s, psh_n, en, List.map_cons, List.map_nil, List.cons_append, List.nil_append, List.length_cons, List.length_nil, List.replicate_succ, List.replicate_zero, List.zipWith_cons_cons, List.zipWith_nil_left, List.zipWith_nil_right, if_true, if_false, Bool.false_eq_true, Nat.reduceAdd, Nat.reduceSub, Nat.reduceLeDiff, Nat.reduceEqDiff, Nat.reduceMul, true_and, and_true, Option.some.injEq, exists_eq_left', Nat.le_refl, Nat.zero_le, reduceIte, Nat.add_zero, Nat.zero_add, xF0, xF1, xF2, xF3, c0, N_le (show (paS S).1 < 2147483648 by omega) (show (paS S).1 < 2147483648 by omega)]
    refine ⟨fun _ => ?_, fun h => absurd trivial h⟩
    have f1 : frN M' (mset M' 3 1 0) := ⟨fun a ha => ms_a (by omega), ms_k (by decide), by rw [ms_a (by decide)]⟩
    have h2 : rS1 (mset M' 3 1 0) (setSt (rbA S (fun _ => none) (paS S).1) (0, (fun _ => none), fun _ _ => none)) := by
      obtain ⟨a1, a2, a3, a4⟩ := h1
      refine ⟨by rw [ms_a (by decide)]; exact a1, by rw [ms_a (by decide)]; exact a2, ⟨ms_eq _ _ _ _, fun j hj => absurd hj (Nat.not_lt_zero j)⟩, ?_⟩
      rw [ms_a (by decide), ms_a (by decide), ms_a (by decide)]; exact a4
    simp only [l_0] at h2 f1 ⊢
    refine wp_for n (fun i L M2 => L = [some (.ref 1), some (.ref 147), some (.int (nI i))] ∧ rS1 M2 (setSt (rbA S (fun _ => none) (paS S).1) (apps (0, (fun _ => none), fun _ _ => none) i)) ∧ frN M M2) ?_ ?_ 4000 0 _ _ (by omega) (by omega) ⟨rfl, h2, frN_tr hf f1⟩
    · rintro i L M2 hi ⟨rfl, h3, hf2⟩
      have d0 : M2 147 0 = nI n := by rw [hf2.1 147 (by decide)]; exact hF.1
      have d1 : M2 3 0 = nI 6 := by rw [hf2.2.1]; exact h30
      have en : (apps (0, (fun _ => none), fun _ _ => none) i).1 = i := by rw [apps_n]; omega
      have d2 : M2 3 1 = nI i := by have := h3.2.2.1.1; rw [show (stS (setSt (rbA S (fun _ => none) (paS S).1) (apps (0, (fun _ => none), fun _ _ => none) i))).1 = i from en] at this; exact this
      simp only [B_X8_replaceStyles_35, wp_con, wp_ild0, wp_ald0, wp_ist0, wp_inc0, wp_ild1, wp_ald1, wp_ist1n, wp_inc1n, wp_ist1i, wp_inc1i, wp_ist1r, wp_inc1r, wp_ild2, wp_ald2, wp_ist2n, wp_inc2n, wp_ist2i, wp_inc2i, wp_ist2r, wp_inc2r, wp_ild3, wp_ald3, wp_ist3n, wp_inc3n, wp_ist3i, wp_inc3i, wp_ist3r, wp_inc3r, wp_ild4, wp_ald4, wp_ist4n, wp_inc4n, wp_ist4i, wp_inc4i, wp_ist4r, wp_inc4r, wp_ild5, wp_ald5, wp_ist5n, wp_inc5n, wp_ist5i, wp_inc5i, wp_ist5r, wp_inc5r, wp_ild6, wp_ald6, wp_ist6n, wp_inc6n, wp_ist6i, wp_inc6i, wp_ist6r, wp_inc6r, wp_ild7, wp_ald7, wp_ist7n, wp_inc7n, wp_ist7i, wp_inc7i, wp_ist7r, wp_inc7r, wp_ild8, wp_ald8, wp_ist8n, wp_inc8n, wp_ist8i, wp_inc8i, wp_ist8r, wp_inc8r, wp_ild9, wp_ald9, wp_ist9n, wp_inc9n, wp_ist9i, wp_inc9i, wp_ist9r, wp_inc9r, wp_bin, wp_div, wp_dupi, wp_dupr, wp_dup2, wp_popi, wp_popr, wp_ifeq, wp_ifne, wp_iflt, wp_ifge, wp_ifgt, wp_ifle, wp_iceq, wp_icne, wp_iclt, wp_icge, wp_icgt, wp_icle, wp_jmp, wp_seq, sq_j, sq_r, lq_j, lq_r, eq_r, wp_kil, wp_ret, wp_zret, wp_vret, wp_aret, wp_gfi, wp_gfr, wp_pfi, wp_pfz, wp_ial, wp_ias, wp_aal, wp_gst, wp_sal, wp_min, wp_calV0, wp_calV1, wp_calS1, wp_calV2, wp_calS2, wp_calV3, wp_calS3, wp_calV4, wp_calS4, wp_calV5, wp_calS5, wp_acp, wp_i2l, wp_l2i, wp_lcon, wp_lbin, wp_ldiv, psh_s, psh_n, en, List.map_cons, List.map_nil, List.cons_append, List.nil_append, List.length_cons, List.length_nil, List.replicate_succ, List.replicate_zero, List.zipWith_cons_cons, List.zipWith_nil_left, List.zipWith_nil_right, if_true, if_false, Bool.false_eq_true, Nat.reduceAdd, Nat.reduceSub, Nat.reduceLeDiff, Nat.reduceEqDiff, Nat.reduceMul, true_and, and_true, Option.some.injEq, exists_eq_left', Nat.le_refl, Nat.zero_le, reduceIte, Nat.add_zero, Nat.zero_add, xF0, xF1, xF2, xF3, d0, N_le (show n < 2147483648 by omega) (show i < 2147483648 by omega), wpF_eq (v_hasRoom isR3 d1 d2 (by decide) (by omega)), bI, decide_eq_true (show i < 6 by omega)]
      refine ⟨fun h => absurd h (by omega), fun _ => ⟨fun h => absurd h (by decide), fun _ => ?_⟩⟩
      have ha := v_append isR3 (rS1_3 h3) (show (apps (0, (fun _ => none), fun _ _ => none) i).1 < 8 by omega)
      refine wpF_mono ha ?_
      rintro v G' M3 ⟨rfl, rfl, r2, f2⟩
      simp only [wp_con, wp_ild0, wp_ald0, wp_ist0, wp_inc0, wp_ild1, wp_ald1, wp_ist1n, wp_inc1n, wp_ist1i, wp_inc1i, wp_ist1r, wp_inc1r, wp_ild2, wp_ald2, wp_ist2n, wp_inc2n, wp_ist2i, wp_inc2i, wp_ist2r, wp_inc2r, wp_ild3, wp_ald3, wp_ist3n, wp_inc3n, wp_ist3i, wp_inc3i, wp_ist3r, wp_inc3r, wp_ild4, wp_ald4, wp_ist4n, wp_inc4n, wp_ist4i, wp_inc4i, wp_ist4r, wp_inc4r, wp_ild5, wp_ald5, wp_ist5n, wp_inc5n, wp_ist5i, wp_inc5i, wp_ist5r, wp_inc5r, wp_ild6, wp_ald6, wp_ist6n, wp_inc6n, wp_ist6i, wp_inc6i, wp_ist6r, wp_inc6r, wp_ild7, wp_ald7, wp_ist7n, wp_inc7n, wp_ist7i, wp_inc7i, wp_ist7r, wp_inc7r, wp_ild8, wp_ald8, wp_ist8n, wp_inc8n, wp_ist8i, wp_inc8i, wp_ist8r, wp_inc8r, wp_ild9, wp_ald9, wp_ist9n, wp_inc9n, wp_ist9i, wp_inc9i, wp_ist9r, wp_inc9r, wp_bin, wp_div, wp_dupi, wp_dupr, wp_dup2, wp_popi, wp_popr, wp_ifeq, wp_ifne, wp_iflt, wp_ifge, wp_ifgt, wp_ifle, wp_iceq, wp_icne, wp_iclt, wp_icge, wp_icgt, wp_icle, wp_jmp, wp_seq, sq_j, sq_r, lq_j, lq_r, eq_r, wp_kil, wp_ret, wp_zret, wp_vret, wp_aret, wp_gfi, wp_gfr, wp_pfi, wp_pfz, wp_ial, wp_ias, wp_aal, wp_gst, wp_sal, wp_min, wp_calV0, wp_calV1, wp_calS1, wp_calV2, wp_calS2, wp_calV3, wp_calS3, wp_calV4, wp_calS4, wp_calV5, wp_calS5, wp_acp, wp_i2l, wp_l2i, wp_lcon, wp_lbin, wp_ldiv, psh_s, psh_n, en, List.map_cons, List.map_nil, List.cons_append, List.nil_append, List.length_cons, List.length_nil, List.replicate_succ, List.replicate_zero, List.zipWith_cons_cons, List.zipWith_nil_left, List.zipWith_nil_right, if_true, if_false, Bool.false_eq_true, Nat.reduceAdd, Nat.reduceSub, Nat.reduceLeDiff, Nat.reduceEqDiff, Nat.reduceMul, true_and, and_true, Option.some.injEq, exists_eq_left', Nat.le_refl, Nat.zero_le, reduceIte, Nat.add_zero, Nat.zero_add, N_s]
      have := rS1_st h3 r2 f2
      exact ⟨this.1, frN_tr hf2 this.2⟩
    · rintro L M2 ⟨rfl, h3, hf2⟩
      have d0 : M2 147 0 = nI n := by rw [hf2.1 147 (by decide)]; exact hF.1
      have en : (apps (0, (fun _ => none), fun _ _ => none) n).1 = n := by rw [apps_n]; omega
      simp only [B_X8_replaceStyles_35, K_X8_replaceStyles_67, wp_con, wp_ild0, wp_ald0, wp_ist0, wp_inc0, wp_ild1, wp_ald1, wp_ist1n, wp_inc1n, wp_ist1i, wp_inc1i, wp_ist1r, wp_inc1r, wp_ild2, wp_ald2, wp_ist2n, wp_inc2n, wp_ist2i, wp_inc2i, wp_ist2r, wp_inc2r, wp_ild3, wp_ald3, wp_ist3n, wp_inc3n, wp_ist3i, wp_inc3i, wp_ist3r, wp_inc3r, wp_ild4, wp_ald4, wp_ist4n, wp_inc4n, wp_ist4i, wp_inc4i, wp_ist4r, wp_inc4r, wp_ild5, wp_ald5, wp_ist5n, wp_inc5n, wp_ist5i, wp_inc5i, wp_ist5r, wp_inc5r, wp_ild6, wp_ald6, wp_ist6n, wp_inc6n, wp_ist6i, wp_inc6i, wp_ist6r, wp_inc6r, wp_ild7, wp_ald7, wp_ist7n, wp_inc7n, wp_ist7i, wp_inc7i, wp_ist7r, wp_inc7r, wp_ild8, wp_ald8, wp_ist8n, wp_inc8n, wp_ist8i, wp_inc8i, wp_ist8r, wp_inc8r, wp_ild9, wp_ald9, wp_ist9n, wp_inc9n, wp_ist9i, wp_inc9i, wp_ist9r, wp_inc9r, wp_bin, wp_div, wp_dupi, wp_dupr, wp_dup2, wp_popi, wp_popr, wp_ifeq, wp_ifne, wp_iflt, wp_ifge, wp_ifgt, wp_ifle, wp_iceq, wp_icne, wp_iclt, wp_icge, wp_icgt, wp_icle, wp_jmp, wp_seq, sq_j, sq_r, lq_j, lq_r, eq_r, wp_kil, wp_ret, wp_zret, wp_vret, wp_aret, wp_gfi, wp_gfr, wp_pfi, wp_pfz, wp_ial, wp_ias, wp_aal, wp_gst, wp_sal, wp_min, wp_calV0, wp_calV1, wp_calS1, wp_calV2, wp_calS2, wp_calV3, wp_calS3, wp_calV4, wp_calS4, wp_calV5, wp_calS5, wp_acp, wp_i2l, wp_l2i, wp_lcon, wp_lbin, wp_ldiv, psh_s, psh_n, en, List.map_cons, List.map_nil, List.cons_append, List.nil_append, List.length_cons, List.length_nil, List.replicate_succ, List.replicate_zero, List.zipWith_cons_cons, List.zipWith_nil_left, List.zipWith_nil_right, if_true, if_false, Bool.false_eq_true, Nat.reduceAdd, Nat.reduceSub, Nat.reduceLeDiff, Nat.reduceEqDiff, Nat.reduceMul, true_and, and_true, Option.some.injEq, exists_eq_left', Nat.le_refl, Nat.zero_le, reduceIte, Nat.add_zero, Nat.zero_add, xF0, xF1, xF2, xF3, d0, N_le (show n < 2147483648 by omega) (show n < 2147483648 by omega)]
      refine ⟨fun _ => ?_, fun h => absurd trivial h⟩
      have hF2 : rFo M2 n lk (lkS S none) := by
        unfold rFo
        rw [hf2.1 147 (by decide), hf2.1 148 (by decide)]
        exact hF
      refine wpF_mono (v_layStyles h3 (by omega) en hF2 hl (lkS_ok h sOK_n).1 (fun i hi => by rw [hf2.1 149 (by decide)]; exact hp i hi) hpv) ?_
      rintro v G' M3 ⟨rfl, rfl, r3, f3⟩
      have r4 : rS1 M3 (rpC S n lk (lkS S none) pr) := rwLay_cong (S := rbA S (fun _ => none) (paS S).1) en r3
      simp only [wp_con, wp_ild0, wp_ald0, wp_ist0, wp_inc0, wp_ild1, wp_ald1, wp_ist1n, wp_inc1n, wp_ist1i, wp_inc1i, wp_ist1r, wp_inc1r, wp_ild2, wp_ald2, wp_ist2n, wp_inc2n, wp_ist2i, wp_inc2i, wp_ist2r, wp_inc2r, wp_ild3, wp_ald3, wp_ist3n, wp_inc3n, wp_ist3i, wp_inc3i, wp_ist3r, wp_inc3r, wp_ild4, wp_ald4, wp_ist4n, wp_inc4n, wp_ist4i, wp_inc4i, wp_ist4r, wp_inc4r, wp_ild5, wp_ald5, wp_ist5n, wp_inc5n, wp_ist5i, wp_inc5i, wp_ist5r, wp_inc5r, wp_ild6, wp_ald6, wp_ist6n, wp_inc6n, wp_ist6i, wp_inc6i, wp_ist6r, wp_inc6r, wp_ild7, wp_ald7, wp_ist7n, wp_inc7n, wp_ist7i, wp_inc7i, wp_ist7r, wp_inc7r, wp_ild8, wp_ald8, wp_ist8n, wp_inc8n, wp_ist8i, wp_inc8i, wp_ist8r, wp_inc8r, wp_ild9, wp_ald9, wp_ist9n, wp_inc9n, wp_ist9i, wp_inc9i, wp_ist9r, wp_inc9r, wp_bin, wp_div, wp_dupi, wp_dupr, wp_dup2, wp_popi, wp_popr, wp_ifeq, wp_ifne, wp_iflt, wp_ifge, wp_ifgt, wp_ifle, wp_iceq, wp_icne, wp_iclt, wp_icge, wp_icgt, wp_icle, wp_jmp, wp_seq, sq_j, sq_r, lq_j, lq_r, eq_r, wp_kil, wp_ret, wp_zret, wp_vret, wp_aret, wp_gfi, wp_gfr, wp_pfi, wp_pfz, wp_ial, wp_ias, wp_aal, wp_gst, wp_sal, wp_min, wp_calV0, wp_calV1, wp_calS1, wp_calV2, wp_calS2, wp_calV3, wp_calS3, wp_calV4, wp_calS4, wp_calV5, wp_calS5, wp_acp, wp_i2l, wp_l2i, wp_lcon, wp_lbin, wp_ldiv, psh_s, psh_n, en, List.map_cons, List.map_nil, List.cons_append, List.nil_append, List.length_cons, List.length_nil, List.replicate_succ, List.replicate_zero, List.zipWith_cons_cons, List.zipWith_nil_left, List.zipWith_nil_right, if_true, if_false, Bool.false_eq_true, Nat.reduceAdd, Nat.reduceSub, Nat.reduceLeDiff, Nat.reduceEqDiff, Nat.reduceMul, true_and, and_true, Option.some.injEq, exists_eq_left', Nat.le_refl, Nat.zero_le, reduceIte, Nat.add_zero, Nat.zero_add]
      have hm := frN_tr hf2 f3
      refine wp_for (paS S).1 (fun i L M' => L = [some (.ref 1), none, some (.int (nI i))] ∧ rS1 M' (rbA (rpC S n lk (lkS S none) pr) (fun x => nea (rpC S n lk (lkS S none) pr) (lkP (rpC S n lk (lkS S none) pr) x) n) i) ∧ frN M M') ?_ ?_ 4000 0 _ _ (by omega) (by omega) ⟨rfl, by rw [rbA_0]; exact r4, hm⟩
      · rintro i L M' hi ⟨rfl, h1, hf⟩
        have c0 : M' 6 1 = nI (paS S).1 := h1.2.2.2.1
        obtain ⟨o1, o2⟩ := rbA_ok oC1 (tg := fun x => nea (rpC S n lk (lkS S none) pr) (lkP (rpC S n lk (lkS S none) pr) x) n) (fun _ _ => nea_ok n (Nat.le_refl _)) i (show i ≤ (paS S).1 by omega)
        have e1 := v_paragraphLook h1 o1 (p := i) hi
        have hlk := lkP_ok oC1 (p := i) hi
        rw [lkP_at (Nat.le_refl i)] at e1
        have e2 := v_nearestStyle h1 o1 hlk.1 (fun k hk => by rw [hlk.2 k hk]; exact vpa_ok oC1 (p := i) hi hk)
        rw [show nea (rbA (rpC S n lk (lkS S none) pr) (fun x => nea (rpC S n lk (lkS S none) pr) (lkP (rpC S n lk (lkS S none) pr) x) n) i) (lkP (rpC S n lk (lkS S none) pr) i) (stS (rbA (rpC S n lk (lkS S none) pr) (fun x => nea (rpC S n lk (lkS S none) pr) (lkP (rpC S n lk (lkS S none) pr) x) n) i)).1 = nea (rpC S n lk (lkS S none) pr) (lkP (rpC S n lk (lkS S none) pr) i) n from nea_cong n (fun o => lkS_pa)] at e2
        simp only [B_X8_replaceStyles_74, wp_con, wp_ild0, wp_ald0, wp_ist0, wp_inc0, wp_ild1, wp_ald1, wp_ist1n, wp_inc1n, wp_ist1i, wp_inc1i, wp_ist1r, wp_inc1r, wp_ild2, wp_ald2, wp_ist2n, wp_inc2n, wp_ist2i, wp_inc2i, wp_ist2r, wp_inc2r, wp_ild3, wp_ald3, wp_ist3n, wp_inc3n, wp_ist3i, wp_inc3i, wp_ist3r, wp_inc3r, wp_ild4, wp_ald4, wp_ist4n, wp_inc4n, wp_ist4i, wp_inc4i, wp_ist4r, wp_inc4r, wp_ild5, wp_ald5, wp_ist5n, wp_inc5n, wp_ist5i, wp_inc5i, wp_ist5r, wp_inc5r, wp_ild6, wp_ald6, wp_ist6n, wp_inc6n, wp_ist6i, wp_inc6i, wp_ist6r, wp_inc6r, wp_ild7, wp_ald7, wp_ist7n, wp_inc7n, wp_ist7i, wp_inc7i, wp_ist7r, wp_inc7r, wp_ild8, wp_ald8, wp_ist8n, wp_inc8n, wp_ist8i, wp_inc8i, wp_ist8r, wp_inc8r, wp_ild9, wp_ald9, wp_ist9n, wp_inc9n, wp_ist9i, wp_inc9i, wp_ist9r, wp_inc9r, wp_bin, wp_div, wp_dupi, wp_dupr, wp_dup2, wp_popi, wp_popr, wp_ifeq, wp_ifne, wp_iflt, wp_ifge, wp_ifgt, wp_ifle, wp_iceq, wp_icne, wp_iclt, wp_icge, wp_icgt, wp_icle, wp_jmp, wp_seq, sq_j, sq_r, lq_j, lq_r, eq_r, wp_kil, wp_ret, wp_zret, wp_vret, wp_aret, wp_gfi, wp_gfr, wp_pfi, wp_pfz, wp_ial, wp_ias, wp_aal, wp_gst, wp_sal, wp_min, wp_calV0, wp_calV1, wp_calS1, wp_calV2, wp_calS2, wp_calV3, wp_calS3, wp_calV4, wp_calS4, wp_calV5, wp_calS5, wp_acp, wp_i2l, wp_l2i, wp_lcon, wp_lbin, wp_ldiv, psh_s, psh_n, en, List.map_cons, List.map_nil, List.cons_append, List.nil_append, List.length_cons, List.length_nil, List.replicate_succ, List.replicate_zero, List.zipWith_cons_cons, List.zipWith_nil_left, List.zipWith_nil_right, if_true, if_false, Bool.false_eq_true, Nat.reduceAdd, Nat.reduceSub, Nat.reduceLeDiff, Nat.reduceEqDiff, Nat.reduceMul, true_and, and_true, Option.some.injEq, exists_eq_left', Nat.le_refl, Nat.zero_le, reduceIte, Nat.add_zero, Nat.zero_add, xF0, xF1, xF2, xF3, c0, N_le (show (paS S).1 < 2147483648 by omega) (show i < 2147483648 by omega), wpF_eq e1, wpF_eq e2]
        refine ⟨fun h => absurd h (by omega), fun _ => ?_⟩
        refine wpF_mono (v_rebaseParagraph h1 o1 (p := i) hi (t := nea (rpC S n lk (lkS S none) pr) (lkP (rpC S n lk (lkS S none) pr) i) n) (nea_ok (S := rpC S n lk (lkS S none) pr) n (Nat.le_refl _))) ?_
        rintro v G' M2 ⟨rfl, rfl, r2, f2⟩
        simp only [wp_con, wp_ild0, wp_ald0, wp_ist0, wp_inc0, wp_ild1, wp_ald1, wp_ist1n, wp_inc1n, wp_ist1i, wp_inc1i, wp_ist1r, wp_inc1r, wp_ild2, wp_ald2, wp_ist2n, wp_inc2n, wp_ist2i, wp_inc2i, wp_ist2r, wp_inc2r, wp_ild3, wp_ald3, wp_ist3n, wp_inc3n, wp_ist3i, wp_inc3i, wp_ist3r, wp_inc3r, wp_ild4, wp_ald4, wp_ist4n, wp_inc4n, wp_ist4i, wp_inc4i, wp_ist4r, wp_inc4r, wp_ild5, wp_ald5, wp_ist5n, wp_inc5n, wp_ist5i, wp_inc5i, wp_ist5r, wp_inc5r, wp_ild6, wp_ald6, wp_ist6n, wp_inc6n, wp_ist6i, wp_inc6i, wp_ist6r, wp_inc6r, wp_ild7, wp_ald7, wp_ist7n, wp_inc7n, wp_ist7i, wp_inc7i, wp_ist7r, wp_inc7r, wp_ild8, wp_ald8, wp_ist8n, wp_inc8n, wp_ist8i, wp_inc8i, wp_ist8r, wp_inc8r, wp_ild9, wp_ald9, wp_ist9n, wp_inc9n, wp_ist9i, wp_inc9i, wp_ist9r, wp_inc9r, wp_bin, wp_div, wp_dupi, wp_dupr, wp_dup2, wp_popi, wp_popr, wp_ifeq, wp_ifne, wp_iflt, wp_ifge, wp_ifgt, wp_ifle, wp_iceq, wp_icne, wp_iclt, wp_icge, wp_icgt, wp_icle, wp_jmp, wp_seq, sq_j, sq_r, lq_j, lq_r, eq_r, wp_kil, wp_ret, wp_zret, wp_vret, wp_aret, wp_gfi, wp_gfr, wp_pfi, wp_pfz, wp_ial, wp_ias, wp_aal, wp_gst, wp_sal, wp_min, wp_calV0, wp_calV1, wp_calS1, wp_calV2, wp_calS2, wp_calV3, wp_calS3, wp_calV4, wp_calS4, wp_calV5, wp_calS5, wp_acp, wp_i2l, wp_l2i, wp_lcon, wp_lbin, wp_ldiv, psh_s, psh_n, en, List.map_cons, List.map_nil, List.cons_append, List.nil_append, List.length_cons, List.length_nil, List.replicate_succ, List.replicate_zero, List.zipWith_cons_cons, List.zipWith_nil_left, List.zipWith_nil_right, if_true, if_false, Bool.false_eq_true, Nat.reduceAdd, Nat.reduceSub, Nat.reduceLeDiff, Nat.reduceEqDiff, Nat.reduceMul, true_and, and_true, Option.some.injEq, exists_eq_left', Nat.le_refl, Nat.zero_le, reduceIte, Nat.add_zero, Nat.zero_add, N_s]
        have e := rbA_next (C := rpC S n lk (lkS S none) pr) (tg := fun x => nea (rpC S n lk (lkS S none) pr) (lkP (rpC S n lk (lkS S none) pr) x) n) (i := i)
        rw [e] at r2
        exact ⟨r2, frN_tr hf f2⟩
      · rintro L M' ⟨rfl, h1, hf⟩
        have c0 : M' 6 1 = nI (paS S).1 := h1.2.2.2.1
        simp only [B_X8_replaceStyles_74, K_X8_replaceStyles_105, wp_con, wp_ild0, wp_ald0, wp_ist0, wp_inc0, wp_ild1, wp_ald1, wp_ist1n, wp_inc1n, wp_ist1i, wp_inc1i, wp_ist1r, wp_inc1r, wp_ild2, wp_ald2, wp_ist2n, wp_inc2n, wp_ist2i, wp_inc2i, wp_ist2r, wp_inc2r, wp_ild3, wp_ald3, wp_ist3n, wp_inc3n, wp_ist3i, wp_inc3i, wp_ist3r, wp_inc3r, wp_ild4, wp_ald4, wp_ist4n, wp_inc4n, wp_ist4i, wp_inc4i, wp_ist4r, wp_inc4r, wp_ild5, wp_ald5, wp_ist5n, wp_inc5n, wp_ist5i, wp_inc5i, wp_ist5r, wp_inc5r, wp_ild6, wp_ald6, wp_ist6n, wp_inc6n, wp_ist6i, wp_inc6i, wp_ist6r, wp_inc6r, wp_ild7, wp_ald7, wp_ist7n, wp_inc7n, wp_ist7i, wp_inc7i, wp_ist7r, wp_inc7r, wp_ild8, wp_ald8, wp_ist8n, wp_inc8n, wp_ist8i, wp_inc8i, wp_ist8r, wp_inc8r, wp_ild9, wp_ald9, wp_ist9n, wp_inc9n, wp_ist9i, wp_inc9i, wp_ist9r, wp_inc9r, wp_bin, wp_div, wp_dupi, wp_dupr, wp_dup2, wp_popi, wp_popr, wp_ifeq, wp_ifne, wp_iflt, wp_ifge, wp_ifgt, wp_ifle, wp_iceq, wp_icne, wp_iclt, wp_icge, wp_icgt, wp_icle, wp_jmp, wp_seq, sq_j, sq_r, lq_j, lq_r, eq_r, wp_kil, wp_ret, wp_zret, wp_vret, wp_aret, wp_gfi, wp_gfr, wp_pfi, wp_pfz, wp_ial, wp_ias, wp_aal, wp_gst, wp_sal, wp_min, wp_calV0, wp_calV1, wp_calS1, wp_calV2, wp_calS2, wp_calV3, wp_calS3, wp_calV4, wp_calS4, wp_calV5, wp_calS5, wp_acp, wp_i2l, wp_l2i, wp_lcon, wp_lbin, wp_ldiv, psh_s, psh_n, en, List.map_cons, List.map_nil, List.cons_append, List.nil_append, List.length_cons, List.length_nil, List.replicate_succ, List.replicate_zero, List.zipWith_cons_cons, List.zipWith_nil_left, List.zipWith_nil_right, if_true, if_false, Bool.false_eq_true, Nat.reduceAdd, Nat.reduceSub, Nat.reduceLeDiff, Nat.reduceEqDiff, Nat.reduceMul, true_and, and_true, Option.some.injEq, exists_eq_left', Nat.le_refl, Nat.zero_le, reduceIte, Nat.add_zero, Nat.zero_add, xF0, xF1, xF2, xF3, c0, N_le (show (paS S).1 < 2147483648 by omega) (show (paS S).1 < 2147483648 by omega)]
        exact ⟨fun _ => ⟨h1, hf⟩, fun h => absurd trivial h⟩
