-- the whole state: what the calls of both sides speak of
def vZ : Type := vS × Nat × (Nat → vS) × (Nat → Option (vS × Nat)) × Nat × (Nat → Nat × Nat × Int32) × Nat
def zM (S : vS) (h : Nat) (H : Nat → vS) (I : Nat → Option (vS × Nat)) (c : Nat) (E : Nat → Nat × Nat × Int32) (r : Nat) : vZ := (S, h, H, I, c, E, r)
def vZ.S (Z : vZ) : vS := Prod.fst Z
def vZ.h (Z : vZ) : Nat := Prod.fst (Prod.snd Z)
def vZ.H (Z : vZ) : Nat → vS := Prod.fst (Prod.snd (Prod.snd Z))
def vZ.I (Z : vZ) : Nat → Option (vS × Nat) := Prod.fst (Prod.snd (Prod.snd (Prod.snd Z)))
def vZ.c (Z : vZ) : Nat := Prod.fst (Prod.snd (Prod.snd (Prod.snd (Prod.snd Z))))
def vZ.E (Z : vZ) : Nat → Nat × Nat × Int32 := Prod.fst (Prod.snd (Prod.snd (Prod.snd (Prod.snd (Prod.snd Z)))))
def vZ.r (Z : vZ) : Nat := Prod.snd (Prod.snd (Prod.snd (Prod.snd (Prod.snd (Prod.snd Z)))))
def zOK (Z : vZ) : Prop := vOK Z.S ∧ Z.h ≤ 16 ∧ (∀ i, i < Z.h → vOK (Z.H i)) ∧ (∀ i, i < 2 → ∀ x, Z.I i = some x → vOK x.1 ∧ x.2 < 2147483648) ∧ Z.c ≤ 20 ∧ (∀ j, j < Z.c → (Z.E j).1 < 8 ∧ (Z.E j).2.1 < 6) ∧ Z.r < 2147483648
def zS (Z : vZ) (S : vS) : vZ := zM S Z.h Z.H Z.I Z.c Z.E Z.r
def zR (Z : vZ) : vZ := zM Z.S (min (Z.h + 1) 16) (fun i => if i = 0 then Z.S else Z.H (i - 1)) Z.I Z.c Z.E Z.r
theorem zS_ok {Z : vZ} (h : zOK Z) {S : vS} (hS : vOK S) : zOK (zS Z S) := ⟨hS, h.2⟩
theorem zR_ok {Z : vZ} (h : zOK Z) : zOK (zR Z) := by
  refine ⟨h.1, Nat.min_le_right _ _, fun i hi => ?_, h.2.2.2⟩
  show vOK (if i = 0 then Z.S else Z.H (i - 1))
  split
  · exact h.1
  · next e =>
    have : i < min (Z.h + 1) 16 := hi
    exact h.2.2.1 (i - 1) (by omega)
def cH (M : vM) (h : Nat) (H : Nat → vS) : Prop := M 9 0 = nI h ∧ ∃ nx, nx < 16 ∧ M 9 1 = nI nx ∧ ∀ i, i < h → rSh M (11 + 8 * ((nx + 15 - i) % 16)) (H i)
def cI (M : vM) (I : Nat → Option (vS × Nat)) : Prop := ∀ i, i < 2 → match I i with
  | none => M (172 + 9 * i) 0 = 0
  | some x => M (172 + 9 * i) 0 = 1 ∧ M (172 + 9 * i) 1 = nI x.2 ∧ rSh M (173 + 9 * i) x.1
def cB (M : vM) (c : Nat) (E : Nat → Nat × Nat × Int32) : Prop := M 139 0 = nI c ∧ ∀ j, j < c → M 140 j = nI (E j).1 ∧ M 141 j = nI (E j).2.1 ∧ M 142 j = (E j).2.2
def rC (M : vM) (Z : vZ) : Prop := rS1 M Z.S ∧ (M 3 0 = nI 6 ∧ M 6 0 = nI 8) ∧ cH M Z.h Z.H ∧ cI M Z.I ∧ cB M Z.c Z.E ∧ M 0 7 = nI Z.r
def frX (M M' : vM) : Prop := ∀ a, 190 ≤ a → M' a = M a
theorem rSh_fr {M M' : vM} {t : Nat} {S : vS} (h : rSh M t S) (hf : ∀ a, t ≤ a → a ≤ t + 7 → M' a = M a) : rSh M' t S := by
  obtain ⟨h1, h2, ⟨h3, h4⟩, h5, h6⟩ := h
  refine ⟨by rw [hf t (by omega) (by omega)]; exact h1, fun k hk => by rw [hf (t + 1) (by omega) (by omega)]; exact h2 k hk, ⟨by rw [hf (t + 2) (by omega) (by omega)]; exact h3, fun j hj => ?_⟩, by rw [hf (t + 5) (by omega) (by omega)]; exact h5, fun j hj => ?_⟩
  · rw [hf (t + 2 + 1) (by omega) (by omega), hf (t + 2 + 2) (by omega) (by omega)]; exact h4 j hj
  · rw [hf (t + 5 + 1) (by omega) (by omega), hf (t + 5 + 2) (by omega) (by omega)]; exact h6 j hj
theorem cH_fr {M M' : vM} {h : Nat} {H : Nat → vS} (hh : cH M h H) (hf : ∀ a, 9 ≤ a → a ≤ 138 → M' a = M a) : cH M' h H := by
  obtain ⟨h1, nx, h2, h3, h4⟩ := hh
  refine ⟨by rw [hf 9 (by decide) (by decide)]; exact h1, nx, h2, by rw [hf 9 (by decide) (by decide)]; exact h3, fun i hi => ?_⟩
  have : (nx + 15 - i) % 16 < 16 := Nat.mod_lt _ (by decide)
  exact rSh_fr (h4 i hi) (fun a a1 a2 => hf a (by omega) (by omega))
theorem cI_fr {M M' : vM} {I : Nat → Option (vS × Nat)} (hh : cI M I) (hf : ∀ a, 172 ≤ a → a ≤ 189 → M' a = M a) : cI M' I := by
  intro i hi
  have := hh i hi
  revert this
  cases I i with
  | none => intro g; show M' (172 + 9 * i) 0 = 0; rw [hf _ (by omega) (by omega)]; exact g
  | some x =>
    rintro ⟨g1, g2, g3⟩
    show M' (172 + 9 * i) 0 = 1 ∧ M' (172 + 9 * i) 1 = nI x.2 ∧ rSh M' (173 + 9 * i) x.1
    rw [hf (172 + 9 * i) (by omega) (by omega)]
    exact ⟨g1, g2, rSh_fr g3 (fun a a1 a2 => hf a (by omega) (by omega))⟩
theorem cB_fr {M M' : vM} {c : Nat} {E : Nat → Nat × Nat × Int32} (hh : cB M c E) (hf : ∀ a, 139 ≤ a → a ≤ 142 → M' a = M a) : cB M' c E := by
  unfold cB
  rw [hf 139 (by decide) (by decide), hf 140 (by decide) (by decide), hf 141 (by decide) (by decide), hf 142 (by decide) (by decide)]
  exact hh
/-- a look changes the helpers only -/
theorem rC_fr {M M' : vM} {Z : vZ} (h : rC M Z) (hf : ∀ a, a < 144 ∨ 171 < a → M' a = M a) : rC M' Z := by
  obtain ⟨h1, ⟨h2, h2'⟩, h3, h4, h5, h6⟩ := h
  refine ⟨rS1_fr h1 (fun a ha => hf a (by omega)), ⟨by rw [hf 3 (by decide)]; exact h2, by rw [hf 6 (by decide)]; exact h2'⟩, cH_fr h3 (fun a a1 a2 => hf a (by omega)), cI_fr h4 (fun a a1 a2 => hf a (by omega)), cB_fr h5 (fun a a1 a2 => hf a (by omega)), by rw [hf 0 (by decide)]; exact h6⟩
/-- a deed changes the sheet now -/
theorem rC_now {M M' : vM} {Z : vZ} (h : rC M Z) {S : vS} (hS : rS1 M' S) (hf : frN M M') : rC M' (zS Z S) := by
  obtain ⟨h1, ⟨h2, h2'⟩, h3, h4, h5, h6⟩ := h
  refine ⟨hS, ⟨by rw [hf.2.1]; exact h2, by rw [hf.2.2]; exact h2'⟩, cH_fr h3 (fun a a1 a2 => hf.1 a (by omega)), cI_fr h4 (fun a a1 a2 => hf.1 a (by omega)), cB_fr h5 (fun a a1 a2 => hf.1 a (by omega)), by rw [hf.1 0 (by decide)]; exact h6⟩
-- history
theorem isShH : ∀ i, i < 16 → isSh (11 + 8 * i) ∧ gR gA 10 i = some (11 + 8 * i) := by unfold isSh isR; decide +kernel
theorem isSh1 : isSh 1 := by unfold isSh isR; decide +kernel
theorem N_rem16 : ∀ n, n < 64 → f_rem (nI n) (nI 16) = nI (n % 16) := by decide +kernel
theorem v_remember {M : vM} {Z : vZ} (hC : rC M Z) (h : zOK Z) : wpF F_X3_remember [.ref 9, .ref 1] gA M (fun v G' M' => G' = gA ∧ v = none ∧ rC M' (zR Z) ∧ ∀ a, a < 9 ∨ 138 < a → M' a = M a) := by
  obtain ⟨h1, ⟨h2, h2'⟩, ⟨h3, nx, h4, h5, h6⟩, h7, h8, h9⟩ := hC
  obtain ⟨s1, s2⟩ := isShH nx h4
  have hh := h.2.1
  refine run_wp ⟨Nat.le_of_ble_eq_true rfl, rfl⟩ ?_
  simp only [D_X3_remember, wp_con, wp_ild0, wp_ald0, wp_ist0, wp_inc0, wp_ild1, wp_ald1, wp_ist1n, wp_inc1n, wp_ist1i, wp_inc1i, wp_ist1r, wp_inc1r, wp_ild2, wp_ald2, wp_ist2n, wp_inc2n, wp_ist2i, wp_inc2i, wp_ist2r, wp_inc2r, wp_ild3, wp_ald3, wp_ist3n, wp_inc3n, wp_ist3i, wp_inc3i, wp_ist3r, wp_inc3r, wp_ild4, wp_ald4, wp_ist4n, wp_inc4n, wp_ist4i, wp_inc4i, wp_ist4r, wp_inc4r, wp_ild5, wp_ald5, wp_ist5n, wp_inc5n, wp_ist5i, wp_inc5i, wp_ist5r, wp_inc5r, wp_ild6, wp_ald6, wp_ist6n, wp_inc6n, wp_ist6i, wp_inc6i, wp_ist6r, wp_inc6r, wp_ild7, wp_ald7, wp_ist7n, wp_inc7n, wp_ist7i, wp_inc7i, wp_ist7r, wp_inc7r, wp_ild8, wp_ald8, wp_ist8n, wp_inc8n, wp_ist8i, wp_inc8i, wp_ist8r, wp_inc8r, wp_ild9, wp_ald9, wp_ist9n, wp_inc9n, wp_ist9i, wp_inc9i, wp_ist9r, wp_inc9r, wp_bin, wp_div, wp_dupi, wp_dupr, wp_dup2, wp_popi, wp_popr, wp_ifeq, wp_ifne, wp_iflt, wp_ifge, wp_ifgt, wp_ifle, wp_iceq, wp_icne, wp_iclt, wp_icge, wp_icgt, wp_icle, wp_jmp, wp_seq, sq_j, sq_r, lq_j, lq_r, eq_r, wp_kil, wp_ret, wp_zret, wp_vret, wp_aret, wp_gfi, wp_gfr, wp_pfi, wp_pfz, wp_ial, wp_ias, wp_aal, wp_gst, wp_sal, wp_min, wp_calV0, wp_calV1, wp_calS1, wp_calV2, wp_calS2, wp_calV3, wp_calS3, wp_calV4, wp_calS4, wp_calV5, wp_calS5, wp_acp, wp_i2l, wp_l2i, wp_lcon, wp_lbin, wp_ldiv, psh_s, psh_n, en, List.map_cons, List.map_nil, List.cons_append, List.nil_append, List.length_cons, List.length_nil, List.replicate_succ, List.replicate_zero, List.zipWith_cons_cons, List.zipWith_nil_left, List.zipWith_nil_right, if_true, if_false, Bool.false_eq_true, Nat.reduceAdd, Nat.reduceSub, Nat.reduceLeDiff, Nat.reduceEqDiff, Nat.reduceMul, true_and, and_true, Option.some.injEq, exists_eq_left', Nat.le_refl, Nat.zero_le, reduceIte, Nat.add_zero, Nat.zero_add, xF0, xF1, xF2, xF3, h5, N_cl (show nx < 2147483648 by omega), N_in (show nx < 16 by omega) (by decide), s2, s1.1]
  refine wpF_mono (v_copySheet s1 isSh1 (by omega) (rS1_to h1) (by have := ns_le h.1; omega) (np_le h.1)) ?_
  rintro v G' M2 ⟨rfl, rfl, r2, f2⟩
  have e9 : M2 9 = M 9 := f2.1 9 (by omega)
  have n16 : ¬ (nI 16 : Int32) = 0 := by decide
  simp only [wp_con, wp_ild0, wp_ald0, wp_ist0, wp_inc0, wp_ild1, wp_ald1, wp_ist1n, wp_inc1n, wp_ist1i, wp_inc1i, wp_ist1r, wp_inc1r, wp_ild2, wp_ald2, wp_ist2n, wp_inc2n, wp_ist2i, wp_inc2i, wp_ist2r, wp_inc2r, wp_ild3, wp_ald3, wp_ist3n, wp_inc3n, wp_ist3i, wp_inc3i, wp_ist3r, wp_inc3r, wp_ild4, wp_ald4, wp_ist4n, wp_inc4n, wp_ist4i, wp_inc4i, wp_ist4r, wp_inc4r, wp_ild5, wp_ald5, wp_ist5n, wp_inc5n, wp_ist5i, wp_inc5i, wp_ist5r, wp_inc5r, wp_ild6, wp_ald6, wp_ist6n, wp_inc6n, wp_ist6i, wp_inc6i, wp_ist6r, wp_inc6r, wp_ild7, wp_ald7, wp_ist7n, wp_inc7n, wp_ist7i, wp_inc7i, wp_ist7r, wp_inc7r, wp_ild8, wp_ald8, wp_ist8n, wp_inc8n, wp_ist8i, wp_inc8i, wp_ist8r, wp_inc8r, wp_ild9, wp_ald9, wp_ist9n, wp_inc9n, wp_ist9i, wp_inc9i, wp_ist9r, wp_inc9r, wp_bin, wp_div, wp_dupi, wp_dupr, wp_dup2, wp_popi, wp_popr, wp_ifeq, wp_ifne, wp_iflt, wp_ifge, wp_ifgt, wp_ifle, wp_iceq, wp_icne, wp_iclt, wp_icge, wp_icgt, wp_icle, wp_jmp, wp_seq, sq_j, sq_r, lq_j, lq_r, eq_r, wp_kil, wp_ret, wp_zret, wp_vret, wp_aret, wp_gfi, wp_gfr, wp_pfi, wp_pfz, wp_ial, wp_ias, wp_aal, wp_gst, wp_sal, wp_min, wp_calV0, wp_calV1, wp_calS1, wp_calV2, wp_calS2, wp_calV3, wp_calS3, wp_calV4, wp_calS4, wp_calV5, wp_calS5, wp_acp, wp_i2l, wp_l2i, wp_lcon, wp_lbin, wp_ldiv, psh_s, psh_n, en, List.map_cons, List.map_nil, List.cons_append, List.nil_append, List.length_cons, List.length_nil, List.replicate_succ, List.replicate_zero, List.zipWith_cons_cons, List.zipWith_nil_left, List.zipWith_nil_right, if_true, if_false, Bool.false_eq_true, Nat.reduceAdd, Nat.reduceSub, Nat.reduceLeDiff, Nat.reduceEqDiff, Nat.reduceMul, true_and, and_true, Option.some.injEq, exists_eq_left', Nat.le_refl, Nat.zero_le, reduceIte, Nat.add_zero, Nat.zero_add, xF0, xF1, xF2, xF3, e9, h5, f_add, N_s, l_16, n16, N_rem16 (nx + 1) (by omega), h3, ms_k (show (0 : Nat) ≠ 1 by decide), N_min (show Z.h + 1 < 2147483648 by omega) (show 16 < 2147483648 by omega)]
  refine ⟨by decide, ⟨?_, ⟨?_, ?_⟩, ⟨?_, (nx + 1) % 16, Nat.mod_lt _ (by decide), ?_, ?_⟩, ?_, ?_, ?_⟩, ?_⟩
  · refine rS1_fr h1 (fun a ha => ?_)
    rw [ms_a (by omega), ms_a (by omega), f2.1 a (by omega)]
  · rw [ms_a (by omega), ms_a (by omega), f2.1 3 (by omega)]; exact h2
  · rw [ms_a (by omega), ms_a (by omega), f2.1 6 (by omega)]; exact h2'
  · rw [ms_eq]; rfl
  · rw [ms_k (by decide), ms_eq]
  · intro i hi
    have hi : i < min (Z.h + 1) 16 := hi
    have h16 : ((nx + 1) % 16 + 15 - i) % 16 < 16 := Nat.mod_lt _ (by decide)
    refine rSh_fr (M := M2) ?_ (fun a a1 a2 => by rw [ms_a (by omega), ms_a (by omega)])
    show rSh M2 _ (if i = 0 then Z.S else Z.H (i - 1))
    by_cases e : i = 0
    · rw [if_pos e, show ((nx + 1) % 16 + 15 - i) % 16 = nx by omega]
      exact r2
    · rw [if_neg e, show ((nx + 1) % 16 + 15 - i) % 16 = (nx + 15 - (i - 1)) % 16 by omega]
      refine rSh_fr (h6 (i - 1) (by omega)) (fun a a1 a2 => f2.1 a (by omega))
  · refine cI_fr h7 (fun a a1 a2 => ?_)
    rw [ms_a (by omega), ms_a (by omega), f2.1 a (by omega)]
  · refine cB_fr h8 (fun a a1 a2 => ?_)
    rw [ms_a (by omega), ms_a (by omega), f2.1 a (by omega)]
  · rw [ms_a (by omega), ms_a (by omega), f2.1 0 (by omega)]; exact h9
  · intro a ha
    rw [ms_a (by omega), ms_a (by omega), f2.1 a (by omega)]
def zU (Z : vZ) (n : Nat) : vZ := zM (Z.H (n - 1)) (Z.h - n) (fun i => Z.H (i + n)) Z.I Z.c Z.E Z.r
theorem zU_ok {Z : vZ} (h : zOK Z) {n : Nat} (h1 : 1 ≤ n) (hn : n ≤ Z.h) : zOK (zU Z n) := by
  refine ⟨h.2.2.1 (n - 1) (by omega), ?_, fun i hi => ?_, h.2.2.2⟩
  · show Z.h - n ≤ 16
    have := h.2.1; omega
  · have hi : i < Z.h - n := hi
    exact h.2.2.1 (i + n) (by omega)
theorem v_restore {M : vM} {Z : vZ} (hC : rC M Z) (h : zOK Z) {n : Nat} (hn1 : 1 ≤ n) (hn : n ≤ Z.h) : wpF F_X3_restore [.ref 9, .ref 1, .int (nI n)] gA M (fun v G' M' => G' = gA ∧ v = none ∧ rC M' (zU Z n) ∧ ∀ a, 138 < a → M' a = M a) := by
  obtain ⟨h1, ⟨h2, h2'⟩, ⟨h3, nx, h4, h5, h6⟩, h7, h8, h9⟩ := hC
  have hh := h.2.1
  have hx : (nx + 16 - n) % 16 < 16 := Nat.mod_lt _ (by decide)
  obtain ⟨s1, s2⟩ := isShH ((nx + 16 - n) % 16) hx
  have ok := h.2.2.1 (n - 1) (by omega)
  have n16 : ¬ (nI 16 : Int32) = 0 := by decide
  refine run_wp ⟨Nat.le_of_ble_eq_true rfl, rfl⟩ ?_
  simp only [D_X3_restore, wp_con, wp_ild0, wp_ald0, wp_ist0, wp_inc0, wp_ild1, wp_ald1, wp_ist1n, wp_inc1n, wp_ist1i, wp_inc1i, wp_ist1r, wp_inc1r, wp_ild2, wp_ald2, wp_ist2n, wp_inc2n, wp_ist2i, wp_inc2i, wp_ist2r, wp_inc2r, wp_ild3, wp_ald3, wp_ist3n, wp_inc3n, wp_ist3i, wp_inc3i, wp_ist3r, wp_inc3r, wp_ild4, wp_ald4, wp_ist4n, wp_inc4n, wp_ist4i, wp_inc4i, wp_ist4r, wp_inc4r, wp_ild5, wp_ald5, wp_ist5n, wp_inc5n, wp_ist5i, wp_inc5i, wp_ist5r, wp_inc5r, wp_ild6, wp_ald6, wp_ist6n, wp_inc6n, wp_ist6i, wp_inc6i, wp_ist6r, wp_inc6r, wp_ild7, wp_ald7, wp_ist7n, wp_inc7n, wp_ist7i, wp_inc7i, wp_ist7r, wp_inc7r, wp_ild8, wp_ald8, wp_ist8n, wp_inc8n, wp_ist8i, wp_inc8i, wp_ist8r, wp_inc8r, wp_ild9, wp_ald9, wp_ist9n, wp_inc9n, wp_ist9i, wp_inc9i, wp_ist9r, wp_inc9r, wp_bin, wp_div, wp_dupi, wp_dupr, wp_dup2, wp_popi, wp_popr, wp_ifeq, wp_ifne, wp_iflt, wp_ifge, wp_ifgt, wp_ifle, wp_iceq, wp_icne, wp_iclt, wp_icge, wp_icgt, wp_icle, wp_jmp, wp_seq, sq_j, sq_r, lq_j, lq_r, eq_r, wp_kil, wp_ret, wp_zret, wp_vret, wp_aret, wp_gfi, wp_gfr, wp_pfi, wp_pfz, wp_ial, wp_ias, wp_aal, wp_gst, wp_sal, wp_min, wp_calV0, wp_calV1, wp_calS1, wp_calV2, wp_calS2, wp_calV3, wp_calS3, wp_calV4, wp_calS4, wp_calV5, wp_calS5, wp_acp, wp_i2l, wp_l2i, wp_lcon, wp_lbin, wp_ldiv, psh_s, psh_n, en, List.map_cons, List.map_nil, List.cons_append, List.nil_append, List.length_cons, List.length_nil, List.replicate_succ, List.replicate_zero, List.zipWith_cons_cons, List.zipWith_nil_left, List.zipWith_nil_right, if_true, if_false, Bool.false_eq_true, Nat.reduceAdd, Nat.reduceSub, Nat.reduceLeDiff, Nat.reduceEqDiff, Nat.reduceMul, true_and, and_true, Option.some.injEq, exists_eq_left', Nat.le_refl, Nat.zero_le, reduceIte, Nat.add_zero, Nat.zero_add, xF0, xF1, xF2, xF3, h5, l_16, f_add, N_add, f_sub, N_sub (show n ≤ nx + 16 by omega), n16, N_rem16 (nx + 16 - n) (by omega), ms_k (show (0 : Nat) ≠ 1 by decide), h3, N_sub hn, ms_k (show (1 : Nat) ≠ 0 by decide), ms_eq, N_cl (show (nx + 16 - n) % 16 < 2147483648 by omega), N_in (show (nx + 16 - n) % 16 < 16 by omega) (by decide), s2]
  have r0 : rSh (mset (mset M 9 1 (nI ((nx + 16 - n) % 16))) 9 0 (nI (Z.h - n))) (11 + 8 * ((nx + 16 - n) % 16)) (Z.H (n - 1)) := by
    refine rSh_fr (M := M) ?_ (fun a a1 a2 => by rw [ms_a (by omega), ms_a (by omega)])
    rw [show (nx + 16 - n) % 16 = (nx + 15 - (n - 1)) % 16 by omega]
    exact h6 (n - 1) (by omega)
  refine ⟨by decide, ?_⟩
  refine wpF_mono (v_copySheet isSh1 s1 (by omega) r0 (by have := ns_le ok; omega) (np_le ok)) ?_
  rintro v G' M2 ⟨rfl, rfl, r2, f2⟩
  simp only [wp_con, wp_ild0, wp_ald0, wp_ist0, wp_inc0, wp_ild1, wp_ald1, wp_ist1n, wp_inc1n, wp_ist1i, wp_inc1i, wp_ist1r, wp_inc1r, wp_ild2, wp_ald2, wp_ist2n, wp_inc2n, wp_ist2i, wp_inc2i, wp_ist2r, wp_inc2r, wp_ild3, wp_ald3, wp_ist3n, wp_inc3n, wp_ist3i, wp_inc3i, wp_ist3r, wp_inc3r, wp_ild4, wp_ald4, wp_ist4n, wp_inc4n, wp_ist4i, wp_inc4i, wp_ist4r, wp_inc4r, wp_ild5, wp_ald5, wp_ist5n, wp_inc5n, wp_ist5i, wp_inc5i, wp_ist5r, wp_inc5r, wp_ild6, wp_ald6, wp_ist6n, wp_inc6n, wp_ist6i, wp_inc6i, wp_ist6r, wp_inc6r, wp_ild7, wp_ald7, wp_ist7n, wp_inc7n, wp_ist7i, wp_inc7i, wp_ist7r, wp_inc7r, wp_ild8, wp_ald8, wp_ist8n, wp_inc8n, wp_ist8i, wp_inc8i, wp_ist8r, wp_inc8r, wp_ild9, wp_ald9, wp_ist9n, wp_inc9n, wp_ist9i, wp_inc9i, wp_ist9r, wp_inc9r, wp_bin, wp_div, wp_dupi, wp_dupr, wp_dup2, wp_popi, wp_popr, wp_ifeq, wp_ifne, wp_iflt, wp_ifge, wp_ifgt, wp_ifle, wp_iceq, wp_icne, wp_iclt, wp_icge, wp_icgt, wp_icle, wp_jmp, wp_seq, sq_j, sq_r, lq_j, lq_r, eq_r, wp_kil, wp_ret, wp_zret, wp_vret, wp_aret, wp_gfi, wp_gfr, wp_pfi, wp_pfz, wp_ial, wp_ias, wp_aal, wp_gst, wp_sal, wp_min, wp_calV0, wp_calV1, wp_calS1, wp_calV2, wp_calS2, wp_calV3, wp_calS3, wp_calV4, wp_calS4, wp_calV5, wp_calS5, wp_acp, wp_i2l, wp_l2i, wp_lcon, wp_lbin, wp_ldiv, psh_s, psh_n, en, List.map_cons, List.map_nil, List.cons_append, List.nil_append, List.length_cons, List.length_nil, List.replicate_succ, List.replicate_zero, List.zipWith_cons_cons, List.zipWith_nil_left, List.zipWith_nil_right, if_true, if_false, Bool.false_eq_true, Nat.reduceAdd, Nat.reduceSub, Nat.reduceLeDiff, Nat.reduceEqDiff, Nat.reduceMul, true_and, and_true, Option.some.injEq, exists_eq_left', Nat.le_refl, Nat.zero_le, reduceIte, Nat.add_zero, Nat.zero_add]
  have f3 : ∀ a, 8 < a → a ≠ 9 → M2 a = M a := fun a a1 a2 => by rw [f2.1 a (by omega), ms_a a2, ms_a a2]
  refine ⟨⟨rS1_of r2, ⟨?_, ?_⟩, ⟨?_, (nx + 16 - n) % 16, hx, ?_, ?_⟩, cI_fr h7 (fun a a1 a2 => f3 a (by omega) (by omega)), cB_fr h8 (fun a a1 a2 => f3 a (by omega) (by omega)), ?_⟩, fun a ha => f3 a (by omega) (by omega)⟩
  · rw [f2.2.1, ms_a (by decide), ms_a (by decide)]; exact h2
  · rw [f2.2.2, ms_a (by decide), ms_a (by decide)]; exact h2'
  · rw [f2.1 9 (by omega), ms_eq]; rfl
  · rw [f2.1 9 (by omega), ms_k (by decide), ms_eq]
  · intro i hi
    have hi : i < Z.h - n := hi
    have h16 : ((nx + 16 - n) % 16 + 15 - i) % 16 < 16 := Nat.mod_lt _ (by decide)
    refine rSh_fr (M := M) ?_ (fun a a1 a2 => f3 a (by omega) (by omega))
    show rSh M _ (Z.H (i + n))
    rw [show ((nx + 16 - n) % 16 + 15 - i) % 16 = (nx + 15 - (i + n)) % 16 by omega]
    exact h6 (i + n) (by omega)
  · rw [f2.1 0 (by omega), ms_a (by decide), ms_a (by decide)]; exact h9
