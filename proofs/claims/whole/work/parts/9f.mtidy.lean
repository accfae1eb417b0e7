-- the reference: tidy
theorem w0_stc {M : vM} {S : vS} {R R' : vRw} (hw : w0 M (setSt S R)) (hn : R'.1 = R.1) (hb : ∀ j, j < R.1 → R'.2.1 j = R.2.1 j ∧ ∀ k, k < 6 → R'.2.2 j k = R.2.2 j k) : w0 M (setSt S R') := by
  obtain ⟨h0, h1, h2, h3, h4, h5⟩ := hw
  refine ⟨h0, h1.trans (congrArg nI hn.symm), h2, h3, fun s hs => ?_, h5⟩
  have hs : s < R.1 := hn ▸ hs
  obtain ⟨x, y⟩ := h4 s hs
  exact ⟨x.trans (congrArg nO (hb s hs).1.symm), fun k hk => (y k hk).trans (congrArg nO ((hb s hs).2 k hk).symm)⟩
theorem w0_pac {M : vM} {S : vS} {R R' : vRw} (hw : w0 M (setPa S R)) (hn : R'.1 = R.1) (hb : ∀ j, j < R.1 → R'.2.1 j = R.2.1 j ∧ ∀ k, k < 6 → R'.2.2 j k = R.2.2 j k) : w0 M (setPa S R') := by
  obtain ⟨h0, h1, h2, h3, h4, h5⟩ := hw
  refine ⟨h0.trans (congrArg nI hn.symm), h1, h2, h3, h4, fun s hs => ?_⟩
  have hs : s < R.1 := hn ▸ hs
  obtain ⟨x, y⟩ := h5 s hs
  exact ⟨x.trans (congrArg nO (hb s hs).1.symm), fun k hk => (y k hk).trans (congrArg nO ((hb s hs).2 k hk).symm)⟩
def pTo (i k j l : Nat) : Bool := decide (j < i ∨ (j = i ∧ l < k))
def nRed (o : Option Nat) (x : Nat) : Option Nat := if o = some x then none else o
theorem nO_x {o : Option Nat} {x : Nat} (hx : x < 2147483648) (ho : ∀ v, o = some v → v < 2147483648) : (nO o = nI x) = (o = some x) := by
  cases o with
  | none => exact propext ⟨fun e => absurd e.symm (N_m1_lt x hx), fun e => by cases e⟩
  | some v =>
    rw [nO_s, N_eq (ho v rfl) hx]
    exact propext ⟨fun e => by rw [e], fun e => by cases e; rfl⟩
theorem w0_redS {M : vM} {S : vS} (h : vOK S) {i k : Nat} (hi : i < (stS S).1) (hk : k < 6) (hw : w0 M (setSt S (rwRed S (stS S) true (pTo i k)))) : w0 (mset M 191 (10 + 7 * i + 1 + k) (nO (nRed ((stS S).2.2 i k) (vst S k 6 ((stS S).2.1 i))))) (setSt S (rwRed S (stS S) true (pTo i (k + 1)))) := by
  have hns := ns_le h
  obtain ⟨h0, h1, h2, h3, h4, h5⟩ := hw
  have h4 : ∀ s, s < (stS S).1 → M 191 (10 + 7 * s) = nO ((stS S).2.1 s) ∧ ∀ l, l < 6 → M 191 (10 + 7 * s + 1 + l) = nO (if true && pTo i k s l && red S (stS S) s l then none else (stS S).2.2 s l) := h4
  refine ⟨by rw [ms_k (by omega)]; exact h0, by rw [ms_k (by omega)]; exact h1, by rw [ms_k (by omega)]; exact h2, fun l hl => by rw [ms_k (by omega)]; exact h3 l hl, fun s hs => ?_, fun p hp => ⟨by rw [ms_k (by omega)]; exact (h5 p hp).1, fun l hl => by rw [ms_k (by omega)]; exact (h5 p hp).2 l hl⟩⟩
  have hs : s < (stS S).1 := hs
  refine ⟨by rw [ms_k (by omega)]; exact (h4 s hs).1, fun l hl => ?_⟩
  show _ = nO (if true && pTo i (k + 1) s l && red S (stS S) s l then none else (stS S).2.2 s l)
  by_cases e : s = i ∧ l = k
  · obtain ⟨rfl, rfl⟩ := e
    rw [ms_eq]
    have : pTo s (l + 1) s l = true := by simp [pTo]
    rw [this]
    unfold nRed red
    by_cases c : (stS S).2.2 s l = some (vst S l 6 ((stS S).2.1 s))
    · rw [if_pos c, if_pos (by simp [c])]
    · rw [if_neg c, if_neg (by simp [c])]
  · have : pTo i (k + 1) s l = pTo i k s l := by
      unfold pTo
      exact decide_eq_decide.mpr (by omega)
    rw [ms_k (by omega), this]
    exact (h4 s hs).2 l hl
theorem m_tidy {M : vM} {Z : vZ} (hX : rX M Z) (h : zOK Z) : wpF F_X11_tidy [.ref 190] gA M (mQ M (dTidy Z)) := by
  have hnp := np_le h.1
  have hns := ns_le h.1
  have c0 : (0 : Int32).toNatClampNeg = 0 := by decide
  have i0 : inB 0 2090 = true := by decide
  have c1 : (1 : Int32).toNatClampNeg = 1 := by decide
  have i1 : inB 1 2090 = true := by decide
  refine run_wp ⟨Nat.le_of_ble_eq_true rfl, rfl⟩ ?_
  simp only [D_X11_tidy, wp_con, wp_ild0, wp_ald0, wp_ist0, wp_inc0, wp_ild1, wp_ald1, wp_ist1n, wp_inc1n, wp_ist1i, wp_inc1i, wp_ist1r, wp_inc1r, wp_ild2, wp_ald2, wp_ist2n, wp_inc2n, wp_ist2i, wp_inc2i, wp_ist2r, wp_inc2r, wp_ild3, wp_ald3, wp_ist3n, wp_inc3n, wp_ist3i, wp_inc3i, wp_ist3r, wp_inc3r, wp_ild4, wp_ald4, wp_ist4n, wp_inc4n, wp_ist4i, wp_inc4i, wp_ist4r, wp_inc4r, wp_ild5, wp_ald5, wp_ist5n, wp_inc5n, wp_ist5i, wp_inc5i, wp_ist5r, wp_inc5r, wp_ild6, wp_ald6, wp_ist6n, wp_inc6n, wp_ist6i, wp_inc6i, wp_ist6r, wp_inc6r, wp_ild7, wp_ald7, wp_ist7n, wp_inc7n, wp_ist7i, wp_inc7i, wp_ist7r, wp_inc7r, wp_ild8, wp_ald8, wp_ist8n, wp_inc8n, wp_ist8i, wp_inc8i, wp_ist8r, wp_inc8r, wp_ild9, wp_ald9, wp_ist9n, wp_inc9n, wp_ist9i, wp_inc9i, wp_ist9r, wp_inc9r, wp_bin, wp_div, wp_dupi, wp_dupr, wp_dup2, wp_popi, wp_popr, wp_ifeq, wp_ifne, wp_iflt, wp_ifge, wp_ifgt, wp_ifle, wp_iceq, wp_icne, wp_iclt, wp_icge, wp_icgt, wp_icle, wp_jmp, wp_seq, sq_j, sq_r, lq_j, lq_r, eq_r, wp_kil, wp_ret, wp_zret, wp_vret, wp_aret, wp_gfi, wp_gfr, wp_pfi, wp_pfz, wp_ial, wp_ias, wp_aal, wp_gst, wp_sal, wp_min, wp_calV0, wp_calV1, wp_calS1, wp_calV2, wp_calS2, wp_calV3, wp_calS3, wp_calV4, wp_calS4, wp_calV5, wp_calS5, wp_acp, wp_i2l, wp_l2i, wp_lcon, wp_lbin, wp_ldiv, psh_s, psh_n, en, List.map_cons, List.map_nil, List.cons_append, List.nil_append, List.length_cons, List.length_nil, List.replicate_succ, List.replicate_zero, List.zipWith_cons_cons, List.zipWith_nil_left, List.zipWith_nil_right, if_true, if_false, Bool.false_eq_true, Nat.reduceAdd, Nat.reduceSub, Nat.reduceLeDiff, Nat.reduceEqDiff, Nat.reduceMul, true_and, and_true, Option.some.injEq, exists_eq_left', Nat.le_refl, Nat.zero_le, reduceIte, Nat.add_zero, Nat.zero_add, mF]
  refine wpF_mono (m_remember hX h) ?_
  rintro w G' M2 ⟨rfl, rfl, r2, f2⟩
  have w2 : w0 M2 Z.S := r2.1
  simp only [wp_con, wp_ild0, wp_ald0, wp_ist0, wp_inc0, wp_ild1, wp_ald1, wp_ist1n, wp_inc1n, wp_ist1i, wp_inc1i, wp_ist1r, wp_inc1r, wp_ild2, wp_ald2, wp_ist2n, wp_inc2n, wp_ist2i, wp_inc2i, wp_ist2r, wp_inc2r, wp_ild3, wp_ald3, wp_ist3n, wp_inc3n, wp_ist3i, wp_inc3i, wp_ist3r, wp_inc3r, wp_ild4, wp_ald4, wp_ist4n, wp_inc4n, wp_ist4i, wp_inc4i, wp_ist4r, wp_inc4r, wp_ild5, wp_ald5, wp_ist5n, wp_inc5n, wp_ist5i, wp_inc5i, wp_ist5r, wp_inc5r, wp_ild6, wp_ald6, wp_ist6n, wp_inc6n, wp_ist6i, wp_inc6i, wp_ist6r, wp_inc6r, wp_ild7, wp_ald7, wp_ist7n, wp_inc7n, wp_ist7i, wp_inc7i, wp_ist7r, wp_inc7r, wp_ild8, wp_ald8, wp_ist8n, wp_inc8n, wp_ist8i, wp_inc8i, wp_ist8r, wp_inc8r, wp_ild9, wp_ald9, wp_ist9n, wp_inc9n, wp_ist9i, wp_inc9i, wp_ist9r, wp_inc9r, wp_bin, wp_div, wp_dupi, wp_dupr, wp_dup2, wp_popi, wp_popr, wp_ifeq, wp_ifne, wp_iflt, wp_ifge, wp_ifgt, wp_ifle, wp_iceq, wp_icne, wp_iclt, wp_icge, wp_icgt, wp_icle, wp_jmp, wp_seq, sq_j, sq_r, lq_j, lq_r, eq_r, wp_kil, wp_ret, wp_zret, wp_vret, wp_aret, wp_gfi, wp_gfr, wp_pfi, wp_pfz, wp_ial, wp_ias, wp_aal, wp_gst, wp_sal, wp_min, wp_calV0, wp_calV1, wp_calS1, wp_calV2, wp_calS2, wp_calV3, wp_calS3, wp_calV4, wp_calS4, wp_calV5, wp_calS5, wp_acp, wp_i2l, wp_l2i, wp_lcon, wp_lbin, wp_ldiv, psh_s, psh_n, en, List.map_cons, List.map_nil, List.cons_append, List.nil_append, List.length_cons, List.length_nil, List.replicate_succ, List.replicate_zero, List.zipWith_cons_cons, List.zipWith_nil_left, List.zipWith_nil_right, if_true, if_false, Bool.false_eq_true, Nat.reduceAdd, Nat.reduceSub, Nat.reduceLeDiff, Nat.reduceEqDiff, Nat.reduceMul, true_and, and_true, Option.some.injEq, exists_eq_left', Nat.le_refl, Nat.zero_le, reduceIte, Nat.add_zero, Nat.zero_add, mF, wpF_eq (m_needless w2 h.1)]
  refine wpF_mono (m_layAll w2 h.1) ?_
  rintro w G' M3 ⟨rfl, rfl, s3, l3, f3⟩
  have fM : frM M2 M3 := frM_of (fun a ha => f3 a (by omega) (by omega))
  have X3 := rX_fr r2 fM
  have w3 : w0 M3 Z.S := X3.1.1
  simp only [wp_con, wp_ild0, wp_ald0, wp_ist0, wp_inc0, wp_ild1, wp_ald1, wp_ist1n, wp_inc1n, wp_ist1i, wp_inc1i, wp_ist1r, wp_inc1r, wp_ild2, wp_ald2, wp_ist2n, wp_inc2n, wp_ist2i, wp_inc2i, wp_ist2r, wp_inc2r, wp_ild3, wp_ald3, wp_ist3n, wp_inc3n, wp_ist3i, wp_inc3i, wp_ist3r, wp_inc3r, wp_ild4, wp_ald4, wp_ist4n, wp_inc4n, wp_ist4i, wp_inc4i, wp_ist4r, wp_inc4r, wp_ild5, wp_ald5, wp_ist5n, wp_inc5n, wp_ist5i, wp_inc5i, wp_ist5r, wp_inc5r, wp_ild6, wp_ald6, wp_ist6n, wp_inc6n, wp_ist6i, wp_inc6i, wp_ist6r, wp_inc6r, wp_ild7, wp_ald7, wp_ist7n, wp_inc7n, wp_ist7i, wp_inc7i, wp_ist7r, wp_inc7r, wp_ild8, wp_ald8, wp_ist8n, wp_inc8n, wp_ist8i, wp_inc8i, wp_ist8r, wp_inc8r, wp_ild9, wp_ald9, wp_ist9n, wp_inc9n, wp_ist9i, wp_inc9i, wp_ist9r, wp_inc9r, wp_bin, wp_div, wp_dupi, wp_dupr, wp_dup2, wp_popi, wp_popr, wp_ifeq, wp_ifne, wp_iflt, wp_ifge, wp_ifgt, wp_ifle, wp_iceq, wp_icne, wp_iclt, wp_icge, wp_icgt, wp_icle, wp_jmp, wp_seq, sq_j, sq_r, lq_j, lq_r, eq_r, wp_kil, wp_ret, wp_zret, wp_vret, wp_aret, wp_gfi, wp_gfr, wp_pfi, wp_pfz, wp_ial, wp_ias, wp_aal, wp_gst, wp_sal, wp_min, wp_calV0, wp_calV1, wp_calS1, wp_calV2, wp_calS2, wp_calV3, wp_calS3, wp_calV4, wp_calS4, wp_calV5, wp_calS5, wp_acp, wp_i2l, wp_l2i, wp_lcon, wp_lbin, wp_ldiv, psh_s, psh_n, en, List.map_cons, List.map_nil, List.cons_append, List.nil_append, List.length_cons, List.length_nil, List.replicate_succ, List.replicate_zero, List.zipWith_cons_cons, List.zipWith_nil_left, List.zipWith_nil_right, if_true, if_false, Bool.false_eq_true, Nat.reduceAdd, Nat.reduceSub, Nat.reduceLeDiff, Nat.reduceEqDiff, Nat.reduceMul, true_and, and_true, Option.some.injEq, exists_eq_left', Nat.le_refl, Nat.zero_le, reduceIte, Nat.add_zero, Nat.zero_add, l_0]
  refine wp_for (stS Z.S).1 (fun i L M' => L = [some (.ref 190), some (.int (nI (cr Z.S))), some (.int (nI i)), none, none, none] ∧ w0 M' (setSt Z.S (rwRed Z.S (stS Z.S) true (pTo i 0))) ∧ (∀ q, 110 ≤ q → M' 191 q = M3 191 q) ∧ ∀ b, b ≠ 191 → M' b = M3 b) ?_ ?_ 4000 0 _ _ (by omega) (by omega) ⟨rfl, ?_, fun _ _ => rfl, fun _ _ => rfl⟩
  · rintro i L M' hi ⟨rfl, e1, e2, e3⟩
    have e0 : M' 191 1 = nI (stS Z.S).1 := e1.2.1
    simp only [B_X11_tidy_15, wp_con, wp_ild0, wp_ald0, wp_ist0, wp_inc0, wp_ild1, wp_ald1, wp_ist1n, wp_inc1n, wp_ist1i, wp_inc1i, wp_ist1r, wp_inc1r, wp_ild2, wp_ald2, wp_ist2n, wp_inc2n, wp_ist2i, wp_inc2i, wp_ist2r, wp_inc2r, wp_ild3, wp_ald3, wp_ist3n, wp_inc3n, wp_ist3i, wp_inc3i, wp_ist3r, wp_inc3r, wp_ild4, wp_ald4, wp_ist4n, wp_inc4n, wp_ist4i, wp_inc4i, wp_ist4r, wp_inc4r, wp_ild5, wp_ald5, wp_ist5n, wp_inc5n, wp_ist5i, wp_inc5i, wp_ist5r, wp_inc5r, wp_ild6, wp_ald6, wp_ist6n, wp_inc6n, wp_ist6i, wp_inc6i, wp_ist6r, wp_inc6r, wp_ild7, wp_ald7, wp_ist7n, wp_inc7n, wp_ist7i, wp_inc7i, wp_ist7r, wp_inc7r, wp_ild8, wp_ald8, wp_ist8n, wp_inc8n, wp_ist8i, wp_inc8i, wp_ist8r, wp_inc8r, wp_ild9, wp_ald9, wp_ist9n, wp_inc9n, wp_ist9i, wp_inc9i, wp_ist9r, wp_inc9r, wp_bin, wp_div, wp_dupi, wp_dupr, wp_dup2, wp_popi, wp_popr, wp_ifeq, wp_ifne, wp_iflt, wp_ifge, wp_ifgt, wp_ifle, wp_iceq, wp_icne, wp_iclt, wp_icge, wp_icgt, wp_icle, wp_jmp, wp_seq, sq_j, sq_r, lq_j, lq_r, eq_r, wp_kil, wp_ret, wp_zret, wp_vret, wp_aret, wp_gfi, wp_gfr, wp_pfi, wp_pfz, wp_ial, wp_ias, wp_aal, wp_gst, wp_sal, wp_min, wp_calV0, wp_calV1, wp_calS1, wp_calV2, wp_calS2, wp_calV3, wp_calS3, wp_calV4, wp_calS4, wp_calV5, wp_calS5, wp_acp, wp_i2l, wp_l2i, wp_lcon, wp_lbin, wp_ldiv, psh_s, psh_n, en, List.map_cons, List.map_nil, List.cons_append, List.nil_append, List.length_cons, List.length_nil, List.replicate_succ, List.replicate_zero, List.zipWith_cons_cons, List.zipWith_nil_left, List.zipWith_nil_right, if_true, if_false, Bool.false_eq_true, Nat.reduceAdd, Nat.reduceSub, Nat.reduceLeDiff, Nat.reduceEqDiff, Nat.reduceMul, true_and, and_true, Option.some.injEq, exists_eq_left', Nat.le_refl, Nat.zero_le, reduceIte, Nat.add_zero, Nat.zero_add, mF, c1, i1, e0, N_le (show (stS Z.S).1 < 2147483648 by omega) (show i < 2147483648 by omega), show ¬ (stS Z.S).1 ≤ i by omega, bI_t, bI_f, z10, eq_self, not_true_eq_false, not_false_eq_true, true_implies, false_implies, true_and, and_true, l_0]
    refine wp_for 6 (fun k L M' => L = [some (.ref 190), some (.int (nI (cr Z.S))), some (.int (nI i)), some (.int (nI k)), none, none] ∧ w0 M' (setSt Z.S (rwRed Z.S (stS Z.S) true (pTo i k))) ∧ (∀ q, 110 ≤ q → M' 191 q = M3 191 q) ∧ ∀ b, b ≠ 191 → M' b = M3 b) ?_ ?_ 4000 0 _ _ (by omega) (by omega) ⟨rfl, e1, e2, e3⟩
    · rintro k L M4 hk ⟨rfl, d1, d2, d3⟩
      have eb : M4 191 (10 + 7 * i) = nO ((stS Z.S).2.1 i) := (d1.2.2.2.2.1 i hi).1
      have ev : M4 191 (10 + 7 * i + 1 + k) = nO ((stS Z.S).2.2 i k) := by
        refine ((d1.2.2.2.2.1 i hi).2 k hk).trans ?_
        show nO (if true && pTo i k i k && red Z.S (stS Z.S) i k then none else (stS Z.S).2.2 i k) = _
        rw [show pTo i k i k = false from decide_eq_false (by omega)]
        rfl
      have sb := sOK_b h.1 hi
      have hx := vst_ok h.1 hk 6 _ sb
      have tp := (top_lt k hk).2
      have hr := nO_x (o := (stS Z.S).2.2 i k) (x := vst Z.S k 6 ((stS Z.S).2.1 i)) (by omega) (fun v hv => by have := (h.1.2.2.1.2 i hi).2 k hk v hv; omega)
      have stp_ : ∀ z, z = nO (nRed ((stS Z.S).2.2 i k) (vst Z.S k 6 ((stS Z.S).2.1 i))) → w0 (mset M4 191 (10 + 7 * i + 1 + k) z) (setSt Z.S (rwRed Z.S (stS Z.S) true (pTo i (k + 1)))) ∧ (∀ q, 110 ≤ q → mset M4 191 (10 + 7 * i + 1 + k) z 191 q = M3 191 q) ∧ ∀ b, b ≠ 191 → mset M4 191 (10 + 7 * i + 1 + k) z b = M3 b := by
        rintro z rfl
        exact ⟨w0_redS h.1 hi hk d1, fun q hq => by rw [ms_k (by omega)]; exact d2 q hq, fun b hb => by rw [ms_a hb]; exact d3 b hb⟩
      have st1 : ¬ (stS Z.S).2.2 i k = some (vst Z.S k 6 ((stS Z.S).2.1 i)) → nO ((stS Z.S).2.2 i k) = nO (nRed ((stS Z.S).2.2 i k) (vst Z.S k 6 ((stS Z.S).2.1 i))) := fun c => by unfold nRed; rw [if_neg c]
      have st2 : (stS Z.S).2.2 i k = some (vst Z.S k 6 ((stS Z.S).2.1 i)) → (-1 : Int32) = nO (nRed ((stS Z.S).2.2 i k) (vst Z.S k 6 ((stS Z.S).2.1 i))) := fun c => by unfold nRed; rw [if_pos c]; rfl
      have hot : oth M4 196 36 (lkS Z.S ((stS Z.S).2.1 i)) ((stS Z.S).2.1 i) := by
        have := oth_S w3 h.1 s3 sb
        revert this
        cases (stS Z.S).2.1 i with
        | none => exact fun _ k hk => (d1.2.2.2.1 k hk).trans (by congr 1; exact ((lkS_ok h.1 sOK_n).2 k hk).symm)
        | some y => exact fun t => ⟨t.1, fun k hk => by rw [d3 196 (by decide)]; exact t.2 k hk⟩
      have hun := (lkS_ok h.1 sb).2 k hk
      revert eb hot hun hr stp_ st1 st2 sb
      cases (stS Z.S).2.1 i with
      | none =>
        intro eb sb hr stp_ st1 st2 hot hun
        have hot : ∀ k, k < 6 → M4 191 (3 + k) = nI (un (lkS Z.S none) k) := hot
        have vb : M4 191 (3 + k) = nI (vst Z.S k 6 none) := (hot k hk).trans (by rw [hun])
        simp only [B_X11_tidy_27, K_X11_tidy_73, K_X11_tidy_122, wp_con, wp_ild0, wp_ald0, wp_ist0, wp_inc0, wp_ild1, wp_ald1, wp_ist1n, wp_inc1n, wp_ist1i, wp_inc1i, wp_ist1r, wp_inc1r, wp_ild2, wp_ald2, wp_ist2n, wp_inc2n, wp_ist2i, wp_inc2i, wp_ist2r, wp_inc2r, wp_ild3, wp_ald3, wp_ist3n, wp_inc3n, wp_ist3i, wp_inc3i, wp_ist3r, wp_inc3r, wp_ild4, wp_ald4, wp_ist4n, wp_inc4n, wp_ist4i, wp_inc4i, wp_ist4r, wp_inc4r, wp_ild5, wp_ald5, wp_ist5n, wp_inc5n, wp_ist5i, wp_inc5i, wp_ist5r, wp_inc5r, wp_ild6, wp_ald6, wp_ist6n, wp_inc6n, wp_ist6i, wp_inc6i, wp_ist6r, wp_inc6r, wp_ild7, wp_ald7, wp_ist7n, wp_inc7n, wp_ist7i, wp_inc7i, wp_ist7r, wp_inc7r, wp_ild8, wp_ald8, wp_ist8n, wp_inc8n, wp_ist8i, wp_inc8i, wp_ist8r, wp_inc8r, wp_ild9, wp_ald9, wp_ist9n, wp_inc9n, wp_ist9i, wp_inc9i, wp_ist9r, wp_inc9r, wp_bin, wp_div, wp_dupi, wp_dupr, wp_dup2, wp_popi, wp_popr, wp_ifeq, wp_ifne, wp_iflt, wp_ifge, wp_ifgt, wp_ifle, wp_iceq, wp_icne, wp_iclt, wp_icge, wp_icgt, wp_icle, wp_jmp, wp_seq, sq_j, sq_r, lq_j, lq_r, eq_r, wp_kil, wp_ret, wp_zret, wp_vret, wp_aret, wp_gfi, wp_gfr, wp_pfi, wp_pfz, wp_ial, wp_ias, wp_aal, wp_gst, wp_sal, wp_min, wp_calV0, wp_calV1, wp_calS1, wp_calV2, wp_calS2, wp_calV3, wp_calS3, wp_calV4, wp_calS4, wp_calV5, wp_calS5, wp_acp, wp_i2l, wp_l2i, wp_lcon, wp_lbin, wp_ldiv, psh_s, psh_n, en, List.map_cons, List.map_nil, List.cons_append, List.nil_append, List.length_cons, List.length_nil, List.replicate_succ, List.replicate_zero, List.zipWith_cons_cons, List.zipWith_nil_left, List.zipWith_nil_right, if_true, if_false, Bool.false_eq_true, Nat.reduceAdd, Nat.reduceSub, Nat.reduceLeDiff, Nat.reduceEqDiff, Nat.reduceMul, true_and, and_true, Option.some.injEq, exists_eq_left', Nat.le_refl, Nat.zero_le, reduceIte, Nat.add_zero, Nat.zero_add, mF, l_6, l_3, N_le (show 6 < 2147483648 by decide) (show k < 2147483648 by omega), show ¬ 6 ≤ k by omega, bI_t, bI_f, z10, eq_self, not_true_eq_false, not_false_eq_true, true_implies, false_implies, true_and, and_true, wpF_eq (m_styleOf M4), N_cl (show 10 + 7 * i < 2147483648 by omega), N_in (show 10 + 7 * i < 2090 by omega) (show 2090 < 2147483648 by decide), eb, nO_n, f_add, N_add, N_cl (show 3 + k < 2147483648 by omega), N_in (show 3 + k < 2090 by omega) (show 2090 < 2147483648 by decide), vb, N_s, N_cl (show 10 + 7 * i + 1 + k < 2147483648 by omega), N_in (show 10 + 7 * i + 1 + k < 2090 by omega) (show 2090 < 2147483648 by decide), ev, hr]
        exact ⟨fun c => stp_ _ (st1 c), fun c => stp_ _ (st2 c)⟩
      | some t =>
        intro eb sb hr stp_ st1 st2 hot hun
        have ht : t < 6 := by have := sb t rfl; omega
        have vb : M4 196 (6 * t + k) = nI (vst Z.S k 6 (some t)) := (hot.2 k hk).trans (by rw [hun])
        simp only [B_X11_tidy_27, K_X11_tidy_73, K_X11_tidy_122, wp_con, wp_ild0, wp_ald0, wp_ist0, wp_inc0, wp_ild1, wp_ald1, wp_ist1n, wp_inc1n, wp_ist1i, wp_inc1i, wp_ist1r, wp_inc1r, wp_ild2, wp_ald2, wp_ist2n, wp_inc2n, wp_ist2i, wp_inc2i, wp_ist2r, wp_inc2r, wp_ild3, wp_ald3, wp_ist3n, wp_inc3n, wp_ist3i, wp_inc3i, wp_ist3r, wp_inc3r, wp_ild4, wp_ald4, wp_ist4n, wp_inc4n, wp_ist4i, wp_inc4i, wp_ist4r, wp_inc4r, wp_ild5, wp_ald5, wp_ist5n, wp_inc5n, wp_ist5i, wp_inc5i, wp_ist5r, wp_inc5r, wp_ild6, wp_ald6, wp_ist6n, wp_inc6n, wp_ist6i, wp_inc6i, wp_ist6r, wp_inc6r, wp_ild7, wp_ald7, wp_ist7n, wp_inc7n, wp_ist7i, wp_inc7i, wp_ist7r, wp_inc7r, wp_ild8, wp_ald8, wp_ist8n, wp_inc8n, wp_ist8i, wp_inc8i, wp_ist8r, wp_inc8r, wp_ild9, wp_ald9, wp_ist9n, wp_inc9n, wp_ist9i, wp_inc9i, wp_ist9r, wp_inc9r, wp_bin, wp_div, wp_dupi, wp_dupr, wp_dup2, wp_popi, wp_popr, wp_ifeq, wp_ifne, wp_iflt, wp_ifge, wp_ifgt, wp_ifle, wp_iceq, wp_icne, wp_iclt, wp_icge, wp_icgt, wp_icle, wp_jmp, wp_seq, sq_j, sq_r, lq_j, lq_r, eq_r, wp_kil, wp_ret, wp_zret, wp_vret, wp_aret, wp_gfi, wp_gfr, wp_pfi, wp_pfz, wp_ial, wp_ias, wp_aal, wp_gst, wp_sal, wp_min, wp_calV0, wp_calV1, wp_calS1, wp_calV2, wp_calS2, wp_calV3, wp_calS3, wp_calV4, wp_calS4, wp_calV5, wp_calS5, wp_acp, wp_i2l, wp_l2i, wp_lcon, wp_lbin, wp_ldiv, psh_s, psh_n, en, List.map_cons, List.map_nil, List.cons_append, List.nil_append, List.length_cons, List.length_nil, List.replicate_succ, List.replicate_zero, List.zipWith_cons_cons, List.zipWith_nil_left, List.zipWith_nil_right, if_true, if_false, Bool.false_eq_true, Nat.reduceAdd, Nat.reduceSub, Nat.reduceLeDiff, Nat.reduceEqDiff, Nat.reduceMul, true_and, and_true, Option.some.injEq, exists_eq_left', Nat.le_refl, Nat.zero_le, reduceIte, Nat.add_zero, Nat.zero_add, mF, l_6, N_le (show 6 < 2147483648 by decide) (show k < 2147483648 by omega), show ¬ 6 ≤ k by omega, bI_t, bI_f, z10, eq_self, not_true_eq_false, not_false_eq_true, true_implies, false_implies, true_and, and_true, wpF_eq (m_styleOf M4), N_cl (show 10 + 7 * i < 2147483648 by omega), N_in (show 10 + 7 * i < 2090 by omega) (show 2090 < 2147483648 by decide), eb, nO_s, N_m1_lt t (show t < 2147483648 by omega), f_mul, N_mul, f_add, N_add, N_cl (show 6 * t + k < 2147483648 by omega), N_in (show 6 * t + k < 36 by omega) (show 36 < 2147483648 by decide), vb, N_s, N_cl (show 10 + 7 * i + 1 + k < 2147483648 by omega), N_in (show 10 + 7 * i + 1 + k < 2090 by omega) (show 2090 < 2147483648 by decide), ev, hr]
        exact ⟨fun c => stp_ _ (st1 c), fun c => stp_ _ (st2 c)⟩
    · rintro L M4 ⟨rfl, d1, d2, d3⟩
      simp only [B_X11_tidy_27, K_X11_tidy_129, wp_con, wp_ild0, wp_ald0, wp_ist0, wp_inc0, wp_ild1, wp_ald1, wp_ist1n, wp_inc1n, wp_ist1i, wp_inc1i, wp_ist1r, wp_inc1r, wp_ild2, wp_ald2, wp_ist2n, wp_inc2n, wp_ist2i, wp_inc2i, wp_ist2r, wp_inc2r, wp_ild3, wp_ald3, wp_ist3n, wp_inc3n, wp_ist3i, wp_inc3i, wp_ist3r, wp_inc3r, wp_ild4, wp_ald4, wp_ist4n, wp_inc4n, wp_ist4i, wp_inc4i, wp_ist4r, wp_inc4r, wp_ild5, wp_ald5, wp_ist5n, wp_inc5n, wp_ist5i, wp_inc5i, wp_ist5r, wp_inc5r, wp_ild6, wp_ald6, wp_ist6n, wp_inc6n, wp_ist6i, wp_inc6i, wp_ist6r, wp_inc6r, wp_ild7, wp_ald7, wp_ist7n, wp_inc7n, wp_ist7i, wp_inc7i, wp_ist7r, wp_inc7r, wp_ild8, wp_ald8, wp_ist8n, wp_inc8n, wp_ist8i, wp_inc8i, wp_ist8r, wp_inc8r, wp_ild9, wp_ald9, wp_ist9n, wp_inc9n, wp_ist9i, wp_inc9i, wp_ist9r, wp_inc9r, wp_bin, wp_div, wp_dupi, wp_dupr, wp_dup2, wp_popi, wp_popr, wp_ifeq, wp_ifne, wp_iflt, wp_ifge, wp_ifgt, wp_ifle, wp_iceq, wp_icne, wp_iclt, wp_icge, wp_icgt, wp_icle, wp_jmp, wp_seq, sq_j, sq_r, lq_j, lq_r, eq_r, wp_kil, wp_ret, wp_zret, wp_vret, wp_aret, wp_gfi, wp_gfr, wp_pfi, wp_pfz, wp_ial, wp_ias, wp_aal, wp_gst, wp_sal, wp_min, wp_calV0, wp_calV1, wp_calS1, wp_calV2, wp_calS2, wp_calV3, wp_calS3, wp_calV4, wp_calS4, wp_calV5, wp_calS5, wp_acp, wp_i2l, wp_l2i, wp_lcon, wp_lbin, wp_ldiv, psh_s, psh_n, en, List.map_cons, List.map_nil, List.cons_append, List.nil_append, List.length_cons, List.length_nil, List.replicate_succ, List.replicate_zero, List.zipWith_cons_cons, List.zipWith_nil_left, List.zipWith_nil_right, if_true, if_false, Bool.false_eq_true, Nat.reduceAdd, Nat.reduceSub, Nat.reduceLeDiff, Nat.reduceEqDiff, Nat.reduceMul, true_and, and_true, Option.some.injEq, exists_eq_left', Nat.le_refl, Nat.zero_le, reduceIte, Nat.add_zero, Nat.zero_add, mF, l_6, N_le (show 6 < 2147483648 by decide) (show 6 < 2147483648 by decide), Nat.le_refl, bI_t, bI_f, z10, eq_self, not_true_eq_false, not_false_eq_true, true_implies, false_implies, true_and, and_true, N_s]
      refine ⟨w0_stc d1 rfl (fun j _ => ⟨rfl, fun k hk => ?_⟩), d2, d3⟩
      show (if true && pTo (i + 1) 0 j k && red Z.S (stS Z.S) j k then none else (stS Z.S).2.2 j k) = if true && pTo i 6 j k && red Z.S (stS Z.S) j k then none else (stS Z.S).2.2 j k
      rw [show pTo (i + 1) 0 j k = pTo i 6 j k from decide_eq_decide.mpr (by omega)]
  · rintro L M' ⟨rfl, e1, e2, e3⟩
    have e0 : M' 191 1 = nI (stS Z.S).1 := e1.2.1
    have w6 : w0 M' (tdA Z.S true) := by
      refine w0_stc e1 rfl (fun j hj => ⟨rfl, fun k hk => ?_⟩)
      have hj : j < (stS Z.S).1 := hj
      show (if true && true && red Z.S (stS Z.S) j k then none else (stS Z.S).2.2 j k) = if true && pTo (stS Z.S).1 0 j k && red Z.S (stS Z.S) j k then none else (stS Z.S).2.2 j k
      rw [show pTo (stS Z.S).1 0 j k = true from decide_eq_true (by omega)]
    have okA_ : vOK (tdA Z.S true) := ok_redS h.1 true _
    simp only [B_X11_tidy_15, K_X11_tidy_135, wp_con, wp_ild0, wp_ald0, wp_ist0, wp_inc0, wp_ild1, wp_ald1, wp_ist1n, wp_inc1n, wp_ist1i, wp_inc1i, wp_ist1r, wp_inc1r, wp_ild2, wp_ald2, wp_ist2n, wp_inc2n, wp_ist2i, wp_inc2i, wp_ist2r, wp_inc2r, wp_ild3, wp_ald3, wp_ist3n, wp_inc3n, wp_ist3i, wp_inc3i, wp_ist3r, wp_inc3r, wp_ild4, wp_ald4, wp_ist4n, wp_inc4n, wp_ist4i, wp_inc4i, wp_ist4r, wp_inc4r, wp_ild5, wp_ald5, wp_ist5n, wp_inc5n, wp_ist5i, wp_inc5i, wp_ist5r, wp_inc5r, wp_ild6, wp_ald6, wp_ist6n, wp_inc6n, wp_ist6i, wp_inc6i, wp_ist6r, wp_inc6r, wp_ild7, wp_ald7, wp_ist7n, wp_inc7n, wp_ist7i, wp_inc7i, wp_ist7r, wp_inc7r, wp_ild8, wp_ald8, wp_ist8n, wp_inc8n, wp_ist8i, wp_inc8i, wp_ist8r, wp_inc8r, wp_ild9, wp_ald9, wp_ist9n, wp_inc9n, wp_ist9i, wp_inc9i, wp_ist9r, wp_inc9r, wp_bin, wp_div, wp_dupi, wp_dupr, wp_dup2, wp_popi, wp_popr, wp_ifeq, wp_ifne, wp_iflt, wp_ifge, wp_ifgt, wp_ifle, wp_iceq, wp_icne, wp_iclt, wp_icge, wp_icgt, wp_icle, wp_jmp, wp_seq, sq_j, sq_r, lq_j, lq_r, eq_r, wp_kil, wp_ret, wp_zret, wp_vret, wp_aret, wp_gfi, wp_gfr, wp_pfi, wp_pfz, wp_ial, wp_ias, wp_aal, wp_gst, wp_sal, wp_min, wp_calV0, wp_calV1, wp_calS1, wp_calV2, wp_calS2, wp_calV3, wp_calS3, wp_calV4, wp_calS4, wp_calV5, wp_calS5, wp_acp, wp_i2l, wp_l2i, wp_lcon, wp_lbin, wp_ldiv, psh_s, psh_n, en, List.map_cons, List.map_nil, List.cons_append, List.nil_append, List.length_cons, List.length_nil, List.replicate_succ, List.replicate_zero, List.zipWith_cons_cons, List.zipWith_nil_left, List.zipWith_nil_right, if_true, if_false, Bool.false_eq_true, Nat.reduceAdd, Nat.reduceSub, Nat.reduceLeDiff, Nat.reduceEqDiff, Nat.reduceMul, true_and, and_true, Option.some.injEq, exists_eq_left', Nat.le_refl, Nat.zero_le, reduceIte, Nat.add_zero, Nat.zero_add, mF, c1, i1, e0, N_le (show (stS Z.S).1 < 2147483648 by omega) (show (stS Z.S).1 < 2147483648 by omega), Nat.le_refl, bI_t, bI_f, z10, eq_self, not_true_eq_false, not_false_eq_true, true_implies, false_implies, true_and, and_true, l_0]
    refine wp_for (paS Z.S).1 (fun i L M4 => L = [some (.ref 190), some (.int (nI (cr Z.S))), some (.int (nI i)), none, none, none] ∧ w0 M4 (setPa (tdA Z.S true) (rwRed (tdA Z.S true) (paS Z.S) true (pTo i 0))) ∧ (∀ q, 110 ≤ q → M4 191 q = M3 191 q) ∧ ∀ b, b ≠ 191 → M4 b = M3 b) ?_ ?_ 4000 0 _ _ (by omega) (by omega) ⟨rfl, ?_, e2, e3⟩
    · rintro i L M4 hi ⟨rfl, d1, d2, d3⟩
      have d0 : M4 191 0 = nI (paS Z.S).1 := d1.1
      have eb : M4 191 (52 + 7 * i) = nO ((paS Z.S).2.1 i) := (d1.2.2.2.2.2 i hi).1
      have sb := sOK_p h.1 hi
      have hot : oth M4 196 36 (lkS Z.S ((paS Z.S).2.1 i)) ((paS Z.S).2.1 i) := by
        have := oth_S w3 h.1 s3 sb
        revert this
        cases (paS Z.S).2.1 i with
        | none => exact fun _ k hk => (d1.2.2.2.1 k hk).trans (by congr 1; exact ((lkS_ok h.1 sOK_n).2 k hk).symm)
        | some y => exact fun t => ⟨t.1, fun k hk => by rw [d3 196 (by decide)]; exact t.2 k hk⟩
      simp only [B_X11_tidy_137, wp_con, wp_ild0, wp_ald0, wp_ist0, wp_inc0, wp_ild1, wp_ald1, wp_ist1n, wp_inc1n, wp_ist1i, wp_inc1i, wp_ist1r, wp_inc1r, wp_ild2, wp_ald2, wp_ist2n, wp_inc2n, wp_ist2i, wp_inc2i, wp_ist2r, wp_inc2r, wp_ild3, wp_ald3, wp_ist3n, wp_inc3n, wp_ist3i, wp_inc3i, wp_ist3r, wp_inc3r, wp_ild4, wp_ald4, wp_ist4n, wp_inc4n, wp_ist4i, wp_inc4i, wp_ist4r, wp_inc4r, wp_ild5, wp_ald5, wp_ist5n, wp_inc5n, wp_ist5i, wp_inc5i, wp_ist5r, wp_inc5r, wp_ild6, wp_ald6, wp_ist6n, wp_inc6n, wp_ist6i, wp_inc6i, wp_ist6r, wp_inc6r, wp_ild7, wp_ald7, wp_ist7n, wp_inc7n, wp_ist7i, wp_inc7i, wp_ist7r, wp_inc7r, wp_ild8, wp_ald8, wp_ist8n, wp_inc8n, wp_ist8i, wp_inc8i, wp_ist8r, wp_inc8r, wp_ild9, wp_ald9, wp_ist9n, wp_inc9n, wp_ist9i, wp_inc9i, wp_ist9r, wp_inc9r, wp_bin, wp_div, wp_dupi, wp_dupr, wp_dup2, wp_popi, wp_popr, wp_ifeq, wp_ifne, wp_iflt, wp_ifge, wp_ifgt, wp_ifle, wp_iceq, wp_icne, wp_iclt, wp_icge, wp_icgt, wp_icle, wp_jmp, wp_seq, sq_j, sq_r, lq_j, lq_r, eq_r, wp_kil, wp_ret, wp_zret, wp_vret, wp_aret, wp_gfi, wp_gfr, wp_pfi, wp_pfz, wp_ial, wp_ias, wp_aal, wp_gst, wp_sal, wp_min, wp_calV0, wp_calV1, wp_calS1, wp_calV2, wp_calS2, wp_calV3, wp_calS3, wp_calV4, wp_calS4, wp_calV5, wp_calS5, wp_acp, wp_i2l, wp_l2i, wp_lcon, wp_lbin, wp_ldiv, psh_s, psh_n, en, List.map_cons, List.map_nil, List.cons_append, List.nil_append, List.length_cons, List.length_nil, List.replicate_succ, List.replicate_zero, List.zipWith_cons_cons, List.zipWith_nil_left, List.zipWith_nil_right, if_true, if_false, Bool.false_eq_true, Nat.reduceAdd, Nat.reduceSub, Nat.reduceLeDiff, Nat.reduceEqDiff, Nat.reduceMul, true_and, and_true, Option.some.injEq, exists_eq_left', Nat.le_refl, Nat.zero_le, reduceIte, Nat.add_zero, Nat.zero_add, mF, c0, i0, d0, N_le (show (paS Z.S).1 < 2147483648 by omega) (show i < 2147483648 by omega), show ¬ (paS Z.S).1 ≤ i by omega, bI_t, bI_f, z10, eq_self, not_true_eq_false, not_false_eq_true, true_implies, false_implies, true_and, and_true, wpF_eq (m_paragraphOf M4), N_cl (show 52 + 7 * i < 2147483648 by omega), N_in (show 52 + 7 * i < 2090 by omega) (show 2090 < 2147483648 by decide), eb]
      refine wpF_mono (m_tellAnew (M := M4) (f := 52 + 7 * i) (a := 197) (La := 48) (i := i) (l := lkP Z.S i) (by omega) ⟨by decide +kernel, by decide +kernel, by decide, by omega⟩ (by decide) (fun k hk => by rw [d3 197 (by decide)]; exact l3 i hi k hk) hot) ?_
      rintro w G' M5 ⟨rfl, rfl, t1, t2, t3, t4⟩
      have w5 := w0_taPa d1 (ok_redP okA_ true _) (show i < (paS Z.S).1 from hi) t1 t2 t3
      simp only [wp_con, wp_ild0, wp_ald0, wp_ist0, wp_inc0, wp_ild1, wp_ald1, wp_ist1n, wp_inc1n, wp_ist1i, wp_inc1i, wp_ist1r, wp_inc1r, wp_ild2, wp_ald2, wp_ist2n, wp_inc2n, wp_ist2i, wp_inc2i, wp_ist2r, wp_inc2r, wp_ild3, wp_ald3, wp_ist3n, wp_inc3n, wp_ist3i, wp_inc3i, wp_ist3r, wp_inc3r, wp_ild4, wp_ald4, wp_ist4n, wp_inc4n, wp_ist4i, wp_inc4i, wp_ist4r, wp_inc4r, wp_ild5, wp_ald5, wp_ist5n, wp_inc5n, wp_ist5i, wp_inc5i, wp_ist5r, wp_inc5r, wp_ild6, wp_ald6, wp_ist6n, wp_inc6n, wp_ist6i, wp_inc6i, wp_ist6r, wp_inc6r, wp_ild7, wp_ald7, wp_ist7n, wp_inc7n, wp_ist7i, wp_inc7i, wp_ist7r, wp_inc7r, wp_ild8, wp_ald8, wp_ist8n, wp_inc8n, wp_ist8i, wp_inc8i, wp_ist8r, wp_inc8r, wp_ild9, wp_ald9, wp_ist9n, wp_inc9n, wp_ist9i, wp_inc9i, wp_ist9r, wp_inc9r, wp_bin, wp_div, wp_dupi, wp_dupr, wp_dup2, wp_popi, wp_popr, wp_ifeq, wp_ifne, wp_iflt, wp_ifge, wp_ifgt, wp_ifle, wp_iceq, wp_icne, wp_iclt, wp_icge, wp_icgt, wp_icle, wp_jmp, wp_seq, sq_j, sq_r, lq_j, lq_r, eq_r, wp_kil, wp_ret, wp_zret, wp_vret, wp_aret, wp_gfi, wp_gfr, wp_pfi, wp_pfz, wp_ial, wp_ias, wp_aal, wp_gst, wp_sal, wp_min, wp_calV0, wp_calV1, wp_calS1, wp_calV2, wp_calS2, wp_calV3, wp_calS3, wp_calV4, wp_calS4, wp_calV5, wp_calS5, wp_acp, wp_i2l, wp_l2i, wp_lcon, wp_lbin, wp_ldiv, psh_s, psh_n, en, List.map_cons, List.map_nil, List.cons_append, List.nil_append, List.length_cons, List.length_nil, List.replicate_succ, List.replicate_zero, List.zipWith_cons_cons, List.zipWith_nil_left, List.zipWith_nil_right, if_true, if_false, Bool.false_eq_true, Nat.reduceAdd, Nat.reduceSub, Nat.reduceLeDiff, Nat.reduceEqDiff, Nat.reduceMul, true_and, and_true, Option.some.injEq, exists_eq_left', Nat.le_refl, Nat.zero_le, reduceIte, Nat.add_zero, Nat.zero_add, N_s]
      refine ⟨?_, fun q hq => by rw [t3 q (by omega), d2 q hq], fun b hb => by rw [t4 b hb, d3 b hb]⟩
      refine w0_pac (S := tdA Z.S true) w5 rfl (fun j hj => ?_)
      have hj : j < (paS Z.S).1 := hj
      refine ⟨?_, fun k hk => ?_⟩
      · show (paS Z.S).2.1 j = if j = i then (paS Z.S).2.1 i else (paS Z.S).2.1 j
        by_cases e : j = i
        · rw [if_pos e, e]
        · rw [if_neg e]
      · show (if true && pTo (i + 1) 0 j k && red (tdA Z.S true) (paS Z.S) j k then none else (paS Z.S).2.2 j k) = if j = i then rsO (lkP Z.S i) (lkS Z.S ((paS Z.S).2.1 i)) k else if true && pTo i 0 j k && red (tdA Z.S true) (paS Z.S) j k then none else (paS Z.S).2.2 j k
        by_cases e : j = i
        · subst e
          rw [if_pos rfl, show pTo (j + 1) 0 j k = true from decide_eq_true (by omega), red_tdA h.1 hj]
          unfold rsO red
          rw [(lkP_ok h.1 hj).2 k hk, (lkS_ok h.1 sb).2 k hk]
          unfold vpa
          cases (paS Z.S).2.2 j k with
          | none => simp
          | some v =>
            by_cases c : v = vst Z.S k 6 ((paS Z.S).2.1 j)
            · simp [c]
            · simp [c]
        · rw [if_neg e, show pTo (i + 1) 0 j k = pTo i 0 j k from decide_eq_decide.mpr (by omega)]
    · rintro L M4 ⟨rfl, d1, d2, d3⟩
      have d0 : M4 191 0 = nI (paS Z.S).1 := d1.1
      have w7 : w0 M4 (tdy Z.S true) := by
        refine w0_pac (S := tdA Z.S true) d1 rfl (fun j hj => ⟨rfl, fun k hk => ?_⟩)
        have hj : j < (paS Z.S).1 := hj
        show (if true && true && red (tdA Z.S true) (paS Z.S) j k then none else (paS Z.S).2.2 j k) = if true && pTo (paS Z.S).1 0 j k && red (tdA Z.S true) (paS Z.S) j k then none else (paS Z.S).2.2 j k
        rw [show pTo (paS Z.S).1 0 j k = true from decide_eq_true (by omega)]
      simp only [B_X11_tidy_137, K_X11_tidy_175, wp_con, wp_ild0, wp_ald0, wp_ist0, wp_inc0, wp_ild1, wp_ald1, wp_ist1n, wp_inc1n, wp_ist1i, wp_inc1i, wp_ist1r, wp_inc1r, wp_ild2, wp_ald2, wp_ist2n, wp_inc2n, wp_ist2i, wp_inc2i, wp_ist2r, wp_inc2r, wp_ild3, wp_ald3, wp_ist3n, wp_inc3n, wp_ist3i, wp_inc3i, wp_ist3r, wp_inc3r, wp_ild4, wp_ald4, wp_ist4n, wp_inc4n, wp_ist4i, wp_inc4i, wp_ist4r, wp_inc4r, wp_ild5, wp_ald5, wp_ist5n, wp_inc5n, wp_ist5i, wp_inc5i, wp_ist5r, wp_inc5r, wp_ild6, wp_ald6, wp_ist6n, wp_inc6n, wp_ist6i, wp_inc6i, wp_ist6r, wp_inc6r, wp_ild7, wp_ald7, wp_ist7n, wp_inc7n, wp_ist7i, wp_inc7i, wp_ist7r, wp_inc7r, wp_ild8, wp_ald8, wp_ist8n, wp_inc8n, wp_ist8i, wp_inc8i, wp_ist8r, wp_inc8r, wp_ild9, wp_ald9, wp_ist9n, wp_inc9n, wp_ist9i, wp_inc9i, wp_ist9r, wp_inc9r, wp_bin, wp_div, wp_dupi, wp_dupr, wp_dup2, wp_popi, wp_popr, wp_ifeq, wp_ifne, wp_iflt, wp_ifge, wp_ifgt, wp_ifle, wp_iceq, wp_icne, wp_iclt, wp_icge, wp_icgt, wp_icle, wp_jmp, wp_seq, sq_j, sq_r, lq_j, lq_r, eq_r, wp_kil, wp_ret, wp_zret, wp_vret, wp_aret, wp_gfi, wp_gfr, wp_pfi, wp_pfz, wp_ial, wp_ias, wp_aal, wp_gst, wp_sal, wp_min, wp_calV0, wp_calV1, wp_calS1, wp_calV2, wp_calS2, wp_calV3, wp_calS3, wp_calV4, wp_calS4, wp_calV5, wp_calS5, wp_acp, wp_i2l, wp_l2i, wp_lcon, wp_lbin, wp_ldiv, psh_s, psh_n, en, List.map_cons, List.map_nil, List.cons_append, List.nil_append, List.length_cons, List.length_nil, List.replicate_succ, List.replicate_zero, List.zipWith_cons_cons, List.zipWith_nil_left, List.zipWith_nil_right, if_true, if_false, Bool.false_eq_true, Nat.reduceAdd, Nat.reduceSub, Nat.reduceLeDiff, Nat.reduceEqDiff, Nat.reduceMul, true_and, and_true, Option.some.injEq, exists_eq_left', Nat.le_refl, Nat.zero_le, reduceIte, Nat.add_zero, Nat.zero_add, mF, c0, i0, d0, N_le (show (paS Z.S).1 < 2147483648 by omega) (show (paS Z.S).1 < 2147483648 by omega), Nat.le_refl, bI_t, bI_f, z10, eq_self, not_true_eq_false, not_false_eq_true, true_implies, false_implies, true_and, and_true]
      exact ⟨rfl, rX_at h X3.1 (fun a ha => by rw [X3.2 a ha, f2 a ha]) w7 d3 d2⟩
    · refine w0_pac (S := tdA Z.S true) (R := paS Z.S) w6 rfl (fun j _ => ⟨rfl, fun k hk => ?_⟩)
      show (if true && pTo 0 0 j k && red (tdA Z.S true) (paS Z.S) j k then none else (paS Z.S).2.2 j k) = (paS Z.S).2.2 j k
      rw [show pTo 0 0 j k = false from decide_eq_false (by omega)]
      rfl
  · refine w0_stc (S := Z.S) (R := stS Z.S) w3 rfl (fun j _ => ⟨rfl, fun k hk => ?_⟩)
    show (if true && pTo 0 0 j k && red Z.S (stS Z.S) j k then none else (stS Z.S).2.2 j k) = (stS Z.S).2.2 j k
    rw [show pTo 0 0 j k = false from decide_eq_false (by omega)]
    rfl
