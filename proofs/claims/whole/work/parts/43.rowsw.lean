/-! ===== the class: Rows, what changes them ===== -/
def frR (r : Nat) (M M' : vM) : Prop := (∀ a, a ≠ r → a ≠ r + 1 → a ≠ r + 2 → M' a = M a) ∧ M' r 0 = M r 0
def rwApp (R : vRw) : vRw := (R.1 + 1, (fun j => if j = R.1 then none else R.2.1 j), (fun j k => if j = R.1 then none else R.2.2 j k))
def rwRem (R : vRw) (g : Nat) : vRw := (R.1 - 1, (fun j => if j < g then R.2.1 j else R.2.1 (j + 1)), (fun j k => if j < g then R.2.2 j k else R.2.2 (j + 1) k))
def swp (p q j : Nat) : Nat := if j = p then q else if j = q then p else j
def rwSwp (R : vRw) (p q : Nat) : vRw := (R.1, (fun j => R.2.1 (swp p q j)), (fun j k => R.2.2 (swp p q j) k))
def ren (g : Nat) (o : Option Nat) : Option Nat := o.map (fun t => if g < t then t - 1 else t)
def rwRen (R : vRw) (g : Nat) : vRw := (R.1, (fun j => ren g (R.2.1 j)), R.2.2)
def rwRest (R : vRw) (j : Nat) (nb : Option Nat) (l bl : Nat) : vRw := (R.1, (fun i => if i = j then nb else R.2.1 i), (fun i k => if i = j then (if un l k = un bl k then none else some (un l k)) else R.2.2 i k))
def rwOwn (R : vRw) (j k : Nat) (v : Option Nat) : vRw := (R.1, R.2.1, fun i q => if i = j ∧ q = k then v else R.2.2 i q)
def rwBas (R : vRw) (j : Nat) (b : Option Nat) : vRw := (R.1, (fun i => if i = j then b else R.2.1 i), R.2.2)
theorem v_append {r : Nat} (hr : isR r) {M : vM} {R : vRw} (h : rRw M r R) (hn : R.1 < 8) : wpF F_X7_append [.ref r] gA M (fun v G' M' => G' = gA ∧ v = some (.int (nI R.1)) ∧ rRw M' r (rwApp R) ∧ frR r M M') := by
  obtain ⟨r0, r1, r2, r3, r4, r5, r6⟩ := id hr
  obtain ⟨n, b, o⟩ := R
  obtain ⟨h1, h2⟩ := h
  simp only at h1 h2 hn
  refine run_wp ⟨Nat.le_of_ble_eq_true rfl, rfl⟩ ?_
  simp only [K_X7_append_44, D_X7_append, wp_con, wp_ild0, wp_ald0, wp_ist0, wp_inc0, wp_ild1, wp_ald1, wp_ist1n, wp_inc1n, wp_ist1i, wp_inc1i, wp_ist1r, wp_inc1r, wp_ild2, wp_ald2, wp_ist2n, wp_inc2n, wp_ist2i, wp_inc2i, wp_ist2r, wp_inc2r, wp_ild3, wp_ald3, wp_ist3n, wp_inc3n, wp_ist3i, wp_inc3i, wp_ist3r, wp_inc3r, wp_ild4, wp_ald4, wp_ist4n, wp_inc4n, wp_ist4i, wp_inc4i, wp_ist4r, wp_inc4r, wp_ild5, wp_ald5, wp_ist5n, wp_inc5n, wp_ist5i, wp_inc5i, wp_ist5r, wp_inc5r, wp_ild6, wp_ald6, wp_ist6n, wp_inc6n, wp_ist6i, wp_inc6i, wp_ist6r, wp_inc6r, wp_ild7, wp_ald7, wp_ist7n, wp_inc7n, wp_ist7i, wp_inc7i, wp_ist7r, wp_inc7r, wp_ild8, wp_ald8, wp_ist8n, wp_inc8n, wp_ist8i, wp_inc8i, wp_ist8r, wp_inc8r, wp_ild9, wp_ald9, wp_ist9n, wp_inc9n, wp_ist9i, wp_inc9i, wp_ist9r, wp_inc9r, wp_bin, wp_div, wp_dupi, wp_dupr, wp_dup2, wp_popi, wp_popr, wp_ifeq, wp_ifne, wp_iflt, wp_ifge, wp_ifgt, wp_ifle, wp_iceq, wp_icne, wp_iclt, wp_icge, wp_icgt, wp_icle, wp_jmp, wp_seq, sq_j, sq_r, lq_j, lq_r, eq_r, wp_kil, wp_ret, wp_zret, wp_vret, wp_aret, wp_gfi, wp_gfr, wp_pfi, wp_pfz, wp_ial, wp_ias, wp_aal, wp_gst, wp_sal, wp_min, wp_calV0, wp_calV1, wp_calS1, wp_calV2, wp_calS2, wp_calV3, wp_calS3, wp_calV4, wp_calS4, wp_calV5, wp_calS5, wp_acp, wp_i2l, wp_l2i, wp_lcon, wp_lbin, wp_ldiv, psh_s, psh_n, en, List.map_cons, List.map_nil, List.cons_append, List.nil_append, List.length_cons, List.length_nil, List.replicate_succ, List.replicate_zero, List.zipWith_cons_cons, List.zipWith_nil_left, List.zipWith_nil_right, if_true, if_false, Bool.false_eq_true, Nat.reduceAdd, Nat.reduceSub, Nat.reduceLeDiff, Nat.reduceEqDiff, Nat.reduceMul, true_and, and_true, Option.some.injEq, exists_eq_left', Nat.le_refl, Nat.zero_le, reduceIte, Nat.add_zero, Nat.zero_add, N_s, l_0, h1, r0, r1, r3, r4, N_cl (show n < 2147483648 by omega), N_in hn (by decide), f_add, N_add]
  refine wp_for 6 (fun i L M' => L = [some (.ref r), some (.int (nI n)), some (.int (nI i))] ∧ (∀ a, a ≠ r + 2 → M' a = mset (mset M r 1 (nI (n + 1))) (r + 1) n (-1) a) ∧ ∀ x, M' (r + 2) x = if n * 6 ≤ x ∧ x < n * 6 + i then -1 else M (r + 2) x) ?_ ?_ 4000 0 _ _ (by omega) (by omega) ⟨rfl, fun _ _ => rfl, fun x => ?_⟩
  · rintro i L M' hi ⟨rfl, e1, e2⟩
    simp only [B_X7_append_24, K_X7_append_44, wp_con, wp_ild0, wp_ald0, wp_ist0, wp_inc0, wp_ild1, wp_ald1, wp_ist1n, wp_inc1n, wp_ist1i, wp_inc1i, wp_ist1r, wp_inc1r, wp_ild2, wp_ald2, wp_ist2n, wp_inc2n, wp_ist2i, wp_inc2i, wp_ist2r, wp_inc2r, wp_ild3, wp_ald3, wp_ist3n, wp_inc3n, wp_ist3i, wp_inc3i, wp_ist3r, wp_inc3r, wp_ild4, wp_ald4, wp_ist4n, wp_inc4n, wp_ist4i, wp_inc4i, wp_ist4r, wp_inc4r, wp_ild5, wp_ald5, wp_ist5n, wp_inc5n, wp_ist5i, wp_inc5i, wp_ist5r, wp_inc5r, wp_ild6, wp_ald6, wp_ist6n, wp_inc6n, wp_ist6i, wp_inc6i, wp_ist6r, wp_inc6r, wp_ild7, wp_ald7, wp_ist7n, wp_inc7n, wp_ist7i, wp_inc7i, wp_ist7r, wp_inc7r, wp_ild8, wp_ald8, wp_ist8n, wp_inc8n, wp_ist8i, wp_inc8i, wp_ist8r, wp_inc8r, wp_ild9, wp_ald9, wp_ist9n, wp_inc9n, wp_ist9i, wp_inc9i, wp_ist9r, wp_inc9r, wp_bin, wp_div, wp_dupi, wp_dupr, wp_dup2, wp_popi, wp_popr, wp_ifeq, wp_ifne, wp_iflt, wp_ifge, wp_ifgt, wp_ifle, wp_iceq, wp_icne, wp_iclt, wp_icge, wp_icgt, wp_icle, wp_jmp, wp_seq, sq_j, sq_r, lq_j, lq_r, eq_r, wp_kil, wp_ret, wp_zret, wp_vret, wp_aret, wp_gfi, wp_gfr, wp_pfi, wp_pfz, wp_ial, wp_ias, wp_aal, wp_gst, wp_sal, wp_min, wp_calV0, wp_calV1, wp_calS1, wp_calV2, wp_calS2, wp_calV3, wp_calS3, wp_calV4, wp_calS4, wp_calV5, wp_calS5, wp_acp, wp_i2l, wp_l2i, wp_lcon, wp_lbin, wp_ldiv, psh_s, psh_n, en, List.map_cons, List.map_nil, List.cons_append, List.nil_append, List.length_cons, List.length_nil, List.replicate_succ, List.replicate_zero, List.zipWith_cons_cons, List.zipWith_nil_left, List.zipWith_nil_right, if_true, if_false, Bool.false_eq_true, Nat.reduceAdd, Nat.reduceSub, Nat.reduceLeDiff, Nat.reduceEqDiff, Nat.reduceMul, true_and, and_true, Option.some.injEq, exists_eq_left', Nat.le_refl, Nat.zero_le, reduceIte, Nat.add_zero, Nat.zero_add, l_6, N_s, N_le (show 6 < 2147483648 by decide) (show i < 2147483648 by omega), r0, wpF_eq (v_changeOwn hr hn hi (-1) M'), N_add]
    refine ⟨fun h => absurd h (by omega), fun _ => ⟨fun a ha => ?_, fun x => ?_⟩⟩
    · rw [ms_a ha, e1 a ha]
    · by_cases hx : x = n * 6 + i
      · rw [hx, ms_eq, if_pos (by omega)]
      · rw [ms_k hx, e2 x]
        by_cases hy : n * 6 ≤ x ∧ x < n * 6 + i
        · rw [if_pos hy, if_pos (by omega)]
        · rw [if_neg hy, if_neg (by omega)]
  · rintro L M' ⟨rfl, e1, e2⟩
    simp only [B_X7_append_24, K_X7_append_44, wp_con, wp_ild0, wp_ald0, wp_ist0, wp_inc0, wp_ild1, wp_ald1, wp_ist1n, wp_inc1n, wp_ist1i, wp_inc1i, wp_ist1r, wp_inc1r, wp_ild2, wp_ald2, wp_ist2n, wp_inc2n, wp_ist2i, wp_inc2i, wp_ist2r, wp_inc2r, wp_ild3, wp_ald3, wp_ist3n, wp_inc3n, wp_ist3i, wp_inc3i, wp_ist3r, wp_inc3r, wp_ild4, wp_ald4, wp_ist4n, wp_inc4n, wp_ist4i, wp_inc4i, wp_ist4r, wp_inc4r, wp_ild5, wp_ald5, wp_ist5n, wp_inc5n, wp_ist5i, wp_inc5i, wp_ist5r, wp_inc5r, wp_ild6, wp_ald6, wp_ist6n, wp_inc6n, wp_ist6i, wp_inc6i, wp_ist6r, wp_inc6r, wp_ild7, wp_ald7, wp_ist7n, wp_inc7n, wp_ist7i, wp_inc7i, wp_ist7r, wp_inc7r, wp_ild8, wp_ald8, wp_ist8n, wp_inc8n, wp_ist8i, wp_inc8i, wp_ist8r, wp_inc8r, wp_ild9, wp_ald9, wp_ist9n, wp_inc9n, wp_ist9i, wp_inc9i, wp_ist9r, wp_inc9r, wp_bin, wp_div, wp_dupi, wp_dupr, wp_dup2, wp_popi, wp_popr, wp_ifeq, wp_ifne, wp_iflt, wp_ifge, wp_ifgt, wp_ifle, wp_iceq, wp_icne, wp_iclt, wp_icge, wp_icgt, wp_icle, wp_jmp, wp_seq, sq_j, sq_r, lq_j, lq_r, eq_r, wp_kil, wp_ret, wp_zret, wp_vret, wp_aret, wp_gfi, wp_gfr, wp_pfi, wp_pfz, wp_ial, wp_ias, wp_aal, wp_gst, wp_sal, wp_min, wp_calV0, wp_calV1, wp_calS1, wp_calV2, wp_calS2, wp_calV3, wp_calS3, wp_calV4, wp_calS4, wp_calV5, wp_calS5, wp_acp, wp_i2l, wp_l2i, wp_lcon, wp_lbin, wp_ldiv, psh_s, psh_n, en, List.map_cons, List.map_nil, List.cons_append, List.nil_append, List.length_cons, List.length_nil, List.replicate_succ, List.replicate_zero, List.zipWith_cons_cons, List.zipWith_nil_left, List.zipWith_nil_right, if_true, if_false, Bool.false_eq_true, Nat.reduceAdd, Nat.reduceSub, Nat.reduceLeDiff, Nat.reduceEqDiff, Nat.reduceMul, true_and, and_true, Option.some.injEq, exists_eq_left', Nat.le_refl, Nat.zero_le, reduceIte, Nat.add_zero, Nat.zero_add, l_6, N_le (show 6 < 2147483648 by decide) (show 6 < 2147483648 by decide)]
    refine ⟨fun _ => ⟨?_, fun a a0 a1 a2 => ?_, ?_⟩, fun h => absurd (by decide) h⟩
    · refine ⟨?_, fun j hj => ⟨?_, fun k hk => ?_⟩⟩
      · rw [e1 r (by omega), ms_a (by omega), ms_eq]
        rfl
      · simp only [rwApp] at hj ⊢
        rw [e1 (r + 1) (by omega)]
        by_cases hjn : j = n
        · rw [hjn, ms_eq, if_pos rfl]
          rfl
        · rw [ms_k hjn, ms_a (by omega), if_neg hjn]
          exact (h2 j (by omega)).1
      · simp only [rwApp] at hj ⊢
        rw [e2]
        by_cases hjn : j = n
        · rw [if_pos (by omega), if_pos hjn]
          rfl
        · rw [if_neg (by omega), if_neg hjn]
          exact (h2 j (by omega)).2 k hk
    · rw [e1 a a2, ms_a a1, ms_a a0]
    · rw [e1 r (by omega), ms_a (by omega), ms_k (by decide)]
  · rw [if_neg (by omega), ms_a (by omega), ms_a (by omega)]
theorem cp_in {M : vM} {s d sp dp n x : Nat} (h : dp ≤ x ∧ x < dp + n) : mcpy M s d sp dp n d x = M s (sp + (x - dp)) := by
  rw [mcpy_eq, pk_cpy_in h.1 h.2]
theorem cp_out {M : vM} {s d sp dp n x : Nat} (h : x < dp ∨ dp + n ≤ x) : mcpy M s d sp dp n d x = M d x := by
  rw [mcpy_eq, pk_cpy_out h]
theorem v_remove {r : Nat} (hr : isR r) {M : vM} {R : vRw} (h : rRw M r R) (hn : R.1 ≤ 8) {g : Nat} (hg : g < R.1) : wpF F_X7_remove [.ref r, .int (nI g)] gA M (fun v G' M' => G' = gA ∧ v = none ∧ rRw M' r (rwRem R g) ∧ frR r M M') := by
  obtain ⟨r0, r1, r2, r3, r4, r5, r6⟩ := id hr
  obtain ⟨n, b, o⟩ := R
  obtain ⟨h1, h2⟩ := h
  simp only at h1 h2 hn hg
  refine run_wp ⟨Nat.le_of_ble_eq_true rfl, rfl⟩ ?_
  have e1 : mcpy (mcpy M (r + 1) (r + 1) (g + 1) g (n - g - 1)) (r + 2) (r + 2) ((g + 1) * 6) (g * 6) ((n - g - 1) * 6) r 1 = nI n := by
    rw [mcpy_ne (by omega), mcpy_ne (by omega), h1]
  simp only [D_X7_remove, wp_con, wp_ild0, wp_ald0, wp_ist0, wp_inc0, wp_ild1, wp_ald1, wp_ist1n, wp_inc1n, wp_ist1i, wp_inc1i, wp_ist1r, wp_inc1r, wp_ild2, wp_ald2, wp_ist2n, wp_inc2n, wp_ist2i, wp_inc2i, wp_ist2r, wp_inc2r, wp_ild3, wp_ald3, wp_ist3n, wp_inc3n, wp_ist3i, wp_inc3i, wp_ist3r, wp_inc3r, wp_ild4, wp_ald4, wp_ist4n, wp_inc4n, wp_ist4i, wp_inc4i, wp_ist4r, wp_inc4r, wp_ild5, wp_ald5, wp_ist5n, wp_inc5n, wp_ist5i, wp_inc5i, wp_ist5r, wp_inc5r, wp_ild6, wp_ald6, wp_ist6n, wp_inc6n, wp_ist6i, wp_inc6i, wp_ist6r, wp_inc6r, wp_ild7, wp_ald7, wp_ist7n, wp_inc7n, wp_ist7i, wp_inc7i, wp_ist7r, wp_inc7r, wp_ild8, wp_ald8, wp_ist8n, wp_inc8n, wp_ist8i, wp_inc8i, wp_ist8r, wp_inc8r, wp_ild9, wp_ald9, wp_ist9n, wp_inc9n, wp_ist9i, wp_inc9i, wp_ist9r, wp_inc9r, wp_bin, wp_div, wp_dupi, wp_dupr, wp_dup2, wp_popi, wp_popr, wp_ifeq, wp_ifne, wp_iflt, wp_ifge, wp_ifgt, wp_ifle, wp_iceq, wp_icne, wp_iclt, wp_icge, wp_icgt, wp_icle, wp_jmp, wp_seq, sq_j, sq_r, lq_j, lq_r, eq_r, wp_kil, wp_ret, wp_zret, wp_vret, wp_aret, wp_gfi, wp_gfr, wp_pfi, wp_pfz, wp_ial, wp_ias, wp_aal, wp_gst, wp_sal, wp_min, wp_calV0, wp_calV1, wp_calS1, wp_calV2, wp_calS2, wp_calV3, wp_calS3, wp_calV4, wp_calS4, wp_calV5, wp_calS5, wp_acp, wp_i2l, wp_l2i, wp_lcon, wp_lbin, wp_ldiv, psh_s, psh_n, en, List.map_cons, List.map_nil, List.cons_append, List.nil_append, List.length_cons, List.length_nil, List.replicate_succ, List.replicate_zero, List.zipWith_cons_cons, List.zipWith_nil_left, List.zipWith_nil_right, if_true, if_false, Bool.false_eq_true, Nat.reduceAdd, Nat.reduceSub, Nat.reduceLeDiff, Nat.reduceEqDiff, Nat.reduceMul, true_and, and_true, Option.some.injEq, exists_eq_left', Nat.le_refl, Nat.zero_le, reduceIte, Nat.add_zero, Nat.zero_add, l_1, l_6, l_0, h1, r0, r1, r2, r3, r4, r5, r6, f_sub, f_add, f_mul, N_sub (show g ≤ n by omega), N_sub (show 1 ≤ n - g by omega), N_add, N_mul, N_cl (show n - g - 1 < 2147483648 by omega), N_cl (show g + 1 < 2147483648 by omega), N_cl (show g < 2147483648 by omega), N_cl (show (n - g - 1) * 6 < 2147483648 by omega), N_cl (show (g + 1) * 6 < 2147483648 by omega), N_cl (show g * 6 < 2147483648 by omega), e1, N_sub (show 1 ≤ n by omega)]
  have p : ∀ x, x < 2147483648 → nI 0 ≤ nI x := fun x hx => (N_le (by decide) hx).mpr (by omega)
  refine ⟨⟨p _ (by omega), p _ (by omega), p _ (by omega), by omega, by omega⟩, ⟨p _ (by omega), p _ (by omega), p _ (by omega), by omega, by omega⟩, ⟨ms_eq _ _ _ _, fun j hj => ⟨?_, fun k hk => ?_⟩⟩, fun a a0 a1 a2 => ?_, ?_⟩
  · simp only [rwRem] at hj ⊢
    rw [ms_a (by omega), mcpy_ne (by omega)]
    by_cases hjg : j < g
    · rw [cp_out (by omega), if_pos hjg]
      exact (h2 j (by omega)).1
    · rw [cp_in (by omega), if_neg hjg, show g + 1 + (j - g) = j + 1 by omega]
      exact (h2 (j + 1) (by omega)).1
  · simp only [rwRem] at hj ⊢
    rw [ms_a (by omega)]
    by_cases hjg : j < g
    · rw [cp_out (by omega), if_pos hjg, mcpy_ne (by omega)]
      exact (h2 j (by omega)).2 k hk
    · rw [cp_in (by omega), if_neg hjg, mcpy_ne (by omega), show (g + 1) * 6 + (j * 6 + k - g * 6) = (j + 1) * 6 + k by omega]
      exact (h2 (j + 1) (by omega)).2 k hk
  · rw [ms_a a0, mcpy_ne a2, mcpy_ne a1]
  · rw [ms_k (by decide), mcpy_ne (by omega), mcpy_ne (by omega)]
theorem v_copyFrom {r q : Nat} (hr : isR r) (hq : isR q) (hd : q + 2 < r ∨ r + 2 < q) {M : vM} {R : vRw} (h : rRw M q R) (hn : R.1 ≤ 8) : wpF F_X7_copyFrom [.ref r, .ref q] gA M (fun v G' M' => G' = gA ∧ v = none ∧ rRw M' r R ∧ frR r M M') := by
  obtain ⟨r0, r1, r2, r3, r4, r5, r6⟩ := id hr
  obtain ⟨q0, q1, q2, q3, q4, q5, q6⟩ := id hq
  obtain ⟨n, b, o⟩ := R
  obtain ⟨h1, h2⟩ := h
  simp only at h1 h2 hn
  refine run_wp ⟨Nat.le_of_ble_eq_true rfl, rfl⟩ ?_
  have z0 : (0 : Int32).toNatClampNeg = 0 := by decide
  have z8 : (8 : Int32).toNatClampNeg = 8 := by decide
  have z48 : (48 : Int32).toNatClampNeg = 48 := by decide
  simp only [D_X7_copyFrom, wp_con, wp_ild0, wp_ald0, wp_ist0, wp_inc0, wp_ild1, wp_ald1, wp_ist1n, wp_inc1n, wp_ist1i, wp_inc1i, wp_ist1r, wp_inc1r, wp_ild2, wp_ald2, wp_ist2n, wp_inc2n, wp_ist2i, wp_inc2i, wp_ist2r, wp_inc2r, wp_ild3, wp_ald3, wp_ist3n, wp_inc3n, wp_ist3i, wp_inc3i, wp_ist3r, wp_inc3r, wp_ild4, wp_ald4, wp_ist4n, wp_inc4n, wp_ist4i, wp_inc4i, wp_ist4r, wp_inc4r, wp_ild5, wp_ald5, wp_ist5n, wp_inc5n, wp_ist5i, wp_inc5i, wp_ist5r, wp_inc5r, wp_ild6, wp_ald6, wp_ist6n, wp_inc6n, wp_ist6i, wp_inc6i, wp_ist6r, wp_inc6r, wp_ild7, wp_ald7, wp_ist7n, wp_inc7n, wp_ist7i, wp_inc7i, wp_ist7r, wp_inc7r, wp_ild8, wp_ald8, wp_ist8n, wp_inc8n, wp_ist8i, wp_inc8i, wp_ist8r, wp_inc8r, wp_ild9, wp_ald9, wp_ist9n, wp_inc9n, wp_ist9i, wp_inc9i, wp_ist9r, wp_inc9r, wp_bin, wp_div, wp_dupi, wp_dupr, wp_dup2, wp_popi, wp_popr, wp_ifeq, wp_ifne, wp_iflt, wp_ifge, wp_ifgt, wp_ifle, wp_iceq, wp_icne, wp_iclt, wp_icge, wp_icgt, wp_icle, wp_jmp, wp_seq, sq_j, sq_r, lq_j, lq_r, eq_r, wp_kil, wp_ret, wp_zret, wp_vret, wp_aret, wp_gfi, wp_gfr, wp_pfi, wp_pfz, wp_ial, wp_ias, wp_aal, wp_gst, wp_sal, wp_min, wp_calV0, wp_calV1, wp_calS1, wp_calV2, wp_calS2, wp_calV3, wp_calS3, wp_calV4, wp_calS4, wp_calV5, wp_calS5, wp_acp, wp_i2l, wp_l2i, wp_lcon, wp_lbin, wp_ldiv, psh_s, psh_n, en, List.map_cons, List.map_nil, List.cons_append, List.nil_append, List.length_cons, List.length_nil, List.replicate_succ, List.replicate_zero, List.zipWith_cons_cons, List.zipWith_nil_left, List.zipWith_nil_right, if_true, if_false, Bool.false_eq_true, Nat.reduceAdd, Nat.reduceSub, Nat.reduceLeDiff, Nat.reduceEqDiff, Nat.reduceMul, true_and, and_true, Option.some.injEq, exists_eq_left', Nat.le_refl, Nat.zero_le, reduceIte, Nat.add_zero, Nat.zero_add, h1, r0, r1, r2, r3, r4, r5, r6, q0, q1, q2, q3, q4, q5, q6, z0, z8, z48]
  refine ⟨⟨by decide, by decide, by decide⟩, ⟨by decide, by decide, by decide⟩, ⟨?_, fun j hj => ⟨?_, fun k hk => ?_⟩⟩, fun a a0 a1 a2 => ?_, ?_⟩
  · rw [mcpy_ne (by omega), mcpy_ne (by omega), ms_eq]
  · rw [mcpy_ne (by omega), cp_in (by simp only at hj; omega), ms_a (by omega), show 0 + (j - 0) = j by omega]
    exact (h2 j hj).1
  · rw [cp_in (by simp only at hj; omega), mcpy_ne (by omega), ms_a (by omega), show 0 + (j * 6 + k - 0) = j * 6 + k by omega]
    exact (h2 j hj).2 k hk
  · rw [mcpy_ne a2, mcpy_ne a1, ms_a a0]
  · rw [mcpy_ne (by omega), mcpy_ne (by omega), ms_k (by decide)]
