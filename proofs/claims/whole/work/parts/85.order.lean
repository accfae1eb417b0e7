-- the reference: looks in their order
theorem un_b (c : Nat) : un c 0 < 2 ∧ un c 1 < 2 ∧ un c 2 < 128 ∧ un c 3 < 128 ∧ un c 4 < 16 ∧ un c 5 < 16 := ⟨Nat.mod_lt _ (by decide), Nat.mod_lt _ (by decide), Nat.mod_lt _ (by decide), Nat.mod_lt _ (by decide), Nat.mod_lt _ (by decide), Nat.mod_lt _ (by decide)⟩
theorem un_sum {c : Nat} (h : c < 16777216) : c = un c 0 * 8388608 + un c 1 * 4194304 + un c 2 * 32768 + un c 3 * 256 + un c 4 * 16 + un c 5 := by
  show c = c / 8388608 % 2 * 8388608 + c / 4194304 % 2 * 4194304 + c / 32768 % 128 * 32768 + c / 256 % 128 * 256 + c / 16 % 16 * 16 + c / 1 % 16
  omega
theorem lex_lt {c d i : Nat} (hc : c < 16777216) (hd : d < 16777216) (hi : i < 6) (he : ∀ j, j < i → un c j = un d j) (hl : un c i < un d i) : c < d := by
  have s1 := un_sum hc
  have s2 := un_sum hd
  obtain ⟨a0, a1, a2, a3, a4, a5⟩ := un_b c
  obtain ⟨b0, b1, b2, b3, b4, b5⟩ := un_b d
  rcases six_c hi with rfl | rfl | rfl | rfl | rfl | rfl
  · omega
  · have := he 0 (by decide); omega
  · have := he 0 (by decide); have := he 1 (by decide); omega
  · have := he 0 (by decide); have := he 1 (by decide); have := he 2 (by decide); omega
  · have := he 0 (by decide); have := he 1 (by decide); have := he 2 (by decide); have := he 3 (by decide); omega
  · have := he 0 (by decide); have := he 1 (by decide); have := he 2 (by decide); have := he 3 (by decide); have := he 4 (by decide); omega
theorem lex_eq {c d : Nat} (hc : c < 16777216) (hd : d < 16777216) (he : ∀ j, j < 6 → un c j = un d j) : c = d := by
  rw [un_sum hc, un_sum hd, he 0 (by decide), he 1 (by decide), he 2 (by decide), he 3 (by decide), he 4 (by decide), he 5 (by decide)]
def cmp (c d : Nat) : Int32 := if c < d then -1 else if d < c then 1 else 0
def okA (a La l : Nat) : Prop := gAt gA a 100 = true ∧ gL gA a = La ∧ La < 2147483648 ∧ 6 * l + 6 ≤ La
theorem m_compare {M : vM} {a La l c b Lb m d : Nat} (ha : okA a La l) (hb : okA b Lb m) (hc : c < 16777216) (hd : d < 16777216) (h1 : ∀ k, k < 6 → M a (6 * l + k) = nI (un c k)) (h2 : ∀ k, k < 6 → M b (6 * m + k) = nI (un d k)) : F_X11_compare [.ref a, .int (nI l), .ref b, .int (nI m)] gA M = some (some (.int (cmp c d)), gA, M) := by
  obtain ⟨a1, a2, a3, a4⟩ := ha
  obtain ⟨b1, b2, b3, b4⟩ := hb
  refine eqF (run_wp ⟨Nat.le_of_ble_eq_true rfl, rfl⟩ ?_)
  simp only [D_X11_compare, wp_con, wp_ild0, wp_ald0, wp_ist0, wp_inc0, wp_ild1, wp_ald1, wp_ist1n, wp_inc1n, wp_ist1i, wp_inc1i, wp_ist1r, wp_inc1r, wp_ild2, wp_ald2, wp_ist2n, wp_inc2n, wp_ist2i, wp_inc2i, wp_ist2r, wp_inc2r, wp_ild3, wp_ald3, wp_ist3n, wp_inc3n, wp_ist3i, wp_inc3i, wp_ist3r, wp_inc3r, wp_ild4, wp_ald4, wp_ist4n, wp_inc4n, wp_ist4i, wp_inc4i, wp_ist4r, wp_inc4r, wp_ild5, wp_ald5, wp_ist5n, wp_inc5n, wp_ist5i, wp_inc5i, wp_ist5r, wp_inc5r, wp_ild6, wp_ald6, wp_ist6n, wp_inc6n, wp_ist6i, wp_inc6i, wp_ist6r, wp_inc6r, wp_ild7, wp_ald7, wp_ist7n, wp_inc7n, wp_ist7i, wp_inc7i, wp_ist7r, wp_inc7r, wp_ild8, wp_ald8, wp_ist8n, wp_inc8n, wp_ist8i, wp_inc8i, wp_ist8r, wp_inc8r, wp_ild9, wp_ald9, wp_ist9n, wp_inc9n, wp_ist9i, wp_inc9i, wp_ist9r, wp_inc9r, wp_bin, wp_div, wp_dupi, wp_dupr, wp_dup2, wp_popi, wp_popr, wp_ifeq, wp_ifne, wp_iflt, wp_ifge, wp_ifgt, wp_ifle, wp_iceq, wp_icne, wp_iclt, wp_icge, wp_icgt, wp_icle, wp_jmp, wp_seq, sq_j, sq_r, lq_j, lq_r, eq_r, wp_kil, wp_ret, wp_zret, wp_vret, wp_aret, wp_gfi, wp_gfr, wp_pfi, wp_pfz, wp_ial, wp_ias, wp_aal, wp_gst, wp_sal, wp_min, wp_calV0, wp_calV1, wp_calS1, wp_calV2, wp_calS2, wp_calV3, wp_calS3, wp_calV4, wp_calS4, wp_calV5, wp_calS5, wp_acp, wp_i2l, wp_l2i, wp_lcon, wp_lbin, wp_ldiv, psh_s, psh_n, en, List.map_cons, List.map_nil, List.cons_append, List.nil_append, List.length_cons, List.length_nil, List.replicate_succ, List.replicate_zero, List.zipWith_cons_cons, List.zipWith_nil_left, List.zipWith_nil_right, if_true, if_false, Bool.false_eq_true, Nat.reduceAdd, Nat.reduceSub, Nat.reduceLeDiff, Nat.reduceEqDiff, Nat.reduceMul, true_and, and_true, Option.some.injEq, exists_eq_left', Nat.le_refl, Nat.zero_le, reduceIte, Nat.add_zero, Nat.zero_add, l_0]
  refine wp_for 6 (fun i L M' => M' = M ∧ L = [some (.ref a), some (.int (nI l)), some (.ref b), some (.int (nI m)), some (.int (nI i)), none, none] ∧ ∀ j, j < i → un c j = un d j) ?_ ?_ 4000 0 _ _ (by omega) (by omega) ⟨rfl, rfl, fun j hj => absurd hj (Nat.not_lt_zero j)⟩
  · rintro i L M' hi ⟨rfl, rfl, he⟩
    have u1 := un_small c hi
    have u2 := un_small d hi
    simp only [B_X11_compare_3, K_X11_compare_51, K_X11_compare_58, wp_con, wp_ild0, wp_ald0, wp_ist0, wp_inc0, wp_ild1, wp_ald1, wp_ist1n, wp_inc1n, wp_ist1i, wp_inc1i, wp_ist1r, wp_inc1r, wp_ild2, wp_ald2, wp_ist2n, wp_inc2n, wp_ist2i, wp_inc2i, wp_ist2r, wp_inc2r, wp_ild3, wp_ald3, wp_ist3n, wp_inc3n, wp_ist3i, wp_inc3i, wp_ist3r, wp_inc3r, wp_ild4, wp_ald4, wp_ist4n, wp_inc4n, wp_ist4i, wp_inc4i, wp_ist4r, wp_inc4r, wp_ild5, wp_ald5, wp_ist5n, wp_inc5n, wp_ist5i, wp_inc5i, wp_ist5r, wp_inc5r, wp_ild6, wp_ald6, wp_ist6n, wp_inc6n, wp_ist6i, wp_inc6i, wp_ist6r, wp_inc6r, wp_ild7, wp_ald7, wp_ist7n, wp_inc7n, wp_ist7i, wp_inc7i, wp_ist7r, wp_inc7r, wp_ild8, wp_ald8, wp_ist8n, wp_inc8n, wp_ist8i, wp_inc8i, wp_ist8r, wp_inc8r, wp_ild9, wp_ald9, wp_ist9n, wp_inc9n, wp_ist9i, wp_inc9i, wp_ist9r, wp_inc9r, wp_bin, wp_div, wp_dupi, wp_dupr, wp_dup2, wp_popi, wp_popr, wp_ifeq, wp_ifne, wp_iflt, wp_ifge, wp_ifgt, wp_ifle, wp_iceq, wp_icne, wp_iclt, wp_icge, wp_icgt, wp_icle, wp_jmp, wp_seq, sq_j, sq_r, lq_j, lq_r, eq_r, wp_kil, wp_ret, wp_zret, wp_vret, wp_aret, wp_gfi, wp_gfr, wp_pfi, wp_pfz, wp_ial, wp_ias, wp_aal, wp_gst, wp_sal, wp_min, wp_calV0, wp_calV1, wp_calS1, wp_calV2, wp_calS2, wp_calV3, wp_calS3, wp_calV4, wp_calS4, wp_calV5, wp_calS5, wp_acp, wp_i2l, wp_l2i, wp_lcon, wp_lbin, wp_ldiv, psh_s, psh_n, en, List.map_cons, List.map_nil, List.cons_append, List.nil_append, List.length_cons, List.length_nil, List.replicate_succ, List.replicate_zero, List.zipWith_cons_cons, List.zipWith_nil_left, List.zipWith_nil_right, if_true, if_false, Bool.false_eq_true, Nat.reduceAdd, Nat.reduceSub, Nat.reduceLeDiff, Nat.reduceEqDiff, Nat.reduceMul, true_and, and_true, Option.some.injEq, exists_eq_left', Nat.le_refl, Nat.zero_le, reduceIte, Nat.add_zero, Nat.zero_add, l_6, N_le (show 6 < 2147483648 by decide) (show i < 2147483648 by omega), show ¬ 6 ≤ i by omega, bI_t, bI_f, z10, eq_self, not_true_eq_false, not_false_eq_true, true_implies, false_implies, true_and, and_true, f_mul, f_add, N_mul, N_add, a1, a2, b1, b2, N_cl (show 6 * l + i < 2147483648 by omega), N_in (show 6 * l + i < La by omega) a3, N_cl (show 6 * m + i < 2147483648 by omega), N_in (show 6 * m + i < Lb by omega) b3, h1 i hi, h2 i hi, N_eq (show un c i < 2147483648 by omega) (show un d i < 2147483648 by omega), N_le (show un d i < 2147483648 by omega) (show un c i < 2147483648 by omega), N_s]
    by_cases e : un c i = un d i
    · simp only [e, bI_t, bI_f, z10, eq_self, not_true_eq_false, not_false_eq_true, true_implies, false_implies, true_and, and_true]
      intro j hj
      by_cases e2 : j = i
      · rw [e2]; exact e
      · exact he j (by omega)
    · by_cases e3 : un d i ≤ un c i
      · have := lex_lt hd hc hi (fun j hj => (he j hj).symm) (by omega)
        simp only [e, e3, bI_t, bI_f, z10, eq_self, not_true_eq_false, not_false_eq_true, true_implies, false_implies, true_and, and_true, cmp, show ¬ c < d by omega, this, if_true, if_false]
      · have := lex_lt hc hd hi he (by omega)
        simp only [e, e3, bI_t, bI_f, z10, eq_self, not_true_eq_false, not_false_eq_true, true_implies, false_implies, true_and, and_true, cmp, this, if_true]
  · rintro L M' ⟨rfl, rfl, he⟩
    have e := lex_eq hc hd he
    simp only [B_X11_compare_3, K_X11_compare_58, wp_con, wp_ild0, wp_ald0, wp_ist0, wp_inc0, wp_ild1, wp_ald1, wp_ist1n, wp_inc1n, wp_ist1i, wp_inc1i, wp_ist1r, wp_inc1r, wp_ild2, wp_ald2, wp_ist2n, wp_inc2n, wp_ist2i, wp_inc2i, wp_ist2r, wp_inc2r, wp_ild3, wp_ald3, wp_ist3n, wp_inc3n, wp_ist3i, wp_inc3i, wp_ist3r, wp_inc3r, wp_ild4, wp_ald4, wp_ist4n, wp_inc4n, wp_ist4i, wp_inc4i, wp_ist4r, wp_inc4r, wp_ild5, wp_ald5, wp_ist5n, wp_inc5n, wp_ist5i, wp_inc5i, wp_ist5r, wp_inc5r, wp_ild6, wp_ald6, wp_ist6n, wp_inc6n, wp_ist6i, wp_inc6i, wp_ist6r, wp_inc6r, wp_ild7, wp_ald7, wp_ist7n, wp_inc7n, wp_ist7i, wp_inc7i, wp_ist7r, wp_inc7r, wp_ild8, wp_ald8, wp_ist8n, wp_inc8n, wp_ist8i, wp_inc8i, wp_ist8r, wp_inc8r, wp_ild9, wp_ald9, wp_ist9n, wp_inc9n, wp_ist9i, wp_inc9i, wp_ist9r, wp_inc9r, wp_bin, wp_div, wp_dupi, wp_dupr, wp_dup2, wp_popi, wp_popr, wp_ifeq, wp_ifne, wp_iflt, wp_ifge, wp_ifgt, wp_ifle, wp_iceq, wp_icne, wp_iclt, wp_icge, wp_icgt, wp_icle, wp_jmp, wp_seq, sq_j, sq_r, lq_j, lq_r, eq_r, wp_kil, wp_ret, wp_zret, wp_vret, wp_aret, wp_gfi, wp_gfr, wp_pfi, wp_pfz, wp_ial, wp_ias, wp_aal, wp_gst, wp_sal, wp_min, wp_calV0, wp_calV1, wp_calS1, wp_calV2, wp_calS2, wp_calV3, wp_calS3, wp_calV4, wp_calS4, wp_calV5, wp_calS5, wp_acp, wp_i2l, wp_l2i, wp_lcon, wp_lbin, wp_ldiv, psh_s, psh_n, en, List.map_cons, List.map_nil, List.cons_append, List.nil_append, List.length_cons, List.length_nil, List.replicate_succ, List.replicate_zero, List.zipWith_cons_cons, List.zipWith_nil_left, List.zipWith_nil_right, if_true, if_false, Bool.false_eq_true, Nat.reduceAdd, Nat.reduceSub, Nat.reduceLeDiff, Nat.reduceEqDiff, Nat.reduceMul, true_and, and_true, Option.some.injEq, exists_eq_left', Nat.le_refl, Nat.zero_le, reduceIte, Nat.add_zero, Nat.zero_add, l_6, N_le (show 6 < 2147483648 by decide) (show 6 < 2147483648 by decide), Nat.le_refl, bI_t, bI_f, z10, eq_self, not_true_eq_false, not_false_eq_true, true_implies, false_implies, true_and, and_true, cmp, e, Nat.lt_irrefl, if_false]
-- each look once, rising
theorem ent_look {K : vK} {x : Nat} : ((ent K x).1, (ent K x).2.1) = if pos K x < K.1 ∧ K.2.1 (pos K x) = x then (K.1, K.2.1) else (K.1 + 1, ins K.2.1 (pos K x) x) := by
  unfold ent
  split <;> rfl
theorem LK_has {S : vS} : ∀ p q, q < p → ∃ j, j < (LK S p).1 ∧ (LK S p).2.1 j = lkP S q := by
  intro p
  induction p with
  | zero => intro q hq; exact absurd hq (Nat.not_lt_zero q)
  | succ p ih =>
    intro q hq
    obtain ⟨hs, _, _⟩ := LK_ok (S := S) p
    obtain ⟨p1, p2, p3⟩ := pos_spec (w := (LK S p).2.2) hs (lkP S p)
    have p1 : pos (LK S p) (lkP S p) ≤ (LK S p).1 := p1
    show ∃ j, j < (ent (LK S p) (lkP S p)).1 ∧ (ent (LK S p) (lkP S p)).2.1 j = lkP S q
    unfold ent
    by_cases e : pos (LK S p) (lkP S p) < (LK S p).1 ∧ (LK S p).2.1 (pos (LK S p) (lkP S p)) = lkP S p
    · rw [if_pos e]
      by_cases e2 : q = p
      · rw [e2]; exact ⟨_, e.1, e.2⟩
      · exact ih q (by omega)
    · rw [if_neg e]
      by_cases e2 : q = p
      · refine ⟨pos (LK S p) (lkP S p), by show _ < (LK S p).1 + 1; omega, ?_⟩
        show (if pos (LK S p) (lkP S p) < pos (LK S p) (lkP S p) then _ else if pos (LK S p) (lkP S p) = pos (LK S p) (lkP S p) then lkP S p else _) = _
        rw [if_neg (Nat.lt_irrefl _), if_pos rfl, e2]
      · obtain ⟨j, j1, j2⟩ := ih q (by omega)
        by_cases e3 : j < pos (LK S p) (lkP S p)
        · exact ⟨j, by show j < (LK S p).1 + 1; omega, by show (if j < pos (LK S p) (lkP S p) then (LK S p).2.1 j else _) = _; rw [if_pos e3]; exact j2⟩
        · refine ⟨j + 1, by show j + 1 < (LK S p).1 + 1; omega, ?_⟩
          show (if j + 1 < pos (LK S p) (lkP S p) then _ else if j + 1 = pos (LK S p) (lkP S p) then _ else (LK S p).2.1 (j + 1 - 1)) = _
          rw [if_neg (by omega), if_neg (by omega), Nat.add_sub_cancel]; exact j2
theorem KK_pos {S : vS} {p : Nat} (hp : p < (paS S).1) : pos (KK S) (lkP S p) < (KK S).1 ∧ (KK S).2.1 (pos (KK S) (lkP S p)) = lkP S p := by
  obtain ⟨j, j1, j2⟩ := LK_has (S := S) (paS S).1 p hp
  have hs := (LK_ok (S := S) (paS S).1).1
  have e : pos (KK S) (lkP S p) = j := by
    refine cnt_first (f := (KK S).2.1) (x := lkP S p) (KK S).1 j hs (Nat.le_of_lt j1) (fun i hi => ?_) (.inr (Nat.le_of_eq j2.symm))
    have := hs i j hi j1
    show (LK S (paS S).1).2.1 i < _
    omega
  rw [e]
  exact ⟨j1, j2⟩
theorem m_numberOf {M : vM} {S : vS} (h : vOK S) (hU : rLo M 198 (KK S).1 (KK S).2.1) (hL : rLo M 197 (paS S).1 (lkP S)) {p : Nat} (hp : p < (paS S).1) : F_X11_numberOf [.ref 190, .int (nI p)] gA M = some (some (.int (nI (pos (KK S) (lkP S p)))), gA, M) := by
  have hnp := np_le h
  have hk := KK_le h
  obtain ⟨q1, q2⟩ := KK_pos hp
  have hs := (LK_ok (S := S) (paS S).1).1
  have lp := (lkP_ok h hp).1
  have a198 : gAt gA 198 100 = true ∧ gL gA 198 = 48 := ⟨by decide +kernel, by decide +kernel⟩
  have a197 : gAt gA 197 100 = true ∧ gL gA 197 = 48 := ⟨by decide +kernel, by decide +kernel⟩
  have ec : ∀ i, i < (KK S).1 → F_X11_compare [.ref 198, .int (nI i), .ref 197, .int (nI p)] gA M = some (some (.int (cmp ((KK S).2.1 i) (lkP S p))), gA, M) := fun i hi => m_compare (La := 48) (Lb := 48) ⟨a198.1, a198.2, by decide, by omega⟩ ⟨a197.1, a197.2, by decide, by omega⟩ (KK_ok h i hi).1 lp (hU i hi) (hL p hp)
  have zm : ((-1 : Int32) = 0) = False := by simp
  refine eqF (run_wp ⟨Nat.le_of_ble_eq_true rfl, rfl⟩ ?_)
  simp only [D_X11_numberOf, wp_con, wp_ild0, wp_ald0, wp_ist0, wp_inc0, wp_ild1, wp_ald1, wp_ist1n, wp_inc1n, wp_ist1i, wp_inc1i, wp_ist1r, wp_inc1r, wp_ild2, wp_ald2, wp_ist2n, wp_inc2n, wp_ist2i, wp_inc2i, wp_ist2r, wp_inc2r, wp_ild3, wp_ald3, wp_ist3n, wp_inc3n, wp_ist3i, wp_inc3i, wp_ist3r, wp_inc3r, wp_ild4, wp_ald4, wp_ist4n, wp_inc4n, wp_ist4i, wp_inc4i, wp_ist4r, wp_inc4r, wp_ild5, wp_ald5, wp_ist5n, wp_inc5n, wp_ist5i, wp_inc5i, wp_ist5r, wp_inc5r, wp_ild6, wp_ald6, wp_ist6n, wp_inc6n, wp_ist6i, wp_inc6i, wp_ist6r, wp_inc6r, wp_ild7, wp_ald7, wp_ist7n, wp_inc7n, wp_ist7i, wp_inc7i, wp_ist7r, wp_inc7r, wp_ild8, wp_ald8, wp_ist8n, wp_inc8n, wp_ist8i, wp_inc8i, wp_ist8r, wp_inc8r, wp_ild9, wp_ald9, wp_ist9n, wp_inc9n, wp_ist9i, wp_inc9i, wp_ist9r, wp_inc9r, wp_bin, wp_div, wp_dupi, wp_dupr, wp_dup2, wp_popi, wp_popr, wp_ifeq, wp_ifne, wp_iflt, wp_ifge, wp_ifgt, wp_ifle, wp_iceq, wp_icne, wp_iclt, wp_icge, wp_icgt, wp_icle, wp_jmp, wp_seq, sq_j, sq_r, lq_j, lq_r, eq_r, wp_kil, wp_ret, wp_zret, wp_vret, wp_aret, wp_gfi, wp_gfr, wp_pfi, wp_pfz, wp_ial, wp_ias, wp_aal, wp_gst, wp_sal, wp_min, wp_calV0, wp_calV1, wp_calS1, wp_calV2, wp_calS2, wp_calV3, wp_calS3, wp_calV4, wp_calS4, wp_calV5, wp_calS5, wp_acp, wp_i2l, wp_l2i, wp_lcon, wp_lbin, wp_ldiv, psh_s, psh_n, en, List.map_cons, List.map_nil, List.cons_append, List.nil_append, List.length_cons, List.length_nil, List.replicate_succ, List.replicate_zero, List.zipWith_cons_cons, List.zipWith_nil_left, List.zipWith_nil_right, if_true, if_false, Bool.false_eq_true, Nat.reduceAdd, Nat.reduceSub, Nat.reduceLeDiff, Nat.reduceEqDiff, Nat.reduceMul, true_and, and_true, Option.some.injEq, exists_eq_left', Nat.le_refl, Nat.zero_le, reduceIte, Nat.add_zero, Nat.zero_add, l_0]
  refine wp_for (pos (KK S) (lkP S p)) (fun i L M' => M' = M ∧ L = [some (.ref 190), some (.int (nI p)), some (.int (nI i))]) ?_ ?_ 4000 0 _ _ (by omega) (by omega) ⟨rfl, rfl⟩
  · rintro i L M' hi ⟨rfl, rfl⟩
    have lt : (KK S).2.1 i < lkP S p := by have : (KK S).2.1 i < (KK S).2.1 (pos (KK S) (lkP S p)) := hs i _ hi q1; rw [q2] at this; exact this
    simp only [B_X11_numberOf_2, K_X11_numberOf_24, wp_con, wp_ild0, wp_ald0, wp_ist0, wp_inc0, wp_ild1, wp_ald1, wp_ist1n, wp_inc1n, wp_ist1i, wp_inc1i, wp_ist1r, wp_inc1r, wp_ild2, wp_ald2, wp_ist2n, wp_inc2n, wp_ist2i, wp_inc2i, wp_ist2r, wp_inc2r, wp_ild3, wp_ald3, wp_ist3n, wp_inc3n, wp_ist3i, wp_inc3i, wp_ist3r, wp_inc3r, wp_ild4, wp_ald4, wp_ist4n, wp_inc4n, wp_ist4i, wp_inc4i, wp_ist4r, wp_inc4r, wp_ild5, wp_ald5, wp_ist5n, wp_inc5n, wp_ist5i, wp_inc5i, wp_ist5r, wp_inc5r, wp_ild6, wp_ald6, wp_ist6n, wp_inc6n, wp_ist6i, wp_inc6i, wp_ist6r, wp_inc6r, wp_ild7, wp_ald7, wp_ist7n, wp_inc7n, wp_ist7i, wp_inc7i, wp_ist7r, wp_inc7r, wp_ild8, wp_ald8, wp_ist8n, wp_inc8n, wp_ist8i, wp_inc8i, wp_ist8r, wp_inc8r, wp_ild9, wp_ald9, wp_ist9n, wp_inc9n, wp_ist9i, wp_inc9i, wp_ist9r, wp_inc9r, wp_bin, wp_div, wp_dupi, wp_dupr, wp_dup2, wp_popi, wp_popr, wp_ifeq, wp_ifne, wp_iflt, wp_ifge, wp_ifgt, wp_ifle, wp_iceq, wp_icne, wp_iclt, wp_icge, wp_icgt, wp_icle, wp_jmp, wp_seq, sq_j, sq_r, lq_j, lq_r, eq_r, wp_kil, wp_ret, wp_zret, wp_vret, wp_aret, wp_gfi, wp_gfr, wp_pfi, wp_pfz, wp_ial, wp_ias, wp_aal, wp_gst, wp_sal, wp_min, wp_calV0, wp_calV1, wp_calS1, wp_calV2, wp_calS2, wp_calV3, wp_calS3, wp_calV4, wp_calS4, wp_calV5, wp_calS5, wp_acp, wp_i2l, wp_l2i, wp_lcon, wp_lbin, wp_ldiv, psh_s, psh_n, en, List.map_cons, List.map_nil, List.cons_append, List.nil_append, List.length_cons, List.length_nil, List.replicate_succ, List.replicate_zero, List.zipWith_cons_cons, List.zipWith_nil_left, List.zipWith_nil_right, if_true, if_false, Bool.false_eq_true, Nat.reduceAdd, Nat.reduceSub, Nat.reduceLeDiff, Nat.reduceEqDiff, Nat.reduceMul, true_and, and_true, Option.some.injEq, exists_eq_left', Nat.le_refl, Nat.zero_le, reduceIte, Nat.add_zero, Nat.zero_add, mF, wpF_eq (ec i (by omega)), cmp, lt, if_true, zm, bI_t, bI_f, z10, eq_self, not_true_eq_false, not_false_eq_true, true_implies, false_implies, true_and, and_true, N_s]
  · rintro L M' ⟨rfl, rfl⟩
    simp only [B_X11_numberOf_2, K_X11_numberOf_24, wp_con, wp_ild0, wp_ald0, wp_ist0, wp_inc0, wp_ild1, wp_ald1, wp_ist1n, wp_inc1n, wp_ist1i, wp_inc1i, wp_ist1r, wp_inc1r, wp_ild2, wp_ald2, wp_ist2n, wp_inc2n, wp_ist2i, wp_inc2i, wp_ist2r, wp_inc2r, wp_ild3, wp_ald3, wp_ist3n, wp_inc3n, wp_ist3i, wp_inc3i, wp_ist3r, wp_inc3r, wp_ild4, wp_ald4, wp_ist4n, wp_inc4n, wp_ist4i, wp_inc4i, wp_ist4r, wp_inc4r, wp_ild5, wp_ald5, wp_ist5n, wp_inc5n, wp_ist5i, wp_inc5i, wp_ist5r, wp_inc5r, wp_ild6, wp_ald6, wp_ist6n, wp_inc6n, wp_ist6i, wp_inc6i, wp_ist6r, wp_inc6r, wp_ild7, wp_ald7, wp_ist7n, wp_inc7n, wp_ist7i, wp_inc7i, wp_ist7r, wp_inc7r, wp_ild8, wp_ald8, wp_ist8n, wp_inc8n, wp_ist8i, wp_inc8i, wp_ist8r, wp_inc8r, wp_ild9, wp_ald9, wp_ist9n, wp_inc9n, wp_ist9i, wp_inc9i, wp_ist9r, wp_inc9r, wp_bin, wp_div, wp_dupi, wp_dupr, wp_dup2, wp_popi, wp_popr, wp_ifeq, wp_ifne, wp_iflt, wp_ifge, wp_ifgt, wp_ifle, wp_iceq, wp_icne, wp_iclt, wp_icge, wp_icgt, wp_icle, wp_jmp, wp_seq, sq_j, sq_r, lq_j, lq_r, eq_r, wp_kil, wp_ret, wp_zret, wp_vret, wp_aret, wp_gfi, wp_gfr, wp_pfi, wp_pfz, wp_ial, wp_ias, wp_aal, wp_gst, wp_sal, wp_min, wp_calV0, wp_calV1, wp_calS1, wp_calV2, wp_calS2, wp_calV3, wp_calS3, wp_calV4, wp_calS4, wp_calV5, wp_calS5, wp_acp, wp_i2l, wp_l2i, wp_lcon, wp_lbin, wp_ldiv, psh_s, psh_n, en, List.map_cons, List.map_nil, List.cons_append, List.nil_append, List.length_cons, List.length_nil, List.replicate_succ, List.replicate_zero, List.zipWith_cons_cons, List.zipWith_nil_left, List.zipWith_nil_right, if_true, if_false, Bool.false_eq_true, Nat.reduceAdd, Nat.reduceSub, Nat.reduceLeDiff, Nat.reduceEqDiff, Nat.reduceMul, true_and, and_true, Option.some.injEq, exists_eq_left', Nat.le_refl, Nat.zero_le, reduceIte, Nat.add_zero, Nat.zero_add, mF, wpF_eq (ec _ q1), q2, cmp, Nat.lt_irrefl, if_false, bI_t, bI_f, z10, eq_self, not_true_eq_false, not_false_eq_true, true_implies, false_implies, true_and, and_true]
