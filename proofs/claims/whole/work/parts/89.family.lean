-- the reference: the cheapest family
theorem bc_half : ∀ x, x < 256 → bc x = x % 2 + bc (x / 2) := by decide +kernel
theorem m_ones {x : Nat} (hx : x < 256) (M : vM) : F_X11_ones [.int (nI x)] gA M = some (some (.int (nI (bc x))), gA, M) := by
  have z2 : ¬ (nI 2 : Int32) = 0 := by decide
  refine eqF (run_wp ⟨Nat.le_of_ble_eq_true rfl, rfl⟩ ?_)
  simp only [D_X11_ones, wp_con, wp_ild0, wp_ald0, wp_ist0, wp_inc0, wp_ild1, wp_ald1, wp_ist1n, wp_inc1n, wp_ist1i, wp_inc1i, wp_ist1r, wp_inc1r, wp_ild2, wp_ald2, wp_ist2n, wp_inc2n, wp_ist2i, wp_inc2i, wp_ist2r, wp_inc2r, wp_ild3, wp_ald3, wp_ist3n, wp_inc3n, wp_ist3i, wp_inc3i, wp_ist3r, wp_inc3r, wp_ild4, wp_ald4, wp_ist4n, wp_inc4n, wp_ist4i, wp_inc4i, wp_ist4r, wp_inc4r, wp_ild5, wp_ald5, wp_ist5n, wp_inc5n, wp_ist5i, wp_inc5i, wp_ist5r, wp_inc5r, wp_ild6, wp_ald6, wp_ist6n, wp_inc6n, wp_ist6i, wp_inc6i, wp_ist6r, wp_inc6r, wp_ild7, wp_ald7, wp_ist7n, wp_inc7n, wp_ist7i, wp_inc7i, wp_ist7r, wp_inc7r, wp_ild8, wp_ald8, wp_ist8n, wp_inc8n, wp_ist8i, wp_inc8i, wp_ist8r, wp_inc8r, wp_ild9, wp_ald9, wp_ist9n, wp_inc9n, wp_ist9i, wp_inc9i, wp_ist9r, wp_inc9r, wp_bin, wp_div, wp_dupi, wp_dupr, wp_dup2, wp_popi, wp_popr, wp_ifeq, wp_ifne, wp_iflt, wp_ifge, wp_ifgt, wp_ifle, wp_iceq, wp_icne, wp_iclt, wp_icge, wp_icgt, wp_icle, wp_jmp, wp_seq, sq_j, sq_r, lq_j, lq_r, eq_r, wp_kil, wp_ret, wp_zret, wp_vret, wp_aret, wp_gfi, wp_gfr, wp_pfi, wp_pfz, wp_ial, wp_ias, wp_aal, wp_gst, wp_sal, wp_min, wp_calV0, wp_calV1, wp_calS1, wp_calV2, wp_calS2, wp_calV3, wp_calS3, wp_calV4, wp_calS4, wp_calV5, wp_calS5, wp_acp, wp_i2l, wp_l2i, wp_lcon, wp_lbin, wp_ldiv, psh_s, psh_n, en, List.map_cons, List.map_nil, List.cons_append, List.nil_append, List.length_cons, List.length_nil, List.replicate_succ, List.replicate_zero, List.zipWith_cons_cons, List.zipWith_nil_left, List.zipWith_nil_right, if_true, if_false, Bool.false_eq_true, Nat.reduceAdd, Nat.reduceSub, Nat.reduceLeDiff, Nat.reduceEqDiff, Nat.reduceMul, true_and, and_true, Option.some.injEq, exists_eq_left', Nat.le_refl, Nat.zero_le, reduceIte, Nat.add_zero, Nat.zero_add, l_0]
  refine wp_while (fun i L M' => ∃ c, M' = M ∧ L = [none, some (.int (nI c)), some (.int (nI i))] ∧ i < 256 ∧ c + bc i = bc x) ?_ 4000 x _ _ (by omega) ⟨0, rfl, rfl, hx, Nat.zero_add _⟩
  rintro i L M' ⟨c, rfl, rfl, hi, hc⟩
  by_cases e : i = 0
  · have : bc 0 = 0 := by decide
    rw [e, this] at hc
    have z : nI i ≤ 0 := by rw [e]; decide
    simp only [B_X11_ones_4, K_X11_ones_21, wp_con, wp_ild0, wp_ald0, wp_ist0, wp_inc0, wp_ild1, wp_ald1, wp_ist1n, wp_inc1n, wp_ist1i, wp_inc1i, wp_ist1r, wp_inc1r, wp_ild2, wp_ald2, wp_ist2n, wp_inc2n, wp_ist2i, wp_inc2i, wp_ist2r, wp_inc2r, wp_ild3, wp_ald3, wp_ist3n, wp_inc3n, wp_ist3i, wp_inc3i, wp_ist3r, wp_inc3r, wp_ild4, wp_ald4, wp_ist4n, wp_inc4n, wp_ist4i, wp_inc4i, wp_ist4r, wp_inc4r, wp_ild5, wp_ald5, wp_ist5n, wp_inc5n, wp_ist5i, wp_inc5i, wp_ist5r, wp_inc5r, wp_ild6, wp_ald6, wp_ist6n, wp_inc6n, wp_ist6i, wp_inc6i, wp_ist6r, wp_inc6r, wp_ild7, wp_ald7, wp_ist7n, wp_inc7n, wp_ist7i, wp_inc7i, wp_ist7r, wp_inc7r, wp_ild8, wp_ald8, wp_ist8n, wp_inc8n, wp_ist8i, wp_inc8i, wp_ist8r, wp_inc8r, wp_ild9, wp_ald9, wp_ist9n, wp_inc9n, wp_ist9i, wp_inc9i, wp_ist9r, wp_inc9r, wp_bin, wp_div, wp_dupi, wp_dupr, wp_dup2, wp_popi, wp_popr, wp_ifeq, wp_ifne, wp_iflt, wp_ifge, wp_ifgt, wp_ifle, wp_iceq, wp_icne, wp_iclt, wp_icge, wp_icgt, wp_icle, wp_jmp, wp_seq, sq_j, sq_r, lq_j, lq_r, eq_r, wp_kil, wp_ret, wp_zret, wp_vret, wp_aret, wp_gfi, wp_gfr, wp_pfi, wp_pfz, wp_ial, wp_ias, wp_aal, wp_gst, wp_sal, wp_min, wp_calV0, wp_calV1, wp_calS1, wp_calV2, wp_calS2, wp_calV3, wp_calS3, wp_calV4, wp_calS4, wp_calV5, wp_calS5, wp_acp, wp_i2l, wp_l2i, wp_lcon, wp_lbin, wp_ldiv, psh_s, psh_n, en, List.map_cons, List.map_nil, List.cons_append, List.nil_append, List.length_cons, List.length_nil, List.replicate_succ, List.replicate_zero, List.zipWith_cons_cons, List.zipWith_nil_left, List.zipWith_nil_right, if_true, if_false, Bool.false_eq_true, Nat.reduceAdd, Nat.reduceSub, Nat.reduceLeDiff, Nat.reduceEqDiff, Nat.reduceMul, true_and, and_true, Option.some.injEq, exists_eq_left', Nat.le_refl, Nat.zero_le, reduceIte, Nat.add_zero, Nat.zero_add, z, bI_t, bI_f, z10, eq_self, not_true_eq_false, not_false_eq_true, true_implies, false_implies, true_and, and_true, ← hc, Nat.add_zero]
  · have z : ¬ nI i ≤ 0 := by rw [l_0, N_le (by omega) (by decide)]; omega
    have ed : f_div (nI i) (nI 2) = nI (i / 2) := N_div (by omega) (by decide)
    have hb := bc_half i hi
    simp only [B_X11_ones_4, K_X11_ones_21, wp_con, wp_ild0, wp_ald0, wp_ist0, wp_inc0, wp_ild1, wp_ald1, wp_ist1n, wp_inc1n, wp_ist1i, wp_inc1i, wp_ist1r, wp_inc1r, wp_ild2, wp_ald2, wp_ist2n, wp_inc2n, wp_ist2i, wp_inc2i, wp_ist2r, wp_inc2r, wp_ild3, wp_ald3, wp_ist3n, wp_inc3n, wp_ist3i, wp_inc3i, wp_ist3r, wp_inc3r, wp_ild4, wp_ald4, wp_ist4n, wp_inc4n, wp_ist4i, wp_inc4i, wp_ist4r, wp_inc4r, wp_ild5, wp_ald5, wp_ist5n, wp_inc5n, wp_ist5i, wp_inc5i, wp_ist5r, wp_inc5r, wp_ild6, wp_ald6, wp_ist6n, wp_inc6n, wp_ist6i, wp_inc6i, wp_ist6r, wp_inc6r, wp_ild7, wp_ald7, wp_ist7n, wp_inc7n, wp_ist7i, wp_inc7i, wp_ist7r, wp_inc7r, wp_ild8, wp_ald8, wp_ist8n, wp_inc8n, wp_ist8i, wp_inc8i, wp_ist8r, wp_inc8r, wp_ild9, wp_ald9, wp_ist9n, wp_inc9n, wp_ist9i, wp_inc9i, wp_ist9r, wp_inc9r, wp_bin, wp_div, wp_dupi, wp_dupr, wp_dup2, wp_popi, wp_popr, wp_ifeq, wp_ifne, wp_iflt, wp_ifge, wp_ifgt, wp_ifle, wp_iceq, wp_icne, wp_iclt, wp_icge, wp_icgt, wp_icle, wp_jmp, wp_seq, sq_j, sq_r, lq_j, lq_r, eq_r, wp_kil, wp_ret, wp_zret, wp_vret, wp_aret, wp_gfi, wp_gfr, wp_pfi, wp_pfz, wp_ial, wp_ias, wp_aal, wp_gst, wp_sal, wp_min, wp_calV0, wp_calV1, wp_calS1, wp_calV2, wp_calS2, wp_calV3, wp_calS3, wp_calV4, wp_calS4, wp_calV5, wp_calS5, wp_acp, wp_i2l, wp_l2i, wp_lcon, wp_lbin, wp_ldiv, psh_s, psh_n, en, List.map_cons, List.map_nil, List.cons_append, List.nil_append, List.length_cons, List.length_nil, List.replicate_succ, List.replicate_zero, List.zipWith_cons_cons, List.zipWith_nil_left, List.zipWith_nil_right, if_true, if_false, Bool.false_eq_true, Nat.reduceAdd, Nat.reduceSub, Nat.reduceLeDiff, Nat.reduceEqDiff, Nat.reduceMul, true_and, and_true, Option.some.injEq, exists_eq_left', Nat.le_refl, Nat.zero_le, reduceIte, Nat.add_zero, Nat.zero_add, z, bI_t, bI_f, z10, eq_self, not_true_eq_false, not_false_eq_true, true_implies, false_implies, true_and, and_true, l_2, z2, N_rem (show i < 2147483648 by omega) (show 2 < 2147483648 by decide), ed, f_add, N_add]
    exact ⟨i / 2, by omega, c + i % 2, rfl, by omega, by omega⟩
def insg (u : Nat → Nat) (a y : Nat) : Nat → Nat := fun l => if l < a then u l else if l = a then y else u (l - 1)
theorem sm_insg {u : Nat → Nat} {a y : Nat} : ∀ n, a ≤ n → sm (insg u a y) (n + 1) = sm u n + y := by
  intro n
  induction n with
  | zero =>
    intro h
    show 0 + (if 0 < a then u 0 else if 0 = a then y else _) = 0 + y
    rw [if_neg (by omega), if_pos (by omega)]
  | succ n ih =>
    intro h
    show sm (insg u a y) (n + 1) + (if n + 1 < a then _ else if n + 1 = a then y else u (n + 1 - 1)) = _
    by_cases e : n + 1 = a
    · rw [if_neg (by omega), if_pos e]
      congr 1
      exact sm_eq (n + 1) (fun k hk => if_pos (by omega))
    · rw [if_neg (by omega), if_neg e, ih (by omega), Nat.add_sub_cancel]
      show sm u n + y + u n = sm u n + u n + y
      omega
theorem sm_upd {w v : Nat → Nat} {a : Nat} : ∀ n, a < n → sm (fun l => (if l = a then w l + 1 else w l) * v l) n = sm (fun l => w l * v l) n + v a := by
  intro n
  induction n with
  | zero => intro h; exact absurd h (Nat.not_lt_zero a)
  | succ n ih =>
    intro h
    show sm (fun l => (if l = a then w l + 1 else w l) * v l) n + (if n = a then w n + 1 else w n) * v n = sm (fun l => w l * v l) n + w n * v n + v a
    by_cases e : n = a
    · rw [if_pos e]
      have : sm (fun l => (if l = a then w l + 1 else w l) * v l) n = sm (fun l => w l * v l) n := sm_eq n (fun k hk => by show (if k = a then w k + 1 else w k) * v k = w k * v k; rw [if_neg (by omega)])
      rw [this, Nat.add_mul, Nat.one_mul, e]
      omega
    · rw [if_neg e, ih (by omega)]
      omega
theorem wear_sum {S : vS} {g : Nat → Nat} : ∀ p, sm (fun q => g (lkP S q)) p = sm (fun l => (LK S p).2.2 l * g ((LK S p).2.1 l)) (LK S p).1 := by
  intro p
  induction p with
  | zero => rfl
  | succ p ih =>
    obtain ⟨hs, _, _⟩ := LK_ok (S := S) p
    obtain ⟨p1, p2, p3⟩ := pos_spec (w := (LK S p).2.2) hs (lkP S p)
    have p1 : pos (LK S p) (lkP S p) ≤ (LK S p).1 := p1
    show sm (fun q => g (lkP S q)) p + g (lkP S p) = sm (fun l => (ent (LK S p) (lkP S p)).2.2 l * g ((ent (LK S p) (lkP S p)).2.1 l)) (ent (LK S p) (lkP S p)).1
    rw [ih]
    unfold ent
    by_cases e : pos (LK S p) (lkP S p) < (LK S p).1 ∧ (LK S p).2.1 (pos (LK S p) (lkP S p)) = lkP S p
    · rw [if_pos e]
      have := sm_upd (w := (LK S p).2.2) (v := fun l => g ((LK S p).2.1 l)) (LK S p).1 e.1
      show _ = sm (fun l => (if l = pos (LK S p) (lkP S p) then (LK S p).2.2 l + 1 else (LK S p).2.2 l) * g ((LK S p).2.1 l)) (LK S p).1
      rw [this]
      show _ = _ + g ((LK S p).2.1 (pos (LK S p) (lkP S p)))
      rw [e.2]
    · rw [if_neg e]
      show _ = sm (fun l => ins (LK S p).2.2 (pos (LK S p) (lkP S p)) 1 l * g (ins (LK S p).2.1 (pos (LK S p) (lkP S p)) (lkP S p) l)) ((LK S p).1 + 1)
      rw [← sm_insg (u := fun l => (LK S p).2.2 l * g ((LK S p).2.1 l)) (y := g (lkP S p)) (LK S p).1 p1]
      refine sm_eq _ (fun l _ => ?_)
      show (if l < pos (LK S p) (lkP S p) then _ else if l = pos (LK S p) (lkP S p) then _ else _) = (if l < pos (LK S p) (lkP S p) then (LK S p).2.2 l else if l = pos (LK S p) (lkP S p) then 1 else (LK S p).2.2 (l - 1)) * g (if l < pos (LK S p) (lkP S p) then (LK S p).2.1 l else if l = pos (LK S p) (lkP S p) then lkP S p else (LK S p).2.1 (l - 1))
      by_cases a1 : l < pos (LK S p) (lkP S p)
      · simp only [a1, if_true]
      · by_cases a2 : l = pos (LK S p) (lkP S p)
        · simp only [a1, a2, Nat.lt_irrefl, if_true, if_false, Nat.one_mul]
        · simp only [a1, a2, if_false]
def rcx (lk : Nat → Nat) (gl link c : Nat) : Nat → Nat → Nat
  | 0, _ => ap c gl
  | n + 1, set => if set.testBit n then min (rcx lk gl link c n set) (link + ap c (lk n)) else rcx lk gl link c n set
theorem rcx_rc {lk : Nat → Nat} {gl link i : Nat} : ∀ n set, rcx lk gl link (lk i) n set = rc lk gl link i n set := by
  intro n
  induction n with
  | zero => intro set; rfl
  | succ n ih => intro set; unfold rcx rc; rw [ih]
theorem pcs_par {S : vS} (set : Nat) : pcs (KK S) (gl_ S) set = sm (fun p => rc (KK S).2.1 (gl_ S) 1 (pos (KK S) (lkP S p)) (KK S).1 set) (paS S).1 := by
  have := wear_sum (S := S) (g := fun c => rcx (KK S).2.1 (gl_ S) 1 c (KK S).1 set) (paS S).1
  unfold pcs
  rw [sm_eq (KK S).1 (fun l _ => by show (KK S).2.2 l * rc (KK S).2.1 (gl_ S) 1 l (KK S).1 set = (LK S (paS S).1).2.2 l * rcx (KK S).2.1 (gl_ S) 1 ((LK S (paS S).1).2.1 l) (KK S).1 set; rw [show rcx (KK S).2.1 (gl_ S) 1 ((LK S (paS S).1).2.1 l) (KK S).1 set = rc (KK S).2.1 (gl_ S) 1 l (KK S).1 set from rcx_rc _ _]; rfl)]
  refine Eq.trans this.symm (sm_eq _ (fun p hp => ?_))
  show rcx _ _ _ (lkP S p) _ _ = _
  rw [← rcx_rc, (KK_pos hp).2]
theorem m_cheapest {M : vM} {n gl l set : Nat} {lk : Nat → Nat} (hn : n ≤ 8) (hl : lOK n lk) (hll : l < n) (hset : set < 256) (hm : M 190 12 = nI n) (hK : rLn M n lk gl) : F_X11_cheapest [.ref 190, .int (nI l), .int (nI set)] gA M = some (some (.int (nI (rc lk gl 1 l n set))), gA, M) := by
  obtain ⟨k1, k2⟩ := hK l hll
  have b1 : ((nI 1 : Int32) = 1) = True := by simp [nI]
  have b0 : ((nI 0 : Int32) = 1) = False := by simp [nI]
  refine eqF (run_wp ⟨Nat.le_of_ble_eq_true rfl, rfl⟩ ?_)
  simp only [D_X11_cheapest, wp_con, wp_ild0, wp_ald0, wp_ist0, wp_inc0, wp_ild1, wp_ald1, wp_ist1n, wp_inc1n, wp_ist1i, wp_inc1i, wp_ist1r, wp_inc1r, wp_ild2, wp_ald2, wp_ist2n, wp_inc2n, wp_ist2i, wp_inc2i, wp_ist2r, wp_inc2r, wp_ild3, wp_ald3, wp_ist3n, wp_inc3n, wp_ist3i, wp_inc3i, wp_ist3r, wp_inc3r, wp_ild4, wp_ald4, wp_ist4n, wp_inc4n, wp_ist4i, wp_inc4i, wp_ist4r, wp_inc4r, wp_ild5, wp_ald5, wp_ist5n, wp_inc5n, wp_ist5i, wp_inc5i, wp_ist5r, wp_inc5r, wp_ild6, wp_ald6, wp_ist6n, wp_inc6n, wp_ist6i, wp_inc6i, wp_ist6r, wp_inc6r, wp_ild7, wp_ald7, wp_ist7n, wp_inc7n, wp_ist7i, wp_inc7i, wp_ist7r, wp_inc7r, wp_ild8, wp_ald8, wp_ist8n, wp_inc8n, wp_ist8i, wp_inc8i, wp_ist8r, wp_inc8r, wp_ild9, wp_ald9, wp_ist9n, wp_inc9n, wp_ist9i, wp_inc9i, wp_ist9r, wp_inc9r, wp_bin, wp_div, wp_dupi, wp_dupr, wp_dup2, wp_popi, wp_popr, wp_ifeq, wp_ifne, wp_iflt, wp_ifge, wp_ifgt, wp_ifle, wp_iceq, wp_icne, wp_iclt, wp_icge, wp_icgt, wp_icle, wp_jmp, wp_seq, sq_j, sq_r, lq_j, lq_r, eq_r, wp_kil, wp_ret, wp_zret, wp_vret, wp_aret, wp_gfi, wp_gfr, wp_pfi, wp_pfz, wp_ial, wp_ias, wp_aal, wp_gst, wp_sal, wp_min, wp_calV0, wp_calV1, wp_calS1, wp_calV2, wp_calS2, wp_calV3, wp_calS3, wp_calV4, wp_calS4, wp_calV5, wp_calS5, wp_acp, wp_i2l, wp_l2i, wp_lcon, wp_lbin, wp_ldiv, psh_s, psh_n, en, List.map_cons, List.map_nil, List.cons_append, List.nil_append, List.length_cons, List.length_nil, List.replicate_succ, List.replicate_zero, List.zipWith_cons_cons, List.zipWith_nil_left, List.zipWith_nil_right, if_true, if_false, Bool.false_eq_true, Nat.reduceAdd, Nat.reduceSub, Nat.reduceLeDiff, Nat.reduceEqDiff, Nat.reduceMul, true_and, and_true, Option.some.injEq, exists_eq_left', Nat.le_refl, Nat.zero_le, reduceIte, Nat.add_zero, Nat.zero_add, mF, l_9, f_mul, N_mul, N_cl (show 9 * l < 2147483648 by omega), N_in (show 9 * l < 72 by omega) (show 72 < 2147483648 by decide), k1, l_0]
  refine wp_for n (fun t L M' => M' = M ∧ L = [some (.ref 190), some (.int (nI l)), some (.int (nI set)), some (.int (nI (rc lk gl 1 l t set))), some (.int (nI t)), none]) ?_ ?_ 4000 0 _ _ (by omega) (by omega) ⟨rfl, rfl⟩
  · rintro t L M' ht ⟨rfl, rfl⟩
    have hap := ap_le (lk l) (lk t) (hl l hll).2
    have hr := rc_le (lk := lk) (gl := gl) (link := 1) (hl l hll).2 t set
    have sub : nI (2 + ap (lk l) (lk t)) - 1 = nI (1 + ap (lk l) (lk t)) := by rw [N_p _ (by omega)]; congr 1; omega
    cases hb : set.testBit t with
    | false =>
      have e : rc lk gl 1 l (t + 1) set = rc lk gl 1 l t set := by show (if set.testBit t = true then _ else rc lk gl 1 l t set) = _; rw [hb]; rfl
      simp only [B_X11_cheapest_13, K_X11_cheapest_61, K_X11_cheapest_62, wp_con, wp_ild0, wp_ald0, wp_ist0, wp_inc0, wp_ild1, wp_ald1, wp_ist1n, wp_inc1n, wp_ist1i, wp_inc1i, wp_ist1r, wp_inc1r, wp_ild2, wp_ald2, wp_ist2n, wp_inc2n, wp_ist2i, wp_inc2i, wp_ist2r, wp_inc2r, wp_ild3, wp_ald3, wp_ist3n, wp_inc3n, wp_ist3i, wp_inc3i, wp_ist3r, wp_inc3r, wp_ild4, wp_ald4, wp_ist4n, wp_inc4n, wp_ist4i, wp_inc4i, wp_ist4r, wp_inc4r, wp_ild5, wp_ald5, wp_ist5n, wp_inc5n, wp_ist5i, wp_inc5i, wp_ist5r, wp_inc5r, wp_ild6, wp_ald6, wp_ist6n, wp_inc6n, wp_ist6i, wp_inc6i, wp_ist6r, wp_inc6r, wp_ild7, wp_ald7, wp_ist7n, wp_inc7n, wp_ist7i, wp_inc7i, wp_ist7r, wp_inc7r, wp_ild8, wp_ald8, wp_ist8n, wp_inc8n, wp_ist8i, wp_inc8i, wp_ist8r, wp_inc8r, wp_ild9, wp_ald9, wp_ist9n, wp_inc9n, wp_ist9i, wp_inc9i, wp_ist9r, wp_inc9r, wp_bin, wp_div, wp_dupi, wp_dupr, wp_dup2, wp_popi, wp_popr, wp_ifeq, wp_ifne, wp_iflt, wp_ifge, wp_ifgt, wp_ifle, wp_iceq, wp_icne, wp_iclt, wp_icge, wp_icgt, wp_icle, wp_jmp, wp_seq, sq_j, sq_r, lq_j, lq_r, eq_r, wp_kil, wp_ret, wp_zret, wp_vret, wp_aret, wp_gfi, wp_gfr, wp_pfi, wp_pfz, wp_ial, wp_ias, wp_aal, wp_gst, wp_sal, wp_min, wp_calV0, wp_calV1, wp_calS1, wp_calV2, wp_calS2, wp_calV3, wp_calS3, wp_calV4, wp_calS4, wp_calV5, wp_calS5, wp_acp, wp_i2l, wp_l2i, wp_lcon, wp_lbin, wp_ldiv, psh_s, psh_n, en, List.map_cons, List.map_nil, List.cons_append, List.nil_append, List.length_cons, List.length_nil, List.replicate_succ, List.replicate_zero, List.zipWith_cons_cons, List.zipWith_nil_left, List.zipWith_nil_right, if_true, if_false, Bool.false_eq_true, Nat.reduceAdd, Nat.reduceSub, Nat.reduceLeDiff, Nat.reduceEqDiff, Nat.reduceMul, true_and, and_true, Option.some.injEq, exists_eq_left', Nat.le_refl, Nat.zero_le, reduceIte, Nat.add_zero, Nat.zero_add, mF, hm, N_le (show n < 2147483648 by omega) (show t < 2147483648 by omega), show ¬ n ≤ t by omega, bI_t, bI_f, z10, eq_self, not_true_eq_false, not_false_eq_true, true_implies, false_implies, true_and, and_true, l_9, f_mul, f_add, f_sub, N_mul, N_add, N_s, N_cl (show 9 * l + t + 1 < 2147483648 by omega), N_in (show 9 * l + t + 1 < 72 by omega) (show 72 < 2147483648 by decide), k2 t ht, sub, f_shr, f_and, bit_at (show t < 31 by omega) (show set < 2147483648 by omega), hb, Bool.false_eq_true, if_false, b0, e]
    | true =>
      have e : rc lk gl 1 l (t + 1) set = min (rc lk gl 1 l t set) (1 + ap (lk l) (lk t)) := by show (if set.testBit t = true then _ else _) = _; rw [hb]; rfl
      simp only [B_X11_cheapest_13, K_X11_cheapest_61, K_X11_cheapest_62, wp_con, wp_ild0, wp_ald0, wp_ist0, wp_inc0, wp_ild1, wp_ald1, wp_ist1n, wp_inc1n, wp_ist1i, wp_inc1i, wp_ist1r, wp_inc1r, wp_ild2, wp_ald2, wp_ist2n, wp_inc2n, wp_ist2i, wp_inc2i, wp_ist2r, wp_inc2r, wp_ild3, wp_ald3, wp_ist3n, wp_inc3n, wp_ist3i, wp_inc3i, wp_ist3r, wp_inc3r, wp_ild4, wp_ald4, wp_ist4n, wp_inc4n, wp_ist4i, wp_inc4i, wp_ist4r, wp_inc4r, wp_ild5, wp_ald5, wp_ist5n, wp_inc5n, wp_ist5i, wp_inc5i, wp_ist5r, wp_inc5r, wp_ild6, wp_ald6, wp_ist6n, wp_inc6n, wp_ist6i, wp_inc6i, wp_ist6r, wp_inc6r, wp_ild7, wp_ald7, wp_ist7n, wp_inc7n, wp_ist7i, wp_inc7i, wp_ist7r, wp_inc7r, wp_ild8, wp_ald8, wp_ist8n, wp_inc8n, wp_ist8i, wp_inc8i, wp_ist8r, wp_inc8r, wp_ild9, wp_ald9, wp_ist9n, wp_inc9n, wp_ist9i, wp_inc9i, wp_ist9r, wp_inc9r, wp_bin, wp_div, wp_dupi, wp_dupr, wp_dup2, wp_popi, wp_popr, wp_ifeq, wp_ifne, wp_iflt, wp_ifge, wp_ifgt, wp_ifle, wp_iceq, wp_icne, wp_iclt, wp_icge, wp_icgt, wp_icle, wp_jmp, wp_seq, sq_j, sq_r, lq_j, lq_r, eq_r, wp_kil, wp_ret, wp_zret, wp_vret, wp_aret, wp_gfi, wp_gfr, wp_pfi, wp_pfz, wp_ial, wp_ias, wp_aal, wp_gst, wp_sal, wp_min, wp_calV0, wp_calV1, wp_calS1, wp_calV2, wp_calS2, wp_calV3, wp_calS3, wp_calV4, wp_calS4, wp_calV5, wp_calS5, wp_acp, wp_i2l, wp_l2i, wp_lcon, wp_lbin, wp_ldiv, psh_s, psh_n, en, List.map_cons, List.map_nil, List.cons_append, List.nil_append, List.length_cons, List.length_nil, List.replicate_succ, List.replicate_zero, List.zipWith_cons_cons, List.zipWith_nil_left, List.zipWith_nil_right, if_true, if_false, Bool.false_eq_true, Nat.reduceAdd, Nat.reduceSub, Nat.reduceLeDiff, Nat.reduceEqDiff, Nat.reduceMul, true_and, and_true, Option.some.injEq, exists_eq_left', Nat.le_refl, Nat.zero_le, reduceIte, Nat.add_zero, Nat.zero_add, mF, hm, N_le (show n < 2147483648 by omega) (show t < 2147483648 by omega), show ¬ n ≤ t by omega, bI_t, bI_f, z10, eq_self, not_true_eq_false, not_false_eq_true, true_implies, false_implies, true_and, and_true, l_9, f_mul, f_add, f_sub, N_mul, N_add, N_s, N_cl (show 9 * l + t + 1 < 2147483648 by omega), N_in (show 9 * l + t + 1 < 72 by omega) (show 72 < 2147483648 by decide), k2 t ht, sub, f_shr, f_and, bit_at (show t < 31 by omega) (show set < 2147483648 by omega), hb, if_true, b1, N_le (show rc lk gl 1 l t set < 2147483648 by omega) (show 1 + ap (lk l) (lk t) < 2147483648 by omega), e]
      by_cases q : rc lk gl 1 l t set ≤ 1 + ap (lk l) (lk t)
      · simp only [q, bI_t, bI_f, z10, eq_self, not_true_eq_false, not_false_eq_true, true_implies, false_implies, true_and, and_true, Nat.min_eq_left q]
      · simp only [q, bI_t, bI_f, z10, eq_self, not_true_eq_false, not_false_eq_true, true_implies, false_implies, true_and, and_true, Nat.min_eq_right (Nat.le_of_lt (Nat.lt_of_not_le q))]
  · rintro L M' ⟨rfl, rfl⟩
    simp only [B_X11_cheapest_13, K_X11_cheapest_69, wp_con, wp_ild0, wp_ald0, wp_ist0, wp_inc0, wp_ild1, wp_ald1, wp_ist1n, wp_inc1n, wp_ist1i, wp_inc1i, wp_ist1r, wp_inc1r, wp_ild2, wp_ald2, wp_ist2n, wp_inc2n, wp_ist2i, wp_inc2i, wp_ist2r, wp_inc2r, wp_ild3, wp_ald3, wp_ist3n, wp_inc3n, wp_ist3i, wp_inc3i, wp_ist3r, wp_inc3r, wp_ild4, wp_ald4, wp_ist4n, wp_inc4n, wp_ist4i, wp_inc4i, wp_ist4r, wp_inc4r, wp_ild5, wp_ald5, wp_ist5n, wp_inc5n, wp_ist5i, wp_inc5i, wp_ist5r, wp_inc5r, wp_ild6, wp_ald6, wp_ist6n, wp_inc6n, wp_ist6i, wp_inc6i, wp_ist6r, wp_inc6r, wp_ild7, wp_ald7, wp_ist7n, wp_inc7n, wp_ist7i, wp_inc7i, wp_ist7r, wp_inc7r, wp_ild8, wp_ald8, wp_ist8n, wp_inc8n, wp_ist8i, wp_inc8i, wp_ist8r, wp_inc8r, wp_ild9, wp_ald9, wp_ist9n, wp_inc9n, wp_ist9i, wp_inc9i, wp_ist9r, wp_inc9r, wp_bin, wp_div, wp_dupi, wp_dupr, wp_dup2, wp_popi, wp_popr, wp_ifeq, wp_ifne, wp_iflt, wp_ifge, wp_ifgt, wp_ifle, wp_iceq, wp_icne, wp_iclt, wp_icge, wp_icgt, wp_icle, wp_jmp, wp_seq, sq_j, sq_r, lq_j, lq_r, eq_r, wp_kil, wp_ret, wp_zret, wp_vret, wp_aret, wp_gfi, wp_gfr, wp_pfi, wp_pfz, wp_ial, wp_ias, wp_aal, wp_gst, wp_sal, wp_min, wp_calV0, wp_calV1, wp_calS1, wp_calV2, wp_calS2, wp_calV3, wp_calS3, wp_calV4, wp_calS4, wp_calV5, wp_calS5, wp_acp, wp_i2l, wp_l2i, wp_lcon, wp_lbin, wp_ldiv, psh_s, psh_n, en, List.map_cons, List.map_nil, List.cons_append, List.nil_append, List.length_cons, List.length_nil, List.replicate_succ, List.replicate_zero, List.zipWith_cons_cons, List.zipWith_nil_left, List.zipWith_nil_right, if_true, if_false, Bool.false_eq_true, Nat.reduceAdd, Nat.reduceSub, Nat.reduceLeDiff, Nat.reduceEqDiff, Nat.reduceMul, true_and, and_true, Option.some.injEq, exists_eq_left', Nat.le_refl, Nat.zero_le, reduceIte, Nat.add_zero, Nat.zero_add, mF, hm, N_le (show n < 2147483648 by omega) (show n < 2147483648 by omega), Nat.le_refl, bI_t, bI_f, z10, eq_self, not_true_eq_false, not_false_eq_true, true_implies, false_implies, true_and, and_true]
