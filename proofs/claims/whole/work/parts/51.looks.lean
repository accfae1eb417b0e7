/-! ===== the looks that occur ===== -/
/-- how many, the looks rising, how many paragraphs have each -/
abbrev vK : Type := Nat × (Nat → Nat) × (Nat → Nat)
def srt (n : Nat) (f : Nat → Nat) : Prop := ∀ i j, i < j → j < n → f i < f j
def ins (f : Nat → Nat) (a x : Nat) : Nat → Nat := fun i => if i < a then f i else if i = a then x else f (i - 1)
def pos (K : vK) (x : Nat) : Nat := cnt (fun j => decide (K.2.1 j < x)) K.1
def ent (K : vK) (x : Nat) : vK := if pos K x < K.1 ∧ K.2.1 (pos K x) = x then (K.1, K.2.1, fun i => if i = pos K x then K.2.2 i + 1 else K.2.2 i) else (K.1 + 1, ins K.2.1 (pos K x) x, ins K.2.2 (pos K x) 1)
def LK (S : vS) : Nat → vK
  | 0 => (0, fun _ => 0, fun _ => 0)
  | p + 1 => ent (LK S p) (lkP S p)
theorem cnt_eq {p q : Nat → Bool} : ∀ n, (∀ j, j < n → p j = q j) → cnt p n = cnt q n
  | 0, _ => rfl
  | n + 1, h => by simp only [cnt, cnt_eq n (fun j hj => h j (by omega)), h n (by omega)]
theorem cnt_first {f : Nat → Nat} {x : Nat} : ∀ n i, srt n f → i ≤ n → (∀ j, j < i → f j < x) → (i = n ∨ x ≤ f i) → cnt (fun j => decide (f j < x)) n = i
  | 0, i, _, hi, _, _ => by
    have : i = 0 := by omega
    rw [this]
    rfl
  | n + 1, i, hs, hi, h1, h2 => by
    have hs' : srt n f := fun a b hab hb => hs a b hab (by omega)
    simp only [cnt]
    by_cases hin : i = n + 1
    · have := cnt_first n n hs' (Nat.le_refl _) (fun j hj => h1 j (by omega)) (Or.inl rfl)
      have hn := h1 n (by omega)
      rw [this, hin]
      simp [hn]
    · have h3 : x ≤ f i := by
        rcases h2 with h | h
        · exact absurd h hin
        · exact h
      have hfn : ¬ f n < x := by
        by_cases e : i = n
        · rw [← e]; omega
        · have := hs i n (by omega) (by omega)
          omega
      have := cnt_first n i hs' (by omega) h1 (by
        by_cases e : i = n
        · exact Or.inl e
        · exact Or.inr h3)
      rw [this]
      simp [hfn]
theorem pos_spec {n : Nat} {f w : Nat → Nat} (hs : srt n f) (x : Nat) : pos (n, f, w) x ≤ n ∧ (∀ j, j < pos (n, f, w) x → f j < x) ∧ (pos (n, f, w) x = n ∨ x ≤ f (pos (n, f, w) x)) := by
  have : ∃ i, i ≤ n ∧ (∀ j, j < i → f j < x) ∧ (i = n ∨ x ≤ f i) := by
    clear hs
    induction n with
    | zero => exact ⟨0, Nat.le_refl _, fun j hj => by omega, Or.inl rfl⟩
    | succ n ih =>
      obtain ⟨i, h1, h2, h3⟩ := ih
      rcases h3 with h3 | h3
      · subst h3
        by_cases hf : f i < x
        · exact ⟨i + 1, Nat.le_refl _, fun j hj => by
            by_cases e : j = i
            · rw [e]; exact hf
            · exact h2 j (by omega), Or.inl rfl⟩
        · exact ⟨i, by omega, h2, Or.inr (by omega)⟩
      · exact ⟨i, by omega, h2, Or.inr h3⟩
  obtain ⟨i, h1, h2, h3⟩ := this
  have e : pos (n, f, w) x = i := cnt_first n i hs h1 h2 h3
  rw [e]
  exact ⟨h1, h2, h3⟩
theorem ins_srt {n a x : Nat} {f : Nat → Nat} (hs : srt n f) (ha : a ≤ n) (h1 : ∀ j, j < a → f j < x) (h2 : ∀ j, a ≤ j → j < n → x < f j) : srt (n + 1) (ins f a x) := by
  intro i j hij hj
  unfold ins
  by_cases hia : i < a
  · rw [if_pos hia]
    by_cases hja : j < a
    · rw [if_pos hja]; exact hs i j hij (by omega)
    · rw [if_neg hja]
      by_cases e : j = a
      · rw [if_pos e]; exact h1 i hia
      · rw [if_neg e]
        have := h1 i hia
        have := h2 (j - 1) (by omega) (by omega)
        omega
  · rw [if_neg hia, if_neg (by omega : ¬ j < a), if_neg (by omega : ¬ j = a)]
    by_cases e : i = a
    · rw [if_pos e]
      exact h2 (j - 1) (by omega) (by omega)
    · rw [if_neg e]
      exact hs (i - 1) (j - 1) (by omega) (by omega)
/-- what the looks are: rising, each that of a paragraph, no more than the paragraphs -/
theorem LK_ok {S : vS} : ∀ p, srt (LK S p).1 (LK S p).2.1 ∧ (LK S p).1 ≤ p ∧ ∀ j, j < (LK S p).1 → ∃ q, q < p ∧ (LK S p).2.1 j = lkP S q
  | 0 => ⟨fun i j _ hj => absurd hj (Nat.not_lt_zero j), Nat.le_refl _, fun j hj => absurd hj (Nat.not_lt_zero j)⟩
  | p + 1 => by
    obtain ⟨hs, hn, hq⟩ := LK_ok (S := S) p
    show srt (ent (LK S p) (lkP S p)).1 (ent (LK S p) (lkP S p)).2.1 ∧ (ent (LK S p) (lkP S p)).1 ≤ p + 1 ∧ ∀ j, j < (ent (LK S p) (lkP S p)).1 → ∃ q, q < p + 1 ∧ (ent (LK S p) (lkP S p)).2.1 j = lkP S q
    generalize LK S p = K at hs hn hq
    obtain ⟨n, f, w⟩ := K
    have hs : srt n f := hs
    have hn : n ≤ p := hn
    obtain ⟨p1, p2, p3⟩ := pos_spec (w := w) hs (lkP S p)
    unfold ent
    split
    · exact ⟨hs, by omega, fun j hj => by obtain ⟨q, h1, h2⟩ := hq j hj; exact ⟨q, by omega, h2⟩⟩
    · next hc =>
      refine ⟨ins_srt hs p1 p2 (fun j h1 h2 => ?_), by show n + 1 ≤ p + 1; have : n ≤ p := hn; omega, fun j hj => ?_⟩
      · show lkP S p < f j
        have h3 : lkP S p ≤ f (pos (n, f, w) (lkP S p)) := by
          rcases p3 with h | h
          · omega
          · exact h
        have h4 : f (pos (n, f, w) (lkP S p)) ≠ lkP S p := fun e => hc ⟨by show _ < n; omega, e⟩
        by_cases e : j = pos (n, f, w) (lkP S p)
        · rw [e]; omega
        · have := hs (pos (n, f, w) (lkP S p)) j (by omega) h2
          omega
      · show ∃ q, q < p + 1 ∧ ins f (pos (n, f, w) (lkP S p)) (lkP S p) j = lkP S q
        have hj : j < n + 1 := hj
        unfold ins
        split
        · obtain ⟨q, h1, h2⟩ := hq j (by show j < n; omega); exact ⟨q, by omega, h2⟩
        · split
          · exact ⟨p, by omega, rfl⟩
          · obtain ⟨q, h1, h2⟩ := hq (j - 1) (by show j - 1 < n; omega); exact ⟨q, by omega, h2⟩
theorem LK_wear {S : vS} : ∀ p j, j < (LK S p).1 → (LK S p).2.2 j ≤ p
  | 0, j, hj => absurd hj (Nat.not_lt_zero j)
  | p + 1, j, hj => by
    obtain ⟨hs, hn, hq⟩ := LK_ok (S := S) p
    have ih := LK_wear (S := S) p
    show (ent (LK S p) (lkP S p)).2.2 j ≤ p + 1
    have hj : j < (ent (LK S p) (lkP S p)).1 := hj
    generalize LK S p = K at hs hn hq ih hj
    obtain ⟨n, f, w⟩ := K
    have hs : srt n f := hs
    have hn : n ≤ p := hn
    unfold ent at hj ⊢
    split
    · next hc =>
      rw [if_pos hc] at hj
      show (if j = pos (n, f, w) (lkP S p) then w j + 1 else w j) ≤ p + 1
      have := ih j hj
      simp only at this
      split <;> omega
    · next hc =>
      rw [if_neg hc] at hj
      have hj : j < n + 1 := hj
      obtain ⟨p1, -, -⟩ := pos_spec (w := w) hs (lkP S p)
      show ins w (pos (n, f, w) (lkP S p)) 1 j ≤ p + 1
      unfold ins
      split
      · have := ih j (by show j < n; omega); simp only at this; omega
      · split
        · omega
        · have := ih (j - 1) (by show j - 1 < n; omega); simp only at this; omega
/-! the class' looks -/
def rLk (M : vM) (K : vK) : Prop := M 144 0 = nI K.1 ∧ ∀ j, j < K.1 → M 145 j = nI (K.2.1 j) ∧ M 146 j = nI (K.2.2 j)
def frK (M M' : vM) : Prop := ∀ a, a < 144 ∨ 146 < a → M' a = M a
theorem v_lholds {n : Nat} {M : vM} (h1 : M 144 0 = nI n) (hn : n < 2147483648) (x : Int32) : F_X5_holds [.ref 144, .int x] gA M = some (some (.int (bI (inB x n))), gA, M) := by
  refine eqF (run_wp ⟨Nat.le_of_ble_eq_true rfl, rfl⟩ ?_)
  simp only [K_X5_holds_16, K_X5_holds_17, D_X5_holds, wp_con, wp_ild0, wp_ald0, wp_ist0, wp_inc0, wp_ild1, wp_ald1, wp_ist1n, wp_inc1n, wp_ist1i, wp_inc1i, wp_ist1r, wp_inc1r, wp_ild2, wp_ald2, wp_ist2n, wp_inc2n, wp_ist2i, wp_inc2i, wp_ist2r, wp_inc2r, wp_ild3, wp_ald3, wp_ist3n, wp_inc3n, wp_ist3i, wp_inc3i, wp_ist3r, wp_inc3r, wp_ild4, wp_ald4, wp_ist4n, wp_inc4n, wp_ist4i, wp_inc4i, wp_ist4r, wp_inc4r, wp_ild5, wp_ald5, wp_ist5n, wp_inc5n, wp_ist5i, wp_inc5i, wp_ist5r, wp_inc5r, wp_ild6, wp_ald6, wp_ist6n, wp_inc6n, wp_ist6i, wp_inc6i, wp_ist6r, wp_inc6r, wp_ild7, wp_ald7, wp_ist7n, wp_inc7n, wp_ist7i, wp_inc7i, wp_ist7r, wp_inc7r, wp_ild8, wp_ald8, wp_ist8n, wp_inc8n, wp_ist8i, wp_inc8i, wp_ist8r, wp_inc8r, wp_ild9, wp_ald9, wp_ist9n, wp_inc9n, wp_ist9i, wp_inc9i, wp_ist9r, wp_inc9r, wp_bin, wp_div, wp_dupi, wp_dupr, wp_dup2, wp_popi, wp_popr, wp_ifeq, wp_ifne, wp_iflt, wp_ifge, wp_ifgt, wp_ifle, wp_iceq, wp_icne, wp_iclt, wp_icge, wp_icgt, wp_icle, wp_jmp, wp_seq, sq_j, sq_r, lq_j, lq_r, eq_r, wp_kil, wp_ret, wp_zret, wp_vret, wp_aret, wp_gfi, wp_gfr, wp_pfi, wp_pfz, wp_ial, wp_ias, wp_aal, wp_gst, wp_sal, wp_min, wp_calV0, wp_calV1, wp_calS1, wp_calV2, wp_calS2, wp_calV3, wp_calS3, wp_calV4, wp_calS4, wp_calV5, wp_calS5, wp_acp, wp_i2l, wp_l2i, wp_lcon, wp_lbin, wp_ldiv, psh_s, psh_n, en, List.map_cons, List.map_nil, List.cons_append, List.nil_append, List.length_cons, List.length_nil, List.replicate_succ, List.replicate_zero, List.zipWith_cons_cons, List.zipWith_nil_left, List.zipWith_nil_right, if_true, if_false, Bool.false_eq_true, Nat.reduceAdd, Nat.reduceSub, Nat.reduceLeDiff, Nat.reduceEqDiff, Nat.reduceMul, true_and, and_true, Option.some.injEq, exists_eq_left', Nat.le_refl, Nat.zero_le, reduceIte, Nat.add_zero, Nat.zero_add, xF0, xF1, xF2, xF3, N_s, l_0, l_2, l_3, l_4, l_5, l_6, l_7, l_8, l_9, l_10, l_12, l_15, l_16, l_20, l_22, l_23, l_31, l_52, l_99, l_110, l_127, h1]
  rcases N_any x with h | ⟨j, hj, rfl⟩
  · have h2 : inB x n = false := by simp [inB, Int32.not_le.mpr h]
    simp [h, h2, bI, ← l_0]
  · rw [N_inB hj]
    simp only [N_lt hj (show 0 < 2147483648 by decide), N_le hn hj]
    by_cases h : j < n <;> simp [h, bI, ← l_0, ← l_1] <;> omega
theorem v_numberOf {M : vM} {K : vK} (hK : rLk M K) (hs : srt K.1 K.2.1) (hn : K.1 ≤ 8) (hf : ∀ j, j < K.1 → K.2.1 j < 16777216) {x : Nat} (hx : x < 16777216) : F_X5_numberOf [.ref 144, .int (nI x)] gA M = some (some (.int (nI (pos K x))), gA, M) := by
  obtain ⟨n, f, w⟩ := K
  obtain ⟨h1, h2⟩ := hK
  simp only at h1 h2 hs hn hf
  obtain ⟨p1, p2, p3⟩ := pos_spec (w := w) hs x
  refine eqF (run_wp ⟨Nat.le_of_ble_eq_true rfl, rfl⟩ ?_)
  simp only [K_X5_numberOf_26, D_X5_numberOf, wp_con, wp_ild0, wp_ald0, wp_ist0, wp_inc0, wp_ild1, wp_ald1, wp_ist1n, wp_inc1n, wp_ist1i, wp_inc1i, wp_ist1r, wp_inc1r, wp_ild2, wp_ald2, wp_ist2n, wp_inc2n, wp_ist2i, wp_inc2i, wp_ist2r, wp_inc2r, wp_ild3, wp_ald3, wp_ist3n, wp_inc3n, wp_ist3i, wp_inc3i, wp_ist3r, wp_inc3r, wp_ild4, wp_ald4, wp_ist4n, wp_inc4n, wp_ist4i, wp_inc4i, wp_ist4r, wp_inc4r, wp_ild5, wp_ald5, wp_ist5n, wp_inc5n, wp_ist5i, wp_inc5i, wp_ist5r, wp_inc5r, wp_ild6, wp_ald6, wp_ist6n, wp_inc6n, wp_ist6i, wp_inc6i, wp_ist6r, wp_inc6r, wp_ild7, wp_ald7, wp_ist7n, wp_inc7n, wp_ist7i, wp_inc7i, wp_ist7r, wp_inc7r, wp_ild8, wp_ald8, wp_ist8n, wp_inc8n, wp_ist8i, wp_inc8i, wp_ist8r, wp_inc8r, wp_ild9, wp_ald9, wp_ist9n, wp_inc9n, wp_ist9i, wp_inc9i, wp_ist9r, wp_inc9r, wp_bin, wp_div, wp_dupi, wp_dupr, wp_dup2, wp_popi, wp_popr, wp_ifeq, wp_ifne, wp_iflt, wp_ifge, wp_ifgt, wp_ifle, wp_iceq, wp_icne, wp_iclt, wp_icge, wp_icgt, wp_icle, wp_jmp, wp_seq, sq_j, sq_r, lq_j, lq_r, eq_r, wp_kil, wp_ret, wp_zret, wp_vret, wp_aret, wp_gfi, wp_gfr, wp_pfi, wp_pfz, wp_ial, wp_ias, wp_aal, wp_gst, wp_sal, wp_min, wp_calV0, wp_calV1, wp_calS1, wp_calV2, wp_calS2, wp_calV3, wp_calS3, wp_calV4, wp_calS4, wp_calV5, wp_calS5, wp_acp, wp_i2l, wp_l2i, wp_lcon, wp_lbin, wp_ldiv, psh_s, psh_n, en, List.map_cons, List.map_nil, List.cons_append, List.nil_append, List.length_cons, List.length_nil, List.replicate_succ, List.replicate_zero, List.zipWith_cons_cons, List.zipWith_nil_left, List.zipWith_nil_right, if_true, if_false, Bool.false_eq_true, Nat.reduceAdd, Nat.reduceSub, Nat.reduceLeDiff, Nat.reduceEqDiff, Nat.reduceMul, true_and, and_true, Option.some.injEq, exists_eq_left', Nat.le_refl, Nat.zero_le, reduceIte, Nat.add_zero, Nat.zero_add, l_0]
  refine wp_for (pos (n, f, w) x) (fun i L M' => M' = M ∧ L = [some (.ref 144), some (.int (nI x)), some (.int (nI i))]) ?_ ?_ 4000 0 _ _ (by omega) (by omega) ⟨rfl, rfl⟩
  · rintro i L M' hi ⟨rfl, rfl⟩
    have := p2 i hi
    have := hf i (by omega)
    simp only [B_X5_numberOf_2, wp_con, wp_ild0, wp_ald0, wp_ist0, wp_inc0, wp_ild1, wp_ald1, wp_ist1n, wp_inc1n, wp_ist1i, wp_inc1i, wp_ist1r, wp_inc1r, wp_ild2, wp_ald2, wp_ist2n, wp_inc2n, wp_ist2i, wp_inc2i, wp_ist2r, wp_inc2r, wp_ild3, wp_ald3, wp_ist3n, wp_inc3n, wp_ist3i, wp_inc3i, wp_ist3r, wp_inc3r, wp_ild4, wp_ald4, wp_ist4n, wp_inc4n, wp_ist4i, wp_inc4i, wp_ist4r, wp_inc4r, wp_ild5, wp_ald5, wp_ist5n, wp_inc5n, wp_ist5i, wp_inc5i, wp_ist5r, wp_inc5r, wp_ild6, wp_ald6, wp_ist6n, wp_inc6n, wp_ist6i, wp_inc6i, wp_ist6r, wp_inc6r, wp_ild7, wp_ald7, wp_ist7n, wp_inc7n, wp_ist7i, wp_inc7i, wp_ist7r, wp_inc7r, wp_ild8, wp_ald8, wp_ist8n, wp_inc8n, wp_ist8i, wp_inc8i, wp_ist8r, wp_inc8r, wp_ild9, wp_ald9, wp_ist9n, wp_inc9n, wp_ist9i, wp_inc9i, wp_ist9r, wp_inc9r, wp_bin, wp_div, wp_dupi, wp_dupr, wp_dup2, wp_popi, wp_popr, wp_ifeq, wp_ifne, wp_iflt, wp_ifge, wp_ifgt, wp_ifle, wp_iceq, wp_icne, wp_iclt, wp_icge, wp_icgt, wp_icle, wp_jmp, wp_seq, sq_j, sq_r, lq_j, lq_r, eq_r, wp_kil, wp_ret, wp_zret, wp_vret, wp_aret, wp_gfi, wp_gfr, wp_pfi, wp_pfz, wp_ial, wp_ias, wp_aal, wp_gst, wp_sal, wp_min, wp_calV0, wp_calV1, wp_calS1, wp_calV2, wp_calS2, wp_calV3, wp_calS3, wp_calV4, wp_calS4, wp_calV5, wp_calS5, wp_acp, wp_i2l, wp_l2i, wp_lcon, wp_lbin, wp_ldiv, psh_s, psh_n, en, List.map_cons, List.map_nil, List.cons_append, List.nil_append, List.length_cons, List.length_nil, List.replicate_succ, List.replicate_zero, List.zipWith_cons_cons, List.zipWith_nil_left, List.zipWith_nil_right, if_true, if_false, Bool.false_eq_true, Nat.reduceAdd, Nat.reduceSub, Nat.reduceLeDiff, Nat.reduceEqDiff, Nat.reduceMul, true_and, and_true, Option.some.injEq, exists_eq_left', Nat.le_refl, Nat.zero_le, reduceIte, Nat.add_zero, Nat.zero_add, xF0, xF1, xF2, xF3, N_s, h1, N_le (show n < 2147483648 by omega) (show i < 2147483648 by omega), N_cl (show i < 2147483648 by omega), N_in (show i < 8 by omega) (by decide), (h2 i (by omega)).1, N_le (show x < 2147483648 by omega) (show f i < 2147483648 by omega)]
    exact ⟨fun h => absurd h (by omega), fun _ => ⟨fun h => absurd h (by omega), fun _ => trivial⟩⟩
  · rintro L M' ⟨rfl, rfl⟩
    generalize hi : pos (n, f, w) x = i at *
    simp only [B_X5_numberOf_2, K_X5_numberOf_26, wp_con, wp_ild0, wp_ald0, wp_ist0, wp_inc0, wp_ild1, wp_ald1, wp_ist1n, wp_inc1n, wp_ist1i, wp_inc1i, wp_ist1r, wp_inc1r, wp_ild2, wp_ald2, wp_ist2n, wp_inc2n, wp_ist2i, wp_inc2i, wp_ist2r, wp_inc2r, wp_ild3, wp_ald3, wp_ist3n, wp_inc3n, wp_ist3i, wp_inc3i, wp_ist3r, wp_inc3r, wp_ild4, wp_ald4, wp_ist4n, wp_inc4n, wp_ist4i, wp_inc4i, wp_ist4r, wp_inc4r, wp_ild5, wp_ald5, wp_ist5n, wp_inc5n, wp_ist5i, wp_inc5i, wp_ist5r, wp_inc5r, wp_ild6, wp_ald6, wp_ist6n, wp_inc6n, wp_ist6i, wp_inc6i, wp_ist6r, wp_inc6r, wp_ild7, wp_ald7, wp_ist7n, wp_inc7n, wp_ist7i, wp_inc7i, wp_ist7r, wp_inc7r, wp_ild8, wp_ald8, wp_ist8n, wp_inc8n, wp_ist8i, wp_inc8i, wp_ist8r, wp_inc8r, wp_ild9, wp_ald9, wp_ist9n, wp_inc9n, wp_ist9i, wp_inc9i, wp_ist9r, wp_inc9r, wp_bin, wp_div, wp_dupi, wp_dupr, wp_dup2, wp_popi, wp_popr, wp_ifeq, wp_ifne, wp_iflt, wp_ifge, wp_ifgt, wp_ifle, wp_iceq, wp_icne, wp_iclt, wp_icge, wp_icgt, wp_icle, wp_jmp, wp_seq, sq_j, sq_r, lq_j, lq_r, eq_r, wp_kil, wp_ret, wp_zret, wp_vret, wp_aret, wp_gfi, wp_gfr, wp_pfi, wp_pfz, wp_ial, wp_ias, wp_aal, wp_gst, wp_sal, wp_min, wp_calV0, wp_calV1, wp_calS1, wp_calV2, wp_calS2, wp_calV3, wp_calS3, wp_calV4, wp_calS4, wp_calV5, wp_calS5, wp_acp, wp_i2l, wp_l2i, wp_lcon, wp_lbin, wp_ldiv, psh_s, psh_n, en, List.map_cons, List.map_nil, List.cons_append, List.nil_append, List.length_cons, List.length_nil, List.replicate_succ, List.replicate_zero, List.zipWith_cons_cons, List.zipWith_nil_left, List.zipWith_nil_right, if_true, if_false, Bool.false_eq_true, Nat.reduceAdd, Nat.reduceSub, Nat.reduceLeDiff, Nat.reduceEqDiff, Nat.reduceMul, true_and, and_true, Option.some.injEq, exists_eq_left', Nat.le_refl, Nat.zero_le, reduceIte, Nat.add_zero, Nat.zero_add, xF0, xF1, xF2, xF3, N_s, h1, N_le (show n < 2147483648 by omega) (show i < 2147483648 by omega), N_cl (show i < 2147483648 by omega)]
    refine ⟨fun _ => trivial, fun hlt => ?_⟩
    have := hf i (by omega)
    simp only [N_in (show i < 8 by omega) (by decide), (h2 i (by omega)).1, N_le (show x < 2147483648 by omega) (show f i < 2147483648 by omega), true_and]
    refine ⟨fun _ => trivial, fun h => ?_⟩
    rcases p3 with h3 | h3 <;> omega
theorem v_enter {M : vM} {K : vK} (hK : rLk M K) (hs : srt K.1 K.2.1) (hn : K.1 < 8) (hf : ∀ j, j < K.1 → K.2.1 j < 16777216) {x : Nat} (hx : x < 16777216) : wpF F_X5_enter [.ref 144, .int (nI x)] gA M (fun v G' M' => G' = gA ∧ v = none ∧ rLk M' (ent K x) ∧ frK M M') := by
  have e0 := v_numberOf hK hs (by omega) hf hx
  obtain ⟨n, f, w⟩ := K
  obtain ⟨h1, h2⟩ := id hK
  simp only at h1 h2 hs hn hf
  obtain ⟨p1, p2, p3⟩ := pos_spec (w := w) hs x
  generalize hi : pos (n, f, w) x = i at *
  refine run_wp ⟨Nat.le_of_ble_eq_true rfl, rfl⟩ ?_
  have z0 : ∀ y : Nat, y < 2147483648 → (nI 0 ≤ nI y) = True := fun y hy => eq_true ((N_le (by decide) hy).mpr (Nat.zero_le _))
  -- a new look
  have new : ¬ (i < n ∧ f i = x) → wp K_X5_enter_24 [some (.ref 144), some (.int (nI x)), some (.int (nI i))] [] gA M (sq 90 K_X5_enter_90 (eq_ gA (fun v M' => v = none ∧ rLk M' (ent (n, f, w) x) ∧ frK M M'))) := by
    intro hc
    have he : ent (n, f, w) x = (n + 1, ins f i x, ins w i 1) := by
      unfold ent
      rw [hi]
      exact if_neg hc
    rw [he]
    have c1 : ∀ (A : vM), mcpy (mcpy M 145 145 i (i + 1) (n - i)) 146 146 i (i + 1) (n - i) 144 0 = nI n := fun _ => by rw [mcpy_ne (by decide), mcpy_ne (by decide)]; exact h1
    have c2 : mcpy M 145 145 i (i + 1) (n - i) 144 0 = nI n := by rw [mcpy_ne (by decide)]; exact h1
    have c3 : mset (mset (mcpy (mcpy M 145 145 i (i + 1) (n - i)) 146 146 i (i + 1) (n - i)) 145 i (nI x)) 146 i 0 144 0 = nI n := by rw [ms_a (by decide), ms_a (by decide)]; exact c1 M
    simp only [K_X5_enter_24, K_X5_enter_90, wp_con, wp_ild0, wp_ald0, wp_ist0, wp_inc0, wp_ild1, wp_ald1, wp_ist1n, wp_inc1n, wp_ist1i, wp_inc1i, wp_ist1r, wp_inc1r, wp_ild2, wp_ald2, wp_ist2n, wp_inc2n, wp_ist2i, wp_inc2i, wp_ist2r, wp_inc2r, wp_ild3, wp_ald3, wp_ist3n, wp_inc3n, wp_ist3i, wp_inc3i, wp_ist3r, wp_inc3r, wp_ild4, wp_ald4, wp_ist4n, wp_inc4n, wp_ist4i, wp_inc4i, wp_ist4r, wp_inc4r, wp_ild5, wp_ald5, wp_ist5n, wp_inc5n, wp_ist5i, wp_inc5i, wp_ist5r, wp_inc5r, wp_ild6, wp_ald6, wp_ist6n, wp_inc6n, wp_ist6i, wp_inc6i, wp_ist6r, wp_inc6r, wp_ild7, wp_ald7, wp_ist7n, wp_inc7n, wp_ist7i, wp_inc7i, wp_ist7r, wp_inc7r, wp_ild8, wp_ald8, wp_ist8n, wp_inc8n, wp_ist8i, wp_inc8i, wp_ist8r, wp_inc8r, wp_ild9, wp_ald9, wp_ist9n, wp_inc9n, wp_ist9i, wp_inc9i, wp_ist9r, wp_inc9r, wp_bin, wp_div, wp_dupi, wp_dupr, wp_dup2, wp_popi, wp_popr, wp_ifeq, wp_ifne, wp_iflt, wp_ifge, wp_ifgt, wp_ifle, wp_iceq, wp_icne, wp_iclt, wp_icge, wp_icgt, wp_icle, wp_jmp, wp_seq, sq_j, sq_r, lq_j, lq_r, eq_r, wp_kil, wp_ret, wp_zret, wp_vret, wp_aret, wp_gfi, wp_gfr, wp_pfi, wp_pfz, wp_ial, wp_ias, wp_aal, wp_gst, wp_sal, wp_min, wp_calV0, wp_calV1, wp_calS1, wp_calV2, wp_calS2, wp_calV3, wp_calS3, wp_calV4, wp_calS4, wp_calV5, wp_calS5, wp_acp, wp_i2l, wp_l2i, wp_lcon, wp_lbin, wp_ldiv, psh_s, psh_n, en, List.map_cons, List.map_nil, List.cons_append, List.nil_append, List.length_cons, List.length_nil, List.replicate_succ, List.replicate_zero, List.zipWith_cons_cons, List.zipWith_nil_left, List.zipWith_nil_right, if_true, if_false, Bool.false_eq_true, Nat.reduceAdd, Nat.reduceSub, Nat.reduceLeDiff, Nat.reduceEqDiff, Nat.reduceMul, true_and, and_true, Option.some.injEq, exists_eq_left', Nat.le_refl, Nat.zero_le, reduceIte, Nat.add_zero, Nat.zero_add, xF0, xF1, xF2, xF3, N_s, l_0, h1, c2, f_add, f_sub, N_sub p1, N_cl (show i < 2147483648 by omega), N_cl (show i + 1 < 2147483648 by omega), N_cl (show n - i < 2147483648 by omega), z0 i (by omega), z0 (i + 1) (by omega), z0 (n - i) (by omega), N_in (show i < 8 by omega) (by decide)]
    refine ⟨⟨by omega, by omega⟩, ⟨by omega, by omega⟩, ?_, ?_⟩
    · refine ⟨?_, fun j hj => ⟨?_, ?_⟩⟩
      · rw [ms_a (by decide), ms_eq, ms_a (by decide), ms_a (by decide), c1 M, N_s]
      · show _ = nI (ins f i x j)
        have hj : j < n + 1 := hj
        rw [ms_a (by decide), ms_a (by decide), ms_a (by decide)]
        unfold ins
        by_cases e : j = i
        · rw [e, ms_eq, if_neg (by omega), if_pos rfl]
        · rw [ms_k e, mcpy_ne (by decide)]
          by_cases hlt : j < i
          · rw [cp_out (by omega), if_pos hlt]
            exact (h2 j (by omega)).1
          · rw [cp_in (by omega), if_neg hlt, if_neg e, show i + (j - (i + 1)) = j - 1 by omega]
            exact (h2 (j - 1) (by omega)).1
      · show _ = nI (ins w i 1 j)
        have hj : j < n + 1 := hj
        unfold ins
        by_cases e : j = i
        · rw [e, ms_eq, ms_a (by decide), ms_eq, if_neg (by omega), if_pos rfl]
          rfl
        · rw [ms_k e, ms_a (by decide), ms_k e, ms_a (by decide)]
          by_cases hlt : j < i
          · rw [cp_out (by omega), if_pos hlt, mcpy_ne (by decide)]
            exact (h2 j (by omega)).2
          · rw [cp_in (by omega), if_neg hlt, if_neg e, mcpy_ne (by decide), show i + (j - (i + 1)) = j - 1 by omega]
            exact (h2 (j - 1) (by omega)).2
    · intro a ha
      rw [ms_a (by omega), ms_a (by omega), ms_a (by omega), ms_a (by omega), mcpy_ne (by omega), mcpy_ne (by omega)]
  have old : i < n ∧ f i = x → wp K_X5_enter_90 [some (.ref 144), none, some (.int (nI i))] [] gA M (eq_ gA (fun v M' => v = none ∧ rLk M' (ent (n, f, w) x) ∧ frK M M')) := by
    intro hc
    have he : ent (n, f, w) x = (n, f, fun j => if j = i then w j + 1 else w j) := by
      unfold ent
      rw [hi]
      exact if_pos hc
    rw [he]
    simp only [K_X5_enter_90, wp_con, wp_ild0, wp_ald0, wp_ist0, wp_inc0, wp_ild1, wp_ald1, wp_ist1n, wp_inc1n, wp_ist1i, wp_inc1i, wp_ist1r, wp_inc1r, wp_ild2, wp_ald2, wp_ist2n, wp_inc2n, wp_ist2i, wp_inc2i, wp_ist2r, wp_inc2r, wp_ild3, wp_ald3, wp_ist3n, wp_inc3n, wp_ist3i, wp_inc3i, wp_ist3r, wp_inc3r, wp_ild4, wp_ald4, wp_ist4n, wp_inc4n, wp_ist4i, wp_inc4i, wp_ist4r, wp_inc4r, wp_ild5, wp_ald5, wp_ist5n, wp_inc5n, wp_ist5i, wp_inc5i, wp_ist5r, wp_inc5r, wp_ild6, wp_ald6, wp_ist6n, wp_inc6n, wp_ist6i, wp_inc6i, wp_ist6r, wp_inc6r, wp_ild7, wp_ald7, wp_ist7n, wp_inc7n, wp_ist7i, wp_inc7i, wp_ist7r, wp_inc7r, wp_ild8, wp_ald8, wp_ist8n, wp_inc8n, wp_ist8i, wp_inc8i, wp_ist8r, wp_inc8r, wp_ild9, wp_ald9, wp_ist9n, wp_inc9n, wp_ist9i, wp_inc9i, wp_ist9r, wp_inc9r, wp_bin, wp_div, wp_dupi, wp_dupr, wp_dup2, wp_popi, wp_popr, wp_ifeq, wp_ifne, wp_iflt, wp_ifge, wp_ifgt, wp_ifle, wp_iceq, wp_icne, wp_iclt, wp_icge, wp_icgt, wp_icle, wp_jmp, wp_seq, sq_j, sq_r, lq_j, lq_r, eq_r, wp_kil, wp_ret, wp_zret, wp_vret, wp_aret, wp_gfi, wp_gfr, wp_pfi, wp_pfz, wp_ial, wp_ias, wp_aal, wp_gst, wp_sal, wp_min, wp_calV0, wp_calV1, wp_calS1, wp_calV2, wp_calS2, wp_calV3, wp_calS3, wp_calV4, wp_calS4, wp_calV5, wp_calS5, wp_acp, wp_i2l, wp_l2i, wp_lcon, wp_lbin, wp_ldiv, psh_s, psh_n, en, List.map_cons, List.map_nil, List.cons_append, List.nil_append, List.length_cons, List.length_nil, List.replicate_succ, List.replicate_zero, List.zipWith_cons_cons, List.zipWith_nil_left, List.zipWith_nil_right, if_true, if_false, Bool.false_eq_true, Nat.reduceAdd, Nat.reduceSub, Nat.reduceLeDiff, Nat.reduceEqDiff, Nat.reduceMul, true_and, and_true, Option.some.injEq, exists_eq_left', Nat.le_refl, Nat.zero_le, reduceIte, Nat.add_zero, Nat.zero_add, xF0, xF1, xF2, xF3, N_cl (show i < 2147483648 by omega), N_in (show i < 8 by omega) (by decide), f_add, (h2 i hc.1).2, N_s]
    refine ⟨⟨?_, fun j hj => ⟨?_, ?_⟩⟩, fun a ha => ms_a (by omega)⟩
    · rw [ms_a (by decide)]; exact h1
    · rw [ms_a (by decide)]; exact (h2 j hj).1
    · by_cases e : j = i
      · rw [e, ms_eq]; simp
      · rw [ms_k e]; simp only [e, if_false]; exact (h2 j hj).2
  simp only [D_X5_enter, wp_con, wp_ild0, wp_ald0, wp_ist0, wp_inc0, wp_ild1, wp_ald1, wp_ist1n, wp_inc1n, wp_ist1i, wp_inc1i, wp_ist1r, wp_inc1r, wp_ild2, wp_ald2, wp_ist2n, wp_inc2n, wp_ist2i, wp_inc2i, wp_ist2r, wp_inc2r, wp_ild3, wp_ald3, wp_ist3n, wp_inc3n, wp_ist3i, wp_inc3i, wp_ist3r, wp_inc3r, wp_ild4, wp_ald4, wp_ist4n, wp_inc4n, wp_ist4i, wp_inc4i, wp_ist4r, wp_inc4r, wp_ild5, wp_ald5, wp_ist5n, wp_inc5n, wp_ist5i, wp_inc5i, wp_ist5r, wp_inc5r, wp_ild6, wp_ald6, wp_ist6n, wp_inc6n, wp_ist6i, wp_inc6i, wp_ist6r, wp_inc6r, wp_ild7, wp_ald7, wp_ist7n, wp_inc7n, wp_ist7i, wp_inc7i, wp_ist7r, wp_inc7r, wp_ild8, wp_ald8, wp_ist8n, wp_inc8n, wp_ist8i, wp_inc8i, wp_ist8r, wp_inc8r, wp_ild9, wp_ald9, wp_ist9n, wp_inc9n, wp_ist9i, wp_inc9i, wp_ist9r, wp_inc9r, wp_bin, wp_div, wp_dupi, wp_dupr, wp_dup2, wp_popi, wp_popr, wp_ifeq, wp_ifne, wp_iflt, wp_ifge, wp_ifgt, wp_ifle, wp_iceq, wp_icne, wp_iclt, wp_icge, wp_icgt, wp_icle, wp_jmp, wp_seq, sq_j, sq_r, lq_j, lq_r, eq_r, wp_kil, wp_ret, wp_zret, wp_vret, wp_aret, wp_gfi, wp_gfr, wp_pfi, wp_pfz, wp_ial, wp_ias, wp_aal, wp_gst, wp_sal, wp_min, wp_calV0, wp_calV1, wp_calS1, wp_calV2, wp_calS2, wp_calV3, wp_calS3, wp_calV4, wp_calS4, wp_calV5, wp_calS5, wp_acp, wp_i2l, wp_l2i, wp_lcon, wp_lbin, wp_ldiv, psh_s, psh_n, en, List.map_cons, List.map_nil, List.cons_append, List.nil_append, List.length_cons, List.length_nil, List.replicate_succ, List.replicate_zero, List.zipWith_cons_cons, List.zipWith_nil_left, List.zipWith_nil_right, if_true, if_false, Bool.false_eq_true, Nat.reduceAdd, Nat.reduceSub, Nat.reduceLeDiff, Nat.reduceEqDiff, Nat.reduceMul, true_and, and_true, Option.some.injEq, exists_eq_left', Nat.le_refl, Nat.zero_le, reduceIte, Nat.add_zero, Nat.zero_add, xF0, xF1, xF2, xF3, wpF_eq e0, h1, N_eq (show i < 2147483648 by omega) (show n < 2147483648 by omega), N_cl (show i < 2147483648 by omega)]
  refine ⟨fun e => new (fun q => by omega), fun hne => ?_⟩
  have hin : i < n := by omega
  have := hf i hin
  simp only [N_in (show i < 8 by omega) (by decide), (h2 i hin).1, N_eq (show f i < 2147483648 by omega) (show x < 2147483648 by omega), true_and]
  exact ⟨fun e => old ⟨hin, e⟩, fun e => new (fun q => e q.2)⟩
theorem rS1_fr {M M' : vM} {S : vS} (h : rS1 M S) (hf : ∀ a, a ≤ 8 → M' a = M a) : rS1 M' S := by
  unfold rS1 at h ⊢
  rw [hf 1 (by decide), hf 2 (by decide), hf 3 (by decide), hf 4 (by decide), hf 5 (by decide), hf 6 (by decide), hf 7 (by decide), hf 8 (by decide)]
  exact h
theorem LK_lt {S : vS} (h : vOK S) {p : Nat} (hp : p ≤ (paS S).1) {j : Nat} (hj : j < (LK S p).1) : (LK S p).2.1 j < 16777216 ∧ ∀ k, k < 6 → un ((LK S p).2.1 j) k ≤ top k := by
  obtain ⟨q, h1, h2⟩ := (LK_ok p).2.2 j hj
  rw [h2]
  have l := lkP_ok h (show q < (paS S).1 by omega)
  exact ⟨l.1, fun k hk => by rw [l.2 k hk]; exact vpa_ok h (by omega) hk⟩
theorem v_gather {M : vM} {S : vS} (hS : rS1 M S) (h : vOK S) : wpF F_X5_gather [.ref 144, .ref 1] gA M (fun v G' M' => G' = gA ∧ v = none ∧ rLk M' (LK S (paS S).1) ∧ frK M M') := by
  have hm := np_le h
  refine run_wp ⟨Nat.le_of_ble_eq_true rfl, rfl⟩ ?_
  simp only [D_X5_gather, wp_con, wp_ild0, wp_ald0, wp_ist0, wp_inc0, wp_ild1, wp_ald1, wp_ist1n, wp_inc1n, wp_ist1i, wp_inc1i, wp_ist1r, wp_inc1r, wp_ild2, wp_ald2, wp_ist2n, wp_inc2n, wp_ist2i, wp_inc2i, wp_ist2r, wp_inc2r, wp_ild3, wp_ald3, wp_ist3n, wp_inc3n, wp_ist3i, wp_inc3i, wp_ist3r, wp_inc3r, wp_ild4, wp_ald4, wp_ist4n, wp_inc4n, wp_ist4i, wp_inc4i, wp_ist4r, wp_inc4r, wp_ild5, wp_ald5, wp_ist5n, wp_inc5n, wp_ist5i, wp_inc5i, wp_ist5r, wp_inc5r, wp_ild6, wp_ald6, wp_ist6n, wp_inc6n, wp_ist6i, wp_inc6i, wp_ist6r, wp_inc6r, wp_ild7, wp_ald7, wp_ist7n, wp_inc7n, wp_ist7i, wp_inc7i, wp_ist7r, wp_inc7r, wp_ild8, wp_ald8, wp_ist8n, wp_inc8n, wp_ist8i, wp_inc8i, wp_ist8r, wp_inc8r, wp_ild9, wp_ald9, wp_ist9n, wp_inc9n, wp_ist9i, wp_inc9i, wp_ist9r, wp_inc9r, wp_bin, wp_div, wp_dupi, wp_dupr, wp_dup2, wp_popi, wp_popr, wp_ifeq, wp_ifne, wp_iflt, wp_ifge, wp_ifgt, wp_ifle, wp_iceq, wp_icne, wp_iclt, wp_icge, wp_icgt, wp_icle, wp_jmp, wp_seq, sq_j, sq_r, lq_j, lq_r, eq_r, wp_kil, wp_ret, wp_zret, wp_vret, wp_aret, wp_gfi, wp_gfr, wp_pfi, wp_pfz, wp_ial, wp_ias, wp_aal, wp_gst, wp_sal, wp_min, wp_calV0, wp_calV1, wp_calS1, wp_calV2, wp_calS2, wp_calV3, wp_calS3, wp_calV4, wp_calS4, wp_calV5, wp_calS5, wp_acp, wp_i2l, wp_l2i, wp_lcon, wp_lbin, wp_ldiv, psh_s, psh_n, en, List.map_cons, List.map_nil, List.cons_append, List.nil_append, List.length_cons, List.length_nil, List.replicate_succ, List.replicate_zero, List.zipWith_cons_cons, List.zipWith_nil_left, List.zipWith_nil_right, if_true, if_false, Bool.false_eq_true, Nat.reduceAdd, Nat.reduceSub, Nat.reduceLeDiff, Nat.reduceEqDiff, Nat.reduceMul, true_and, and_true, Option.some.injEq, exists_eq_left', Nat.le_refl, Nat.zero_le, reduceIte, Nat.add_zero, Nat.zero_add, xF0, xF1, xF2, xF3, l_0]
  refine wp_for (paS S).1 (fun i L M' => rLk M' (LK S i) ∧ frK M M' ∧ L = [some (.ref 144), some (.ref 1), some (.int (nI i))]) ?_ ?_ 4000 0 _ _ (by omega) (by omega) ⟨⟨ms_eq _ _ _ _, fun j hj => absurd hj (Nat.not_lt_zero j)⟩, fun a ha => ms_a (by omega), rfl⟩
  · rintro i L M' hi ⟨h1, hf, rfl⟩
    have hS' : rS1 M' S := rS1_fr hS (fun a ha => hf a (by omega))
    have hc : M' 6 1 = nI (paS S).1 := hS'.2.2.2.1
    have ok := LK_ok (S := S) i
    simp only [B_X5_gather_7, wp_con, wp_ild0, wp_ald0, wp_ist0, wp_inc0, wp_ild1, wp_ald1, wp_ist1n, wp_inc1n, wp_ist1i, wp_inc1i, wp_ist1r, wp_inc1r, wp_ild2, wp_ald2, wp_ist2n, wp_inc2n, wp_ist2i, wp_inc2i, wp_ist2r, wp_inc2r, wp_ild3, wp_ald3, wp_ist3n, wp_inc3n, wp_ist3i, wp_inc3i, wp_ist3r, wp_inc3r, wp_ild4, wp_ald4, wp_ist4n, wp_inc4n, wp_ist4i, wp_inc4i, wp_ist4r, wp_inc4r, wp_ild5, wp_ald5, wp_ist5n, wp_inc5n, wp_ist5i, wp_inc5i, wp_ist5r, wp_inc5r, wp_ild6, wp_ald6, wp_ist6n, wp_inc6n, wp_ist6i, wp_inc6i, wp_ist6r, wp_inc6r, wp_ild7, wp_ald7, wp_ist7n, wp_inc7n, wp_ist7i, wp_inc7i, wp_ist7r, wp_inc7r, wp_ild8, wp_ald8, wp_ist8n, wp_inc8n, wp_ist8i, wp_inc8i, wp_ist8r, wp_inc8r, wp_ild9, wp_ald9, wp_ist9n, wp_inc9n, wp_ist9i, wp_inc9i, wp_ist9r, wp_inc9r, wp_bin, wp_div, wp_dupi, wp_dupr, wp_dup2, wp_popi, wp_popr, wp_ifeq, wp_ifne, wp_iflt, wp_ifge, wp_ifgt, wp_ifle, wp_iceq, wp_icne, wp_iclt, wp_icge, wp_icgt, wp_icle, wp_jmp, wp_seq, sq_j, sq_r, lq_j, lq_r, eq_r, wp_kil, wp_ret, wp_zret, wp_vret, wp_aret, wp_gfi, wp_gfr, wp_pfi, wp_pfz, wp_ial, wp_ias, wp_aal, wp_gst, wp_sal, wp_min, wp_calV0, wp_calV1, wp_calS1, wp_calV2, wp_calS2, wp_calV3, wp_calS3, wp_calV4, wp_calS4, wp_calV5, wp_calS5, wp_acp, wp_i2l, wp_l2i, wp_lcon, wp_lbin, wp_ldiv, psh_s, psh_n, en, List.map_cons, List.map_nil, List.cons_append, List.nil_append, List.length_cons, List.length_nil, List.replicate_succ, List.replicate_zero, List.zipWith_cons_cons, List.zipWith_nil_left, List.zipWith_nil_right, if_true, if_false, Bool.false_eq_true, Nat.reduceAdd, Nat.reduceSub, Nat.reduceLeDiff, Nat.reduceEqDiff, Nat.reduceMul, true_and, and_true, Option.some.injEq, exists_eq_left', Nat.le_refl, Nat.zero_le, reduceIte, Nat.add_zero, Nat.zero_add, xF0, xF1, xF2, xF3, N_s, hc, N_le (show (paS S).1 < 2147483648 by omega) (show i < 2147483648 by omega), wpF_eq (v_paragraphLook hS' h hi)]
    refine ⟨fun h => absurd h (by omega), fun _ => ?_⟩
    refine wpF_mono (v_enter h1 ok.1 (by omega) (fun j hj => (LK_lt h (by omega) hj).1) (lkP_ok h hi).1) ?_
    rintro v G' M2 ⟨rfl, rfl, h2, f2⟩
    simp only [wp_con, wp_ild0, wp_ald0, wp_ist0, wp_inc0, wp_ild1, wp_ald1, wp_ist1n, wp_inc1n, wp_ist1i, wp_inc1i, wp_ist1r, wp_inc1r, wp_ild2, wp_ald2, wp_ist2n, wp_inc2n, wp_ist2i, wp_inc2i, wp_ist2r, wp_inc2r, wp_ild3, wp_ald3, wp_ist3n, wp_inc3n, wp_ist3i, wp_inc3i, wp_ist3r, wp_inc3r, wp_ild4, wp_ald4, wp_ist4n, wp_inc4n, wp_ist4i, wp_inc4i, wp_ist4r, wp_inc4r, wp_ild5, wp_ald5, wp_ist5n, wp_inc5n, wp_ist5i, wp_inc5i, wp_ist5r, wp_inc5r, wp_ild6, wp_ald6, wp_ist6n, wp_inc6n, wp_ist6i, wp_inc6i, wp_ist6r, wp_inc6r, wp_ild7, wp_ald7, wp_ist7n, wp_inc7n, wp_ist7i, wp_inc7i, wp_ist7r, wp_inc7r, wp_ild8, wp_ald8, wp_ist8n, wp_inc8n, wp_ist8i, wp_inc8i, wp_ist8r, wp_inc8r, wp_ild9, wp_ald9, wp_ist9n, wp_inc9n, wp_ist9i, wp_inc9i, wp_ist9r, wp_inc9r, wp_bin, wp_div, wp_dupi, wp_dupr, wp_dup2, wp_popi, wp_popr, wp_ifeq, wp_ifne, wp_iflt, wp_ifge, wp_ifgt, wp_ifle, wp_iceq, wp_icne, wp_iclt, wp_icge, wp_icgt, wp_icle, wp_jmp, wp_seq, sq_j, sq_r, lq_j, lq_r, eq_r, wp_kil, wp_ret, wp_zret, wp_vret, wp_aret, wp_gfi, wp_gfr, wp_pfi, wp_pfz, wp_ial, wp_ias, wp_aal, wp_gst, wp_sal, wp_min, wp_calV0, wp_calV1, wp_calS1, wp_calV2, wp_calS2, wp_calV3, wp_calS3, wp_calV4, wp_calS4, wp_calV5, wp_calS5, wp_acp, wp_i2l, wp_l2i, wp_lcon, wp_lbin, wp_ldiv, psh_s, psh_n, en, List.map_cons, List.map_nil, List.cons_append, List.nil_append, List.length_cons, List.length_nil, List.replicate_succ, List.replicate_zero, List.zipWith_cons_cons, List.zipWith_nil_left, List.zipWith_nil_right, if_true, if_false, Bool.false_eq_true, Nat.reduceAdd, Nat.reduceSub, Nat.reduceLeDiff, Nat.reduceEqDiff, Nat.reduceMul, true_and, and_true, Option.some.injEq, exists_eq_left', Nat.le_refl, Nat.zero_le, reduceIte, Nat.add_zero, Nat.zero_add]
    exact ⟨h2, fun a ha => (f2 a ha).trans (hf a ha)⟩
  · rintro L M' ⟨h1, hf, rfl⟩
    have hS' : rS1 M' S := rS1_fr hS (fun a ha => hf a (by omega))
    have hc : M' 6 1 = nI (paS S).1 := hS'.2.2.2.1
    simp only [B_X5_gather_7, K_X5_gather_33, wp_con, wp_ild0, wp_ald0, wp_ist0, wp_inc0, wp_ild1, wp_ald1, wp_ist1n, wp_inc1n, wp_ist1i, wp_inc1i, wp_ist1r, wp_inc1r, wp_ild2, wp_ald2, wp_ist2n, wp_inc2n, wp_ist2i, wp_inc2i, wp_ist2r, wp_inc2r, wp_ild3, wp_ald3, wp_ist3n, wp_inc3n, wp_ist3i, wp_inc3i, wp_ist3r, wp_inc3r, wp_ild4, wp_ald4, wp_ist4n, wp_inc4n, wp_ist4i, wp_inc4i, wp_ist4r, wp_inc4r, wp_ild5, wp_ald5, wp_ist5n, wp_inc5n, wp_ist5i, wp_inc5i, wp_ist5r, wp_inc5r, wp_ild6, wp_ald6, wp_ist6n, wp_inc6n, wp_ist6i, wp_inc6i, wp_ist6r, wp_inc6r, wp_ild7, wp_ald7, wp_ist7n, wp_inc7n, wp_ist7i, wp_inc7i, wp_ist7r, wp_inc7r, wp_ild8, wp_ald8, wp_ist8n, wp_inc8n, wp_ist8i, wp_inc8i, wp_ist8r, wp_inc8r, wp_ild9, wp_ald9, wp_ist9n, wp_inc9n, wp_ist9i, wp_inc9i, wp_ist9r, wp_inc9r, wp_bin, wp_div, wp_dupi, wp_dupr, wp_dup2, wp_popi, wp_popr, wp_ifeq, wp_ifne, wp_iflt, wp_ifge, wp_ifgt, wp_ifle, wp_iceq, wp_icne, wp_iclt, wp_icge, wp_icgt, wp_icle, wp_jmp, wp_seq, sq_j, sq_r, lq_j, lq_r, eq_r, wp_kil, wp_ret, wp_zret, wp_vret, wp_aret, wp_gfi, wp_gfr, wp_pfi, wp_pfz, wp_ial, wp_ias, wp_aal, wp_gst, wp_sal, wp_min, wp_calV0, wp_calV1, wp_calS1, wp_calV2, wp_calS2, wp_calV3, wp_calS3, wp_calV4, wp_calS4, wp_calV5, wp_calS5, wp_acp, wp_i2l, wp_l2i, wp_lcon, wp_lbin, wp_ldiv, psh_s, psh_n, en, List.map_cons, List.map_nil, List.cons_append, List.nil_append, List.length_cons, List.length_nil, List.replicate_succ, List.replicate_zero, List.zipWith_cons_cons, List.zipWith_nil_left, List.zipWith_nil_right, if_true, if_false, Bool.false_eq_true, Nat.reduceAdd, Nat.reduceSub, Nat.reduceLeDiff, Nat.reduceEqDiff, Nat.reduceMul, true_and, and_true, Option.some.injEq, exists_eq_left', Nat.le_refl, Nat.zero_le, reduceIte, Nat.add_zero, Nat.zero_add, xF0, xF1, xF2, xF3, hc, N_le (show (paS S).1 < 2147483648 by omega) (show (paS S).1 < 2147483648 by omega)]
    exact ⟨fun _ => ⟨h1, hf⟩, fun h => absurd trivial h⟩
