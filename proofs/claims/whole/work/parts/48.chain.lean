/-! ===== chains of parents: ranks, what keeps them ===== -/
theorem it_none {S : vS} : ∀ n, it S n none = none
  | 0 => rfl
  | _ + 1 => rfl
theorem it_more {S : vS} : ∀ n o, it S n o = none → ∀ m, n ≤ m → it S m o = none
  | 0, o, h, m, _ => by
    have h : o = none := h
    rw [h, it_none]
  | n + 1, none, _, m, _ => it_none m
  | n + 1, some s, h, m, hm => by
    cases m with
    | zero => omega
    | succ m =>
      have h : it S n ((stS S).2.1 s) = none := h
      exact it_more n _ h m (by omega)
def cnt (p : Nat → Bool) : Nat → Nat
  | 0 => 0
  | n + 1 => cnt p n + if p n then 1 else 0
theorem cnt_mono {p q : Nat → Bool} : ∀ n, (∀ j, j < n → p j = true → q j = true) → cnt p n ≤ cnt q n
  | 0, _ => Nat.le_refl _
  | n + 1, h => by
    have h1 := cnt_mono n (fun j hj => h j (by omega))
    have h2 := h n (by omega)
    simp only [cnt]
    by_cases hp : p n = true
    · simp [hp, h2 hp]; omega
    · simp [hp]; split <;> omega
theorem cnt_lt {p q : Nat → Bool} : ∀ n, (∀ j, j < n → p j = true → q j = true) → (∃ t, t < n ∧ q t = true ∧ p t = false) → cnt p n < cnt q n
  | 0, _, ⟨t, ht, _⟩ => absurd ht (by omega)
  | n + 1, h, ⟨t, ht, h1, h2⟩ => by
    have hm := cnt_mono n (fun j hj => h j (by omega))
    simp only [cnt]
    by_cases htn : t = n
    · subst htn
      simp [h1, h2]; omega
    · have := cnt_lt n (fun j hj => h j (by omega)) ⟨t, by omega, h1, h2⟩
      have h3 := h n (by omega)
      by_cases hp : p n = true
      · simp [hp, h3 hp]; omega
      · simp [hp]; split <;> omega
theorem cnt_le (p : Nat → Bool) : ∀ n, cnt p n ≤ n
  | 0 => Nat.le_refl _
  | n + 1 => by
    have := cnt_le p n
    simp only [cnt]
    split <;> omega
theorem cnt_ltn {p : Nat → Bool} {n t : Nat} (ht : t < n) (hp : p t = false) : cnt p n < n := by
  have h1 := cnt_lt (p := p) (q := fun _ => true) n (fun _ _ _ => rfl) ⟨t, ht, rfl, hp⟩
  have h2 := cnt_le (fun _ => true) n
  omega
/-- a rank that falls towards the parents: the chains end -/
theorem acy_rank {S : vS} {n : Nat} (ρ : Nat → Nat) (h : ∀ s, s < n → ∀ t, (stS S).2.1 s = some t → t < n ∧ ρ t < ρ s) : ∀ s, s < n → it S n (some s) = none := by
  have key : ∀ r s, s < n → cnt (fun j => decide (ρ j < ρ s)) n = r → it S (r + 1) (some s) = none := by
    intro r
    induction r using Nat.strongRecOn with
    | ind r ih =>
      intro s hs hr
      show it S r ((stS S).2.1 s) = none
      cases hb : (stS S).2.1 s with
      | none => exact it_none r
      | some t =>
        obtain ⟨ht, hlt⟩ := h s hs t hb
        have hc : cnt (fun j => decide (ρ j < ρ t)) n < r := by
          rw [← hr]
          exact cnt_lt n (fun j _ hj => by simp at hj ⊢; omega) ⟨t, ht, by simpa using hlt, by simp⟩
        exact it_more _ _ (ih _ hc t ht rfl) r (by omega)
  intro s hs
  have h1 : cnt (fun j => decide (ρ j < ρ s)) n < n := cnt_ltn hs (by simp)
  exact it_more _ _ (key _ s hs rfl) n (by omega)
theorem anc_more {S : vS} : ∀ n o, it S n o = none → ∀ m, n ≤ m → anc S m o = anc S n o
  | 0, o, h, m, _ => by
    have h : o = none := h
    subst h
    cases m <;> rfl
  | n + 1, none, _, m, hm => by
    cases m with
    | zero => omega
    | succ m => rfl
  | n + 1, some s, h, m, hm => by
    cases m with
    | zero => omega
    | succ m =>
      have h : it S n ((stS S).2.1 s) = none := h
      unfold anc
      rw [anc_more n _ h m (by omega)]
theorem dsc_more {S : vS} {a : Nat} : ∀ n o, it S n o = none → ∀ m, n ≤ m → dsc S a m o = dsc S a n o
  | 0, o, h, m, _ => by
    have h : o = none := h
    subst h
    cases m <;> rfl
  | n + 1, none, _, m, hm => by
    cases m with
    | zero => omega
    | succ m => rfl
  | n + 1, some s, h, m, hm => by
    cases m with
    | zero => omega
    | succ m =>
      have h : it S n ((stS S).2.1 s) = none := h
      unfold dsc
      rw [dsc_more n _ h m (by omega)]
theorem sst_more {S : vS} {k : Nat} : ∀ n o, it S n o = none → ∀ m, n ≤ m → sst S k m o = sst S k n o
  | 0, o, h, m, _ => by
    have h : o = none := h
    subst h
    cases m <;> rfl
  | n + 1, none, _, m, hm => by
    cases m with
    | zero => omega
    | succ m => rfl
  | n + 1, some s, h, m, hm => by
    cases m with
    | zero => omega
    | succ m =>
      have h : it S n ((stS S).2.1 s) = none := h
      unfold sst
      rw [sst_more n _ h m (by omega)]
/-- one step of each, where the chains end -/
theorem vst_step {S : vS} (h : vOK S) {s k : Nat} (hs : s < (stS S).1) : vst S k 6 (some s) = match (stS S).2.2 s k with
  | some v => v
  | none => vst S k 6 ((stS S).2.1 s) := by
  show (match (stS S).2.2 s k with
    | some v => v
    | none => vst S k 5 ((stS S).2.1 s)) = _
  rw [vst_more 5 _ (it_b h hs) 6 (by decide)]
theorem anc_step {S : vS} (h : vOK S) {s : Nat} (hs : s < (stS S).1) : anc S 6 (some s) = anc S 6 ((stS S).2.1 s) + 1 := by
  show anc S 5 ((stS S).2.1 s) + 1 = _
  rw [anc_more 5 _ (it_b h hs) 6 (by decide)]
theorem dsc_step {S : vS} (h : vOK S) {s a : Nat} (hs : s < (stS S).1) : dsc S a 6 (some s) = if s = a then true else dsc S a 6 ((stS S).2.1 s) := by
  show (if s = a then true else dsc S a 5 ((stS S).2.1 s)) = _
  rw [dsc_more 5 _ (it_b h hs) 6 (by decide)]
theorem dsc_anc {S : vS} (h : vOK S) {a : Nat} (ha : a < (stS S).1) : ∀ n o, sOK S o → dsc S a n o = true → anc S 6 (some a) ≤ anc S 6 o
  | 0, _, _, hd => by cases hd
  | _ + 1, none, _, hd => by cases hd
  | n + 1, some s, ho, hd => by
    have hs := ho s rfl
    unfold dsc at hd
    split at hd
    · next e => rw [e]; exact Nat.le_refl _
    · have := dsc_anc h ha n _ (sOK_b h hs) hd
      rw [anc_step h hs]
      omega
/-- another parent that isn't a descendant: the chains still end -/
theorem acy_new {S S' : vS} (h : vOK S) {s : Nat} (hs : s < (stS S).1) {t : Option Nat} (ht : sOK S t) (hd : dsc S s 6 t = false) (hn : (stS S').1 = (stS S).1) (hb : ∀ x, x < (stS S).1 → (stS S').2.1 x = if x = s then t else (stS S).2.1 x) : ∀ x, x < (stS S').1 → it S' 6 (some x) = none := by
  intro x hx
  have h6 := ns_le h
  refine it_more _ _ (acy_rank (S := S') (n := (stS S').1) (fun x => anc S 6 (some x) + if dsc S s 6 (some x) then 7 else 0) ?_ x hx) 6 (by omega)
  intro x hx y hy
  rw [hn] at hx ⊢
  rw [hb x hx] at hy
  by_cases hxs : x = s
  · subst hxs
    rw [if_pos rfl] at hy
    subst hy
    refine ⟨ht y rfl, ?_⟩
    have h1 : dsc S x 6 (some x) = true := by rw [dsc_step h hs, if_pos rfl]
    have h2 := anc_le S 6 (some y)
    simp only [hd, h1]
    simp
    omega
  · rw [if_neg hxs] at hy
    refine ⟨sOK_b h hx y hy, ?_⟩
    have h1 : dsc S s 6 (some x) = dsc S s 6 (some y) := by rw [dsc_step h hx, if_neg hxs, hy]
    have h2 : anc S 6 (some x) = anc S 6 (some y) + 1 := by rw [anc_step h hx, hy]
    simp only [h1, h2]
    omega
/-- keeping the looks: values stay, if every style's own fit the new parents' values -/
theorem vst_keep {S S' : vS} (h : vOK S) (h' : ∀ x, x < (stS S').1 → it S' 6 (some x) = none) (hn : (stS S').1 = (stS S).1) (hg : S'.2.1 = S.2.1) (hb : ∀ x, x < (stS S).1 → ∀ t, (stS S').2.1 x = some t → t < (stS S).1) {k : Nat} (ho : ∀ x, x < (stS S).1 → (match (stS S').2.2 x k with | some v => v | none => vst S k 6 ((stS S').2.1 x)) = vst S k 6 (some x)) : ∀ n o, n ≤ 6 → sOK S o → it S' n o = none → vst S' k n o = vst S k 6 o
  | 0, o, _, _, hi => by
    have hi : o = none := hi
    subst hi
    show S'.2.1 k = S.2.1 k
    rw [hg]
  | n + 1, none, _, _, _ => by
    show S'.2.1 k = S.2.1 k
    rw [hg]
  | n + 1, some x, hn6, hx, hi => by
    have hx := hx x rfl
    have hi : it S' n ((stS S').2.1 x) = none := hi
    have ih := vst_keep h h' hn hg hb ho n ((stS S').2.1 x) (by omega) (fun t ht => hb x hx t ht) hi
    rw [← ho x hx]
    show (match (stS S').2.2 x k with
      | some v => v
      | none => vst S' k n ((stS S').2.1 x)) = _
    rw [ih]
theorem rest_own {l bl k : Nat} : (match (if un l k = un bl k then none else some (un l k)) with | some v => v | none => un bl k) = un l k := by
  split
  · next v hv =>
    split at hv
    · cases hv
    · cases hv; rfl
  · next hv =>
    split at hv
    · next e => exact e.symm
    · cases hv
theorem rebS_ok {S : vS} (h : vOK S) {s : Nat} (hs : s < (stS S).1) {t : Option Nat} (ht : sOK S t) (hd : dsc S s 6 t = false) : vOK (rebS S s t) ∧ ∀ k, k < 6 → ∀ o, sOK S o → vst (rebS S s t) k 6 o = vst S k 6 o := by
  have hb : ∀ x, x < (stS S).1 → (stS (rebS S s t)).2.1 x = if x = s then t else (stS S).2.1 x := fun x _ => rfl
  have ha := acy_new (S' := rebS S s t) h hs ht hd rfl hb
  have l1 := lkS_ok h (sOK_s hs)
  have l2 := lkS_ok h ht
  have hbv : ∀ x, x < (stS S).1 → ∀ y, (stS (rebS S s t)).2.1 x = some y → y < (stS S).1 := by
    intro x hx y hy
    rw [hb x hx] at hy
    split at hy
    · exact ht y hy
    · exact sOK_b h hx y hy
  have hov : ∀ x k, (stS (rebS S s t)).2.2 x k = if x = s then (if un (lkS S (some s)) k = un (lkS S t) k then none else some (un (lkS S (some s)) k)) else (stS S).2.2 x k := fun _ _ => rfl
  refine ⟨⟨h.1, h.2.1, ⟨(h.2.2.1).1, fun j hj => ⟨hbv j hj, fun k hk v hv => ?_⟩⟩, ⟨(h.2.2.2.1).1, (h.2.2.2.1).2⟩, ha⟩, fun k hk o ho => ?_⟩
  · rw [hov] at hv
    split at hv
    · split at hv
      · cases hv
      · cases hv
        rw [l1.2 k hk]
        exact vst_ok h hk 6 _ (sOK_s hs)
    · exact ((h.2.2.1).2 j hj).2 k hk v hv
  · refine vst_keep h ha rfl rfl hbv (fun x hx => ?_) 6 o (Nat.le_refl _) ho ?_
    · rw [hb x hx, hov x k]
      by_cases hxs : x = s
      · subst hxs
        rw [if_pos rfl, if_pos rfl, ← l1.2 k hk, ← l2.2 k hk]
        exact rest_own
      · rw [if_neg hxs, if_neg hxs, vst_step h hx]
    · cases o with
      | none => rfl
      | some x => exact ha x (ho x rfl)
theorem rebP_ok {S : vS} (h : vOK S) {p : Nat} (hp : p < (paS S).1) {t : Option Nat} (ht : sOK S t) : vOK (rebP S p t) ∧ (∀ k, k < 6 → ∀ q, q < (paS S).1 → vpa (rebP S p t) q k = vpa S q k) ∧ ∀ k n o, vst (rebP S p t) k n o = vst S k n o := by
  have l1 := lkP_ok h hp
  have l2 := lkS_ok h ht
  have hv0 : ∀ k n o, vst (rebP S p t) k n o = vst S k n o := fun k n o => vst_pa n o
  have hov : ∀ x k, (paS (rebP S p t)).2.2 x k = if x = p then (if un (lkP S p) k = un (lkS S t) k then none else some (un (lkP S p) k)) else (paS S).2.2 x k := fun _ _ => rfl
  have hb : ∀ x, (paS (rebP S p t)).2.1 x = if x = p then t else (paS S).2.1 x := fun x => rfl
  have hit : ∀ n o, it (rebP S p t) n o = it S n o := by
    intro n
    induction n with
    | zero => intro o; rfl
    | succ n ih =>
      intro o
      cases o with
      | none => rfl
      | some a => exact ih _
  refine ⟨⟨h.1, h.2.1, h.2.2.1, ⟨(h.2.2.2.1).1, fun j hj => ⟨fun y hy => ?_, fun k hk v hv => ?_⟩⟩, fun s hs => by rw [hit]; exact h.2.2.2.2 s hs⟩, fun k hk q hq => ?_, hv0⟩
  · rw [hb] at hy
    split at hy
    · exact ht y hy
    · exact sOK_p h hj y hy
  · rw [hov] at hv
    split at hv
    · split at hv
      · cases hv
      · cases hv
        rw [l1.2 k hk]
        exact vpa_ok h hp hk
    · exact ((h.2.2.2.1).2 j hj).2 k hk v hv
  · unfold vpa
    rw [hv0, hov, hb]
    by_cases hqp : q = p
    · subst hqp
      rw [if_pos rfl, if_pos rfl, ← l2.2 k hk]
      exact rest_own.trans (l1.2 k hk)
    · rw [if_neg hqp, if_neg hqp]
