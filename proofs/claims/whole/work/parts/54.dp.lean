/-! ===== the cheapest parents: what the sums say ===== -/
theorem mn_at {INF : Nat} {R : Nat → Nat → Nat} {F : Nat → Nat} {m l : Nat} (hb : m.testBit l = true) : ∀ L, l < L → mn INF R F m L ≤ F (m - 2 ^ l) + R l (m - 2 ^ l)
  | 0, h => absurd h (Nat.not_lt_zero l)
  | L + 1, h => by
    simp only [mn]
    by_cases e : l = L
    · subst e
      rw [if_pos hb]
      exact Nat.min_le_right _ _
    · have := mn_at (INF := INF) (R := R) (F := F) hb L (by omega)
      split
      · exact Nat.le_trans (Nat.min_le_left _ _) this
      · exact this
theorem mn_get {INF : Nat} {R : Nat → Nat → Nat} {F : Nat → Nat} {m : Nat} : ∀ L, mn INF R F m L = INF ∨ ∃ l, l < L ∧ m.testBit l = true ∧ mn INF R F m L = F (m - 2 ^ l) + R l (m - 2 ^ l)
  | 0 => Or.inl rfl
  | L + 1 => by
    simp only [mn]
    split
    · next hb =>
      by_cases h : mn INF R F m L ≤ F (m - 2 ^ L) + R L (m - 2 ^ L)
      · rw [Nat.min_eq_left h]
        rcases mn_get (INF := INF) (R := R) (F := F) (m := m) L with h1 | ⟨l, h1, h2, h3⟩
        · exact Or.inl h1
        · exact Or.inr ⟨l, by omega, h2, h3⟩
      · rw [Nat.min_eq_right (by omega)]
        exact Or.inr ⟨L, by omega, hb, rfl⟩
    · rcases mn_get (INF := INF) (R := R) (F := F) (m := m) L with h1 | ⟨l, h1, h2, h3⟩
      · exact Or.inl h1
      · exact Or.inr ⟨l, by omega, h2, h3⟩
theorem sub_bit {m l : Nat} (hm : m < 256) (hl : l < 8) (hb : m.testBit l = true) : (m - 2 ^ l).testBit l = false ∧ (∀ j, j ≠ l → (m - 2 ^ l).testBit j = m.testBit j) ∧ m - 2 ^ l < m := by
  obtain ⟨h1, h2⟩ := xor_sub m hm l hl hb
  have hp : 0 < 2 ^ l := Nat.two_pow_pos l
  rw [← h1]
  refine ⟨?_, fun j hj => ?_, by omega⟩
  · rw [Nat.testBit_xor, hb, Nat.testBit_two_pow]; simp
  · rw [Nat.testBit_xor, Nat.testBit_two_pow]
    simp [show ¬ l = j from fun e => hj e.symm]
theorem sD_mono {INF : Nat} {R R' : Nat → Nat → Nat} {n : Nat} (hn : n ≤ 8) (h : ∀ l s, l < n → s.testBit l = false → R l s ≤ R' l s) : ∀ m, m < 256 → sD INF R n m ≤ sD INF R' n m := by
  intro m
  induction m using Nat.strongRecOn with
  | ind m ih =>
    intro hm
    by_cases h0 : m = 0
    · rw [h0, sD_0, sD_0]; omega
    · rw [sD_s (INF := INF) (R := R') (by omega)]
      rcases mn_get (INF := INF) (R := R') (F := sD INF R' n) (m := m) n with e | ⟨l, h1, h2, h3⟩
      · rw [e]; exact sD_le
      · rw [h3]
        obtain ⟨b1, -, b3⟩ := sub_bit hm (by omega) h2
        have i1 := ih (m - 2 ^ l) b3 (by omega)
        have i2 := h l (m - 2 ^ l) h1 b1
        have i3 := mn_at (INF := INF) (R := R) (F := sD INF R n) h2 n h1
        rw [sD_s (INF := INF) (R := R) (by omega)]
        omega
theorem rc_at {lk : Nat → Nat} {gl link i t s : Nat} (hb : s.testBit t = true) : ∀ n, t < n → rc lk gl link i n s ≤ link + ap (lk i) (lk t)
  | 0, h => absurd h (Nat.not_lt_zero t)
  | n + 1, h => by
    simp only [rc]
    by_cases e : t = n
    · subst e
      rw [if_pos hb]
      exact Nat.min_le_right _ _
    · have := rc_at (lk := lk) (gl := gl) (link := link) (i := i) hb n (by omega)
      split
      · exact Nat.le_trans (Nat.min_le_left _ _) this
      · exact this
theorem rc_gl {lk : Nat → Nat} {gl link i s : Nat} : ∀ n, rc lk gl link i n s ≤ ap (lk i) gl
  | 0 => Nat.le_refl _
  | n + 1 => by
    have := rc_gl (lk := lk) (gl := gl) (link := link) (i := i) (s := s) n
    simp only [rc]
    split
    · exact Nat.le_trans (Nat.min_le_left _ _) this
    · exact this
theorem rc_get {lk : Nat → Nat} {gl link i s : Nat} : ∀ n, rc lk gl link i n s = ap (lk i) gl ∨ ∃ t, t < n ∧ s.testBit t = true ∧ rc lk gl link i n s = link + ap (lk i) (lk t)
  | 0 => Or.inl rfl
  | n + 1 => by
    simp only [rc]
    split
    · next hb =>
      by_cases h : rc lk gl link i n s ≤ link + ap (lk i) (lk n)
      · rw [Nat.min_eq_left h]
        rcases rc_get (lk := lk) (gl := gl) (link := link) (i := i) (s := s) n with h1 | ⟨t, h1, h2, h3⟩
        · exact Or.inl h1
        · exact Or.inr ⟨t, by omega, h2, h3⟩
      · rw [Nat.min_eq_right (by omega)]
        exact Or.inr ⟨n, by omega, hb, rfl⟩
    · rcases rc_get (lk := lk) (gl := gl) (link := link) (i := i) (s := s) n with h1 | ⟨t, h1, h2, h3⟩
      · exact Or.inl h1
      · exact Or.inr ⟨t, by omega, h2, h3⟩
def pset (pn : Nat → Option (Option Nat)) (i : Nat) (t : Option Nat) : Nat → Option (Option Nat) := fun j => if j = i then some t else pn j
def opt (q : Nat) : Option Nat := match q with
  | 0 => none
  | q + 1 => some q
theorem RR_ge {lk : Nat → Nat} {gl n i : Nat} {pn : Nat → Option (Option Nat)} (hl : lOK n lk) (hi : i < n) (hf : pn i = none) {t : Option Nat} (ht : ∀ y, t = some y → y < n) (j s : Nat) : RR lk gl n pn j s ≤ RR lk gl n (pset pn i t) j s := by
  by_cases e : j = i
  · subst e
    unfold RR
    rw [hf]
    simp only [pset, if_true]
    cases t with
    | none => exact rc_gl n
    | some y =>
      simp only [pinv]
      split
      · next hb => exact rc_at hb n (ht y rfl)
      · have := rc_le (lk := lk) (gl := gl) (link := 2) (hl j hi).2 n s; omega
  · unfold RR
    simp only [pset, if_neg e]
    exact Nat.le_refl _
/-- some pin keeps the sum -/
theorem ex_set {lk : Nat → Nat} {gl n i : Nat} {pn : Nat → Option (Option Nat)} (hn : n ≤ 8) (hl : lOK n lk) (hi : i < n) (hf : pn i = none) : ∀ m, m < 256 → ∃ t : Option Nat, (∀ y, t = some y → y < n ∧ y ≠ i) ∧ sD BIG (RR lk gl n (pset pn i t)) n m ≤ sD BIG (RR lk gl n pn) n m := by
  have same : ∀ (t : Option Nat) m, m < 256 → m.testBit i = false → sD BIG (RR lk gl n (pset pn i t)) n m ≤ sD BIG (RR lk gl n pn) n m := by
    intro t m
    induction m using Nat.strongRecOn with
    | ind m ih =>
      intro hm hb
      by_cases h0 : m = 0
      · rw [h0, sD_0, sD_0]; omega
      · rw [sD_s (INF := BIG) (R := RR lk gl n pn) (by omega)]
        rcases mn_get (INF := BIG) (R := RR lk gl n pn) (F := sD BIG (RR lk gl n pn) n) (m := m) n with e | ⟨l, h1, h2, h3⟩
        · rw [e]; exact sD_le
        · rw [h3]
          obtain ⟨b1, b2, b3⟩ := sub_bit hm (by omega) h2
          have hli : l ≠ i := fun e => by rw [e, hb] at h2; cases h2
          have i1 := ih (m - 2 ^ l) b3 (by omega) (by rw [b2 i (fun e => hli e.symm)]; exact hb)
          have i3 := mn_at (INF := BIG) (R := RR lk gl n (pset pn i t)) (F := sD BIG (RR lk gl n (pset pn i t)) n) h2 n h1
          have i4 : RR lk gl n (pset pn i t) l (m - 2 ^ l) = RR lk gl n pn l (m - 2 ^ l) := by unfold RR; simp only [pset, if_neg hli]
          rw [sD_s (INF := BIG) (by omega)]
          omega
  intro m
  induction m using Nat.strongRecOn with
  | ind m ih =>
    intro hm
    by_cases hbi : m.testBit i = true
    · have h0 : 0 < m := by
        rcases Nat.eq_zero_or_pos m with e | e
        · rw [e] at hbi; simp at hbi
        · exact e
      rcases mn_get (INF := BIG) (R := RR lk gl n pn) (F := sD BIG (RR lk gl n pn) n) (m := m) n with e | ⟨l, h1, h2, h3⟩
      · exact ⟨none, fun y hy => (by cases hy), by rw [sD_s (INF := BIG) (R := RR lk gl n pn) h0, e]; exact sD_le⟩
      · obtain ⟨b1, b2, b3⟩ := sub_bit hm (by omega) h2
        by_cases hli : l = i
        · subst hli
          have key : ∃ t : Option Nat, (∀ y, t = some y → y < n ∧ y ≠ l) ∧ RR lk gl n (pset pn l t) l (m - 2 ^ l) ≤ RR lk gl n pn l (m - 2 ^ l) := by
            have e1 : RR lk gl n pn l (m - 2 ^ l) = rc lk gl 2 l n (m - 2 ^ l) := by unfold RR; rw [hf]
            rw [e1]
            rcases rc_get (lk := lk) (gl := gl) (link := 2) (i := l) (s := m - 2 ^ l) n with e | ⟨t, t1, t2, t3⟩
            · refine ⟨none, fun y hy => (by cases hy), ?_⟩
              rw [e]
              unfold RR
              simp [pset, pinv, cwp]
            · refine ⟨some t, fun y hy => by cases hy; exact ⟨t1, fun e => by rw [e, b1] at t2; cases t2⟩, ?_⟩
              rw [t3]
              unfold RR
              simp [pset, pinv, cwp, t2]
          obtain ⟨t, ht, hle⟩ := key
          refine ⟨t, ht, ?_⟩
          have i1 := same t (m - 2 ^ l) (by omega) b1
          have i3 := mn_at (INF := BIG) (R := RR lk gl n (pset pn l t)) (F := sD BIG (RR lk gl n (pset pn l t)) n) h2 n h1
          rw [sD_s (INF := BIG) (R := RR lk gl n pn) h0, sD_s (INF := BIG) h0, h3]
          omega
        · obtain ⟨t, ht, hle⟩ := ih (m - 2 ^ l) b3 (by omega)
          refine ⟨t, ht, ?_⟩
          have i3 := mn_at (INF := BIG) (R := RR lk gl n (pset pn i t)) (F := sD BIG (RR lk gl n (pset pn i t)) n) h2 n h1
          have i4 : RR lk gl n (pset pn i t) l (m - 2 ^ l) = RR lk gl n pn l (m - 2 ^ l) := by unfold RR; simp only [pset, if_neg hli]
          rw [sD_s (INF := BIG) (R := RR lk gl n pn) h0, sD_s (INF := BIG) h0, h3]
          omega
    · exact ⟨none, fun y hy => (by cases hy), same none m hm (by simpa using hbi)⟩
theorem ex_pin {lk : Nat → Nat} {gl n i : Nat} {pn : Nat → Option (Option Nat)} (hn : n ≤ 8) (hl : lOK n lk) (hi : i < n) (hf : pn i = none) : ∃ q, q ≤ n ∧ opt q ≠ some i ∧ tot lk gl n (pset pn i (opt q)) = tot lk gl n pn := by
  have h256 : 2 ^ n ≤ 256 := pow_le (n := 8) hn
  have hpos : 0 < 2 ^ n := Nat.two_pow_pos n
  obtain ⟨t, ht, hle⟩ := ex_set (gl := gl) hn hl hi hf (2 ^ n - 1) (by omega)
  have hge : ∀ t : Option Nat, (∀ y, t = some y → y < n) → tot lk gl n pn ≤ tot lk gl n (pset pn i t) := fun t ht => sD_mono hn (fun l s _ _ => RR_ge hl hi hf ht l s) _ (by omega)
  cases t with
  | none => exact ⟨0, Nat.zero_le _, by simp [opt], Nat.le_antisymm hle (hge none (fun y hy => by cases hy))⟩
  | some y =>
    obtain ⟨h1, h2⟩ := ht y rfl
    exact ⟨y + 1, by omega, by simp [opt, h2], Nat.le_antisymm hle (hge (some y) (fun z hz => by cases hz; exact h1))⟩
/-- the first number that is so, from k on, m tries -/
def fs (P : Nat → Bool) : Nat → Nat → Nat
  | 0, k => k
  | m + 1, k => if P k then k else fs P m (k + 1)
theorem fs_spec {P : Nat → Bool} : ∀ m k q, P q = true → k ≤ q → q < k + m → P (fs P m k) = true ∧ k ≤ fs P m k ∧ fs P m k ≤ q ∧ ∀ j, k ≤ j → j < fs P m k → P j = false
  | 0, k, q, _, h1, h2 => by omega
  | m + 1, k, q, hq, h1, h2 => by
    unfold fs
    by_cases hk : P k = true
    · rw [if_pos hk]
      exact ⟨hk, Nat.le_refl _, h1, fun j a b => by omega⟩
    · rw [if_neg hk]
      have hne : k ≠ q := fun e => hk (by rw [e]; exact hq)
      obtain ⟨a, b, c, d⟩ := fs_spec m (k + 1) q hq (by omega) (by omega)
      refine ⟨a, by omega, c, fun j h3 h4 => ?_⟩
      by_cases e : j = k
      · rw [e]; simpa using hk
      · exact d j (by omega) h4
def okq (lk : Nat → Nat) (gl n : Nat) (pn : Nat → Option (Option Nat)) (i best q : Nat) : Bool := decide (opt q ≠ some i) && decide (tot lk gl n (pset pn i (opt q)) = best)
/-- the parents, one after the other: pins behind i steps -/
def bpn (lk : Nat → Nat) (gl n best : Nat) : Nat → Nat → Option (Option Nat)
  | 0 => fun _ => none
  | i + 1 => pset (bpn lk gl n best i) i (opt (fs (okq lk gl n (bpn lk gl n best i) i best) (n + 1) 0))
def bst (lk : Nat → Nat) (gl n : Nat) : Nat := tot lk gl n (fun _ => none)
def par (lk : Nat → Nat) (gl n i : Nat) : Option Nat := opt (fs (okq lk gl n (bpn lk gl n (bst lk gl n) i) i (bst lk gl n)) (n + 1) 0)
theorem bpn_free {lk : Nat → Nat} {gl n best : Nat} : ∀ i j, i ≤ j → bpn lk gl n best i j = none
  | 0, _, _ => rfl
  | i + 1, j, h => by
    show (if j = i then _ else bpn lk gl n best i j) = none
    rw [if_neg (by omega)]
    exact bpn_free i j (by omega)
theorem bpn_par {lk : Nat → Nat} {gl n : Nat} : ∀ i j, j < i → bpn lk gl n (bst lk gl n) i j = some (par lk gl n j)
  | 0, j, h => absurd h (Nat.not_lt_zero j)
  | i + 1, j, h => by
    show (if j = i then _ else bpn lk gl n (bst lk gl n) i j) = _
    by_cases e : j = i
    · subst e
      rw [if_pos rfl]
      rfl
    · rw [if_neg e]
      exact bpn_par i j (by omega)
theorem bpn_tot {lk : Nat → Nat} {gl n : Nat} (hn : n ≤ 8) (hl : lOK n lk) : ∀ i, i ≤ n → tot lk gl n (bpn lk gl n (bst lk gl n) i) = bst lk gl n
  | 0, _ => rfl
  | i + 1, hi => by
    have ih := bpn_tot (gl := gl) hn hl i (by omega)
    obtain ⟨q, h1, h2, h3⟩ := ex_pin (gl := gl) hn hl (show i < n by omega) (bpn_free (lk := lk) (gl := gl) (n := n) (best := bst lk gl n) i i (Nat.le_refl _))
    have := fs_spec (P := okq lk gl n (bpn lk gl n (bst lk gl n) i) i (bst lk gl n)) (n + 1) 0 q (by simp [okq, h2, h3, ih]) (Nat.zero_le _) (by omega)
    have h4 := this.1
    simp only [okq, Bool.and_eq_true, decide_eq_true_eq] at h4
    exact h4.2
theorem par_spec {lk : Nat → Nat} {gl n : Nat} (hn : n ≤ 8) (hl : lOK n lk) {i : Nat} (hi : i < n) : ∃ q, q ≤ n ∧ par lk gl n i = opt q ∧ opt q ≠ some i ∧ tot lk gl n (pset (bpn lk gl n (bst lk gl n) i) i (opt q)) = bst lk gl n ∧ ∀ j, j < q → opt j ≠ some i → tot lk gl n (pset (bpn lk gl n (bst lk gl n) i) i (opt j)) ≠ bst lk gl n := by
  have ih := bpn_tot (gl := gl) hn hl i (by omega)
  obtain ⟨q, h1, h2, h3⟩ := ex_pin (gl := gl) hn hl hi (bpn_free (lk := lk) (gl := gl) (n := n) (best := bst lk gl n) i i (Nat.le_refl _))
  obtain ⟨a, b, c, d⟩ := fs_spec (P := okq lk gl n (bpn lk gl n (bst lk gl n) i) i (bst lk gl n)) (n + 1) 0 q (by simp [okq, h2, h3, ih]) (Nat.zero_le _) (by omega)
  simp only [okq, Bool.and_eq_true, decide_eq_true_eq] at a
  refine ⟨_, by omega, rfl, a.1, a.2, fun j hj ho e => ?_⟩
  have := d j (Nat.zero_le _) hj
  simp [okq, ho, e] at this
/-- all unpinned: each costs no more than to the ground -/
theorem sD_small {lk : Nat → Nat} {gl n : Nat} (hn : n ≤ 8) (hl : lOK n lk) : ∀ c m, m < 2 ^ n → cnt (fun j => m.testBit j) n ≤ c → sD BIG (RR lk gl n (fun _ => none)) n m ≤ 42 * c
  | 0, m, hm, hc => by
    have h0 : m = 0 := by
      apply Nat.eq_of_testBit_eq
      intro j
      rw [Nat.zero_testBit]
      by_cases hj : j < n
      · cases hb : m.testBit j
        · rfl
        · have : 0 < cnt (fun j => m.testBit j) n := by
            have := cnt_lt (p := fun _ => false) (q := fun j => m.testBit j) n (fun _ _ h => by cases h) ⟨j, hj, hb, rfl⟩
            omega
          omega
      · exact Nat.testBit_lt_two_pow (Nat.lt_of_lt_of_le hm (pow_le (by omega)))
    rw [h0, sD_0]
    omega
  | c + 1, m, hm, hc => by
    have h256 : 2 ^ n ≤ 256 := pow_le (n := 8) hn
    by_cases h0 : m = 0
    · rw [h0, sD_0]; omega
    · have hex : ∃ l, l < n ∧ m.testBit l = true := by
        apply Classical.byContradiction
        intro hne
        apply h0
        apply Nat.eq_of_testBit_eq
        intro j
        rw [Nat.zero_testBit]
        by_cases hj : j < n
        · cases hb : m.testBit j
          · rfl
          · exact absurd ⟨j, hj, hb⟩ hne
        · exact Nat.testBit_lt_two_pow (Nat.lt_of_lt_of_le hm (pow_le (by omega)))
      obtain ⟨l, h1, h2⟩ := hex
      obtain ⟨b1, b2, b3⟩ := sub_bit (by omega) (by omega) h2
      have hlt := cnt_lt (p := fun j => (m - 2 ^ l).testBit j) (q := fun j => m.testBit j) n (fun j _ hj => by
        by_cases e : j = l
        · rw [e] at hj; rw [b1] at hj; cases hj
        · rw [b2 j e] at hj; exact hj) ⟨l, h1, h2, b1⟩
      have ih := sD_small (gl := gl) hn hl c (m - 2 ^ l) (by omega) (by omega)
      have i3 := mn_at (INF := BIG) (R := RR lk gl n (fun _ => none)) (F := sD BIG (RR lk gl n (fun _ => none)) n) h2 n h1
      have i4 : RR lk gl n (fun _ => none) l (m - 2 ^ l) ≤ 42 := rc_le (hl l h1).2 n _
      rw [sD_s (INF := BIG) (by omega)]
      omega
theorem sD_free {lk : Nat → Nat} {gl n m : Nat} (hn : n ≤ 8) (hl : lOK n lk) (hm : m < 2 ^ n) : sD BIG (RR lk gl n (fun _ => none)) n m ≤ 336 := by
  have := sD_small (gl := gl) hn hl n m hm (cnt_le _ n)
  omega
/-- a sum below a million by pinned parents: they have a rank -/
theorem rank_set {lk : Nat → Nat} {gl n : Nat} {pr : Nat → Option Nat} (hn : n ≤ 8) : ∀ m, m < 256 → sD BIG (RR lk gl n (fun j => some (pr j))) n m < 1000000 → ∃ ρ : Nat → Nat, ∀ j, j < n → m.testBit j = true → ∀ y, pr j = some y → m.testBit y = true ∧ ρ y < ρ j := by
  intro m
  induction m using Nat.strongRecOn with
  | ind m ih =>
    intro hm hs
    by_cases h0 : m = 0
    · exact ⟨fun _ => 0, fun j _ hb => by rw [h0] at hb; simp at hb⟩
    · rw [sD_s (by omega)] at hs
      rcases mn_get (INF := BIG) (R := RR lk gl n (fun j => some (pr j))) (F := sD BIG (RR lk gl n (fun j => some (pr j))) n) (m := m) n with e | ⟨l, h1, h2, h3⟩
      · rw [e] at hs
        exact absurd hs (by decide)
      · rw [h3] at hs
        obtain ⟨b1, b2, b3⟩ := sub_bit hm (by omega) h2
        obtain ⟨ρ, hρ⟩ := ih (m - 2 ^ l) b3 (by omega) (by omega)
        have hl2 : ∀ y, pr l = some y → (m - 2 ^ l).testBit y = true := by
          intro y hy
          have : RR lk gl n (fun j => some (pr j)) l (m - 2 ^ l) < 1000000 := by omega
          unfold RR at this
          simp only [hy, pinv] at this
          cases hb : (m - 2 ^ l).testBit y
          · rw [hb] at this; simp at this
          · rfl
        have hsub : ∀ y, (m - 2 ^ l).testBit y = true → m.testBit y = true := by
          intro y hy
          by_cases e : y = l
          · rw [e, b1] at hy; cases hy
          · rw [← b2 y e]; exact hy
        have hub : ∀ y, y < 256 → ρ y ≤ sm ρ 256 := by
          have : ∀ N y, y < N → ρ y ≤ sm ρ N := by
            intro N
            induction N with
            | zero => intro y h; omega
            | succ N ihN =>
              intro y h
              simp only [sm]
              by_cases e : y = N
              · rw [e]; omega
              · have := ihN y (by omega); omega
          exact this 256
        have hy256 : ∀ y, m.testBit y = true → y < 256 := by
          intro y hy
          rcases Nat.lt_or_ge y 256 with h | h
          · exact h
          · rw [Nat.testBit_lt_two_pow (Nat.lt_of_lt_of_le hm (Nat.le_trans (show 256 ≤ 2 ^ 8 by decide) (pow_le (by omega))))] at hy
            cases hy
        refine ⟨fun j => if j = l then sm ρ 256 + 1 else ρ j, fun j hj hb y hy => ?_⟩
        by_cases e : j = l
        · subst e
          have hy1 := hl2 y hy
          have hy2 := hsub y hy1
          have hyl : y ≠ j := fun q => by rw [q, b1] at hy1; cases hy1
          refine ⟨hy2, ?_⟩
          simp only [if_true, if_neg hyl]
          have := hub y (hy256 y hy2)
          omega
        · obtain ⟨c1, c2⟩ := hρ j hj (by rw [b2 j e]; exact hb) y hy
          have hyl : y ≠ l := fun q => by rw [q, b1] at c1; cases c1
          refine ⟨hsub y c1, ?_⟩
          simp only [if_neg e, if_neg hyl]
          exact c2
theorem par_rank {lk : Nat → Nat} {gl n : Nat} (hn : n ≤ 8) (hl : lOK n lk) : ∃ ρ : Nat → Nat, ∀ j, j < n → ∀ y, par lk gl n j = some y → y < n ∧ ρ y < ρ j := by
  have h256 : 2 ^ n ≤ 256 := pow_le (n := 8) hn
  have hpos : 0 < 2 ^ n := Nat.two_pow_pos n
  have h1 := bpn_tot (gl := gl) hn hl n (Nat.le_refl _)
  have h2 : sD BIG (RR lk gl n (fun j => some (par lk gl n j))) n (2 ^ n - 1) ≤ tot lk gl n (bpn lk gl n (bst lk gl n) n) := by
    refine sD_mono hn (fun l s hl' _ => ?_) _ (by omega)
    unfold RR
    rw [bpn_par n l hl']
    exact Nat.le_refl _
  have h3 : bst lk gl n ≤ 336 := sD_free hn hl (by omega)
  obtain ⟨ρ, hρ⟩ := rank_set (lk := lk) (gl := gl) (pr := par lk gl n) hn (2 ^ n - 1) (by omega) (by omega)
  refine ⟨ρ, fun j hj y hy => ?_⟩
  obtain ⟨q, q1, q2, q3, -⟩ := par_spec (gl := gl) hn hl hj
  have hyn : y < n := by
    rw [q2] at hy
    cases q with
    | zero => cases hy
    | succ q => cases hy; omega
  exact ⟨hyn, (hρ j hj (by rw [Nat.testBit_two_pow_sub_one]; simpa using hj) y hy).2⟩
