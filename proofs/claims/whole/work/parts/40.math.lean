/-! ===== the mathematics: a sheet, values, looks ===== -/
/-- rows: how many, the base of each, what each has of its own -/
abbrev vRw : Type := Nat × (Nat → Option Nat) × (Nat → Nat → Option Nat)
/-- a sheet: head cost, ground, styles, paragraphs -/
abbrev vS : Type := Nat × (Nat → Nat) × vRw × vRw
def stS (S : vS) : vRw := S.2.2.1
def paS (S : vS) : vRw := S.2.2.2
def top (k : Nat) : Nat := [1, 1, 99, 99, 9, 9].getD k 0
def bt (k v : Nat) : Nat := if k < 2 then 2 else if k < 4 then (if v < 10 then 4 else 5) else 3 + v / 2
/-- the value for a style or none, by so many steps -/
def vst (S : vS) (k : Nat) : Nat → Option Nat → Nat
  | 0, _ => S.2.1 k
  | _ + 1, none => S.2.1 k
  | n + 1, some s => match (stS S).2.2 s k with
    | some v => v
    | none => vst S k n ((stS S).2.1 s)
def it (S : vS) : Nat → Option Nat → Option Nat
  | 0, o => o
  | _ + 1, none => none
  | n + 1, some s => it S n ((stS S).2.1 s)
def vpa (S : vS) (p k : Nat) : Nat := match (paS S).2.2 p k with
  | some v => v
  | none => vst S k 6 ((paS S).2.1 p)
def rwOK (most ns : Nat) (R : vRw) : Prop := R.1 ≤ most ∧ ∀ j, j < R.1 → (∀ t, R.2.1 j = some t → t < ns) ∧ ∀ k, k < 6 → ∀ v, R.2.2 j k = some v → v ≤ top k
def vOK (S : vS) : Prop := (1 ≤ S.1 ∧ S.1 ≤ 20) ∧ (∀ k, k < 6 → S.2.1 k ≤ top k) ∧ rwOK 6 (stS S).1 (stS S) ∧ rwOK 8 (stS S).1 (paS S) ∧ ∀ s, s < (stS S).1 → it S 6 (some s) = none
/-- a look is one number: property 0 has the highest place -/
def shf (k : Nat) : Nat := [8388608, 4194304, 32768, 256, 16, 1].getD k 1
def wid (k : Nat) : Nat := [2, 2, 128, 128, 16, 16].getD k 1
def lc (f : Nat → Nat) : Nat := f 0 * 8388608 + f 1 * 4194304 + f 2 * 32768 + f 3 * 256 + f 4 * 16 + f 5
def un (c k : Nat) : Nat := c / shf k % wid k
def sm (f : Nat → Nat) : Nat → Nat
  | 0 => 0
  | n + 1 => sm f n + f n
def ap (a b : Nat) : Nat := sm (fun k => if un a k = un b k then 0 else bt k (un a k)) 6
def lkS (S : vS) (s : Option Nat) : Nat := lc (fun k => vst S k 6 s)
def lkP (S : vS) (p : Nat) : Nat := lc (vpa S p)
def bI (b : Bool) : Int32 := if b then 1 else 0
theorem six {P : Nat → Prop} (h0 : P 0) (h1 : P 1) (h2 : P 2) (h3 : P 3) (h4 : P 4) (h5 : P 5) : ∀ k, k < 6 → P k
  | 0, _ => h0
  | 1, _ => h1
  | 2, _ => h2
  | 3, _ => h3
  | 4, _ => h4
  | 5, _ => h5
  | k + 6, h => absurd h (by omega)
theorem top_lt : ∀ k, k < 6 → top k < wid k ∧ top k ≤ 99 := six (by decide) (by decide) (by decide) (by decide) (by decide) (by decide)
theorem lc_lt {f : Nat → Nat} (h : ∀ k, k < 6 → f k ≤ top k) : lc f < 16777216 := by
  have h0 : f 0 ≤ 1 := h 0 (by decide)
  have h1 : f 1 ≤ 1 := h 1 (by decide)
  have h2 : f 2 ≤ 99 := h 2 (by decide)
  have h3 : f 3 ≤ 99 := h 3 (by decide)
  have h4 : f 4 ≤ 9 := h 4 (by decide)
  have h5 : f 5 ≤ 9 := h 5 (by decide)
  unfold lc
  omega
theorem lc_at {f : Nat → Nat} (h : ∀ k, k < 6 → f k ≤ top k) : ∀ k, k < 6 → un (lc f) k = f k := by
  have h0 : f 0 ≤ 1 := h 0 (by decide)
  have h1 : f 1 ≤ 1 := h 1 (by decide)
  have h2 : f 2 ≤ 99 := h 2 (by decide)
  have h3 : f 3 ≤ 99 := h 3 (by decide)
  have h4 : f 4 ≤ 9 := h 4 (by decide)
  have h5 : f 5 ≤ 9 := h 5 (by decide)
  unfold un lc
  refine six ?_ ?_ ?_ ?_ ?_ ?_
  · show _ / 8388608 % 2 = _; omega
  · show _ / 4194304 % 2 = _; omega
  · show _ / 32768 % 128 = _; omega
  · show _ / 256 % 128 = _; omega
  · show _ / 16 % 16 = _; omega
  · show _ / 1 % 16 = _; omega
theorem lc_un {f g : Nat → Nat} (h : ∀ k, k < 6 → f k = g k) : lc f = lc g := by
  unfold lc
  rw [h 0 (by decide), h 1 (by decide), h 2 (by decide), h 3 (by decide), h 4 (by decide), h 5 (by decide)]
theorem bt_le (k v : Nat) (hk : k < 6) (hv : v ≤ top k) : 2 ≤ bt k v ∧ bt k v ≤ 7 := by
  have h4 : 4 ≤ k → v ≤ 9 := by
    intro h
    have : k = 4 ∨ k = 5 := by omega
    rcases this with rfl | rfl <;> exact hv
  unfold bt
  split
  · omega
  · split
    · split <;> omega
    · have := h4 (by omega); omega
theorem sm_le {f : Nat → Nat} {b : Nat} : ∀ n, (∀ k, k < n → f k ≤ b) → sm f n ≤ n * b
  | 0, _ => by simp [sm]
  | n + 1, h => by
    have h1 := sm_le n (fun k hk => h k (by omega))
    have h2 := h n (by omega)
    simp only [sm, Nat.succ_mul]
    omega
theorem sm_eq {f g : Nat → Nat} : ∀ n, (∀ k, k < n → f k = g k) → sm f n = sm g n
  | 0, _ => rfl
  | n + 1, h => by simp only [sm, sm_eq n (fun k hk => h k (by omega)), h n (by omega)]
theorem vst_ok {S : vS} (h : vOK S) {k : Nat} (hk : k < 6) : ∀ n (o : Option Nat), (∀ s, o = some s → s < (stS S).1) → vst S k n o ≤ top k
  | 0, _, _ => h.2.1 k hk
  | n + 1, none, _ => h.2.1 k hk
  | n + 1, some s, hs => by
    have h1 := (h.2.2.1).2 s (hs s rfl)
    unfold vst
    split
    · next v hv => exact h1.2 k hk v hv
    · exact vst_ok h hk n _ (fun t ht => h1.1 t ht)
theorem vpa_ok {S : vS} (h : vOK S) {p k : Nat} (hp : p < (paS S).1) (hk : k < 6) : vpa S p k ≤ top k := by
  have h1 := (h.2.2.2.1).2 p hp
  unfold vpa
  split
  · next v hv => exact h1.2 k hk v hv
  · exact vst_ok h hk 6 _ (fun t ht => h1.1 t ht)
theorem lkS_ok {S : vS} (h : vOK S) {o : Option Nat} (ho : ∀ s, o = some s → s < (stS S).1) : lkS S o < 16777216 ∧ ∀ k, k < 6 → un (lkS S o) k = vst S k 6 o :=
  ⟨lc_lt (fun k hk => vst_ok h hk 6 o ho), lc_at (fun k hk => vst_ok h hk 6 o ho)⟩
theorem lkP_ok {S : vS} (h : vOK S) {p : Nat} (hp : p < (paS S).1) : lkP S p < 16777216 ∧ ∀ k, k < 6 → un (lkP S p) k = vpa S p k :=
  ⟨lc_lt (fun k hk => vpa_ok h hp hk), lc_at (fun k hk => vpa_ok h hp hk)⟩
/-! how the class holds a sheet -/
def rRw (M : vM) (r : Nat) (R : vRw) : Prop := M r 1 = nI R.1 ∧ ∀ j, j < R.1 → M (r + 1) j = nO (R.2.1 j) ∧ ∀ k, k < 6 → M (r + 2) (j * 6 + k) = nO (R.2.2 j k)
def rSh (M : vM) (t : Nat) (S : vS) : Prop := M t 0 = nI S.1 ∧ (∀ k, k < 6 → M (t + 1) k = nI (S.2.1 k)) ∧ rRw M (t + 2) (stS S) ∧ rRw M (t + 5) (paS S)
theorem eqF {f : vF} {as : List Value} {G : vG} {M M1 : vM} {r : Option Value} (h : wpF f as G M (fun v G' M' => G' = G ∧ v = r ∧ M' = M1)) : f as G M = some (r, G, M1) := by
  obtain ⟨v, G', M', h1, rfl, rfl, rfl⟩ := h
  exact h1
