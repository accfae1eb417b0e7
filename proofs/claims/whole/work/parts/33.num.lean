/-! ===== numbers ===== -/
theorem N_add (a b : Nat) : nI a + nI b = nI (a + b) := (Int32.ofNat_add a b).symm
theorem N_mul (a b : Nat) : nI a * nI b = nI (a * b) := (Int32.ofNat_mul a b).symm
theorem N_cl {n : Nat} (h : n < 2147483648) : (nI n).toNatClampNeg = n := nI_clamp h
theorem N_le {a b : Nat} (ha : a < 2147483648) (hb : b < 2147483648) : nI a ≤ nI b ↔ a ≤ b := Int32.ofNat_le_ofNat ha hb
theorem N_lt {a b : Nat} (ha : a < 2147483648) (hb : b < 2147483648) : nI a < nI b ↔ a < b := by
  rw [← Int32.not_le, N_le hb ha]
  omega
theorem N_eq {a b : Nat} (ha : a < 2147483648) (hb : b < 2147483648) : nI a = nI b ↔ a = b := by
  constructor
  · intro h
    have := congrArg Int32.toNatClampNeg h
    rwa [N_cl ha, N_cl hb] at this
  · intro h
    rw [h]
theorem N_sub {a b : Nat} (h : b ≤ a) : nI a - nI b = nI (a - b) := pk_sub h
theorem N_inB {n N : Nat} (h : n < 2147483648) : inB (nI n) N = decide (n < N) := by
  unfold inB
  rw [N_cl h]
  have : (0 : Int32) ≤ nI n := nI_pos' h
  simp [this]
theorem N_in {n N : Nat} (h : n < N) (hN : N < 2147483648) : inB (nI n) N = true := by
  rw [N_inB (by omega)]
  simp [h]
theorem N_m1_lt (n : Nat) (h : n < 2147483648) : ¬ nI n = -1 := by
  intro e
  have h1 : (0 : Int32) ≤ nI n := nI_pos' h
  rw [e] at h1
  exact absurd h1 (by decide)
/-- any int: below nothing, or a number -/
theorem N_any (x : Int32) : x < 0 ∨ ∃ n : Nat, n < 2147483648 ∧ x = nI n := by
  rcases pk_ix x (n := 2147483647) (by decide) with h | h | ⟨j, hj, h⟩
  · exact Or.inl h
  · refine Or.inr ⟨2147483647, by decide, ?_⟩
    have h2 : x ≤ nI 2147483647 := by
      have := Int32.le_maxValue x
      exact this
    exact Int32.le_antisymm h2 h
  · exact Or.inr ⟨j, by omega, h⟩
def nO (o : Option Nat) : Int32 := match o with
  | none => -1
  | some n => nI n
theorem nO_n : nO none = -1 := rfl
theorem nO_s (n : Nat) : nO (some n) = nI n := rfl
theorem nO_m1 {o : Option Nat} (h : ∀ n, o = some n → n < 2147483648) : nO o = -1 ↔ o = none := by
  cases o with
  | none => simp [nO]
  | some n =>
    have := N_m1_lt n (h n rfl)
    simp [nO, this]
theorem l_0 : (0 : Int32) = nI 0 := rfl
theorem l_1 : (1 : Int32) = nI 1 := rfl
theorem l_2 : (2 : Int32) = nI 2 := rfl
theorem l_3 : (3 : Int32) = nI 3 := rfl
theorem l_4 : (4 : Int32) = nI 4 := rfl
theorem l_5 : (5 : Int32) = nI 5 := rfl
theorem l_6 : (6 : Int32) = nI 6 := rfl
theorem l_7 : (7 : Int32) = nI 7 := rfl
theorem l_8 : (8 : Int32) = nI 8 := rfl
theorem l_9 : (9 : Int32) = nI 9 := rfl
theorem l_10 : (10 : Int32) = nI 10 := rfl
theorem l_12 : (12 : Int32) = nI 12 := rfl
theorem l_15 : (15 : Int32) = nI 15 := rfl
theorem l_16 : (16 : Int32) = nI 16 := rfl
theorem l_20 : (20 : Int32) = nI 20 := rfl
theorem l_22 : (22 : Int32) = nI 22 := rfl
theorem l_23 : (23 : Int32) = nI 23 := rfl
theorem l_31 : (31 : Int32) = nI 31 := rfl
theorem l_52 : (52 : Int32) = nI 52 := rfl
theorem l_99 : (99 : Int32) = nI 99 := rfl
theorem l_110 : (110 : Int32) = nI 110 := rfl
theorem l_127 : (127 : Int32) = nI 127 := rfl
theorem N_s (n : Nat) : nI n + 1 = nI (n + 1) := (nI_succ n).symm
theorem N_p (n : Nat) (h : 1 ≤ n) : nI n - 1 = nI (n - 1) := N_sub h
