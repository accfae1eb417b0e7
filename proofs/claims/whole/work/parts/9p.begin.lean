-- the first state, behind both constructors
def r0 : Option (vJ ⊕ vR) := D_law0 (202, 9621) [some (.ref 2000), none, none, none] [] g00 M00
def jOf (o : Option (vJ ⊕ vR)) : vJ := match o with
  | some (.inl j) => j
  | _ => (0, [], [], g00, M00)
def isJ (o : Option (vJ ⊕ vR)) : Bool := match o with
  | some (.inl _) => true
  | _ => false
def gB : vG := (jOf r0).2.2.2.1
def mB : vM := (jOf r0).2.2.2.2
theorem jOf_eq {o : Option (vJ ⊕ vR)} (h : isJ o = true) : o = some (.inl (jOf o)) := by
  match o, h with
  | some (.inl _), _ => rfl
theorem r0_j : isJ r0 = true := by decide +kernel
theorem r0_1 : (jOf r0).1 = 18 := by decide +kernel
theorem r0_2 : (jOf r0).2.1 = [some (.ref 2000), some (.ref 0), some (.ref 190), some (.int 0)] := by decide +kernel
theorem r0_3 : (jOf r0).2.2.1 = [] := by decide +kernel
theorem r0_eq : r0 = some (.inl (18, [some (.ref 2000), some (.ref 0), some (.ref 190), some (.int 0)], [], gB, mB)) := by
  rw [jOf_eq r0_j]
  have e1 := r0_1
  have e2 := r0_2
  have e3 := r0_3
  unfold gB mB
  revert e1 e2 e3
  generalize jOf r0 = j
  obtain ⟨a, b, c, d, e⟩ := j
  rintro rfl rfl rfl
  rfl
theorem gB_n : gB.1 = 202 ∧ gB.2.1 = 9621 := by decide +kernel
theorem gB_C : ∀ a, a < 202 → gC gB a = gC gA a := by decide +kernel
theorem gB_L : ∀ a, a < 202 → gL gB a = gL gA a := by decide +kernel
theorem gB_R : ∀ a, a < 202 → ∀ k, k < 18 → gR gB a k = gR gA a k := by decide +kernel
theorem gA_small : ∀ a, a < 202 → 100 < gC gA a → gL gA a ≤ 18 := by decide +kernel
theorem nF_le : ∀ c, c < 100 → nF c ≤ 18 := by decide +kernel
theorem mB_num : mB 1 0 = 6 ∧ (∀ k, k < 6 → mB 2 k = 0) ∧ mB 3 1 = 0 ∧ mB 6 1 = 0 ∧ mB 3 0 = 6 ∧ mB 6 0 = 8 ∧ mB 9 0 = 0 ∧ mB 9 1 = 0 ∧ mB 172 0 = 0 ∧ mB 181 0 = 0 ∧ mB 139 0 = 0 ∧ mB 0 7 = 0 := by decide +kernel
theorem mB_num2 : mB 191 0 = 0 ∧ mB 191 1 = 0 ∧ mB 191 2 = 6 ∧ (∀ k, k < 6 → mB 191 (3 + k) = 0) ∧ mB 190 1 = 0 ∧ mB 190 2 = 0 ∧ mB 190 8 = 0 ∧ mB 190 3 = 0 := by decide +kernel
