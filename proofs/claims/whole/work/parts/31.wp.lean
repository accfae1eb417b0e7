/-! ===== what a fragment asks (wp), by program (wip/whole/gen_wp.py) ===== -/
def wp (d : vD) (L : vL) (st : List Value) (G : vG) (M : vM) (Q : vJ ⊕ vR → Prop) : Prop := ∃ o, d L st G M = some o ∧ Q o
def wpF (f : vF) (as : List Value) (G : vG) (M : vM) (P : Option Value → vG → vM → Prop) : Prop := ∃ v G' M', f as G M = some (v, G', M') ∧ P v G' M'
def psh (v : Option Value) (r : List Value) : List Value := match v with
  | some w => w :: r
  | none => r
def sq (pj : Nat) (b : vD) (Q : vJ ⊕ vR → Prop) : vJ ⊕ vR → Prop := fun o => match o with
  | .inl (p, L, st, G, M) => if p = pj then wp b L st G M Q else Q (.inl (p, L, st, G, M))
  | .inr r => Q (.inr r)
def lq (ph : Nat) (G0 : vG) (I : vL → vM → Prop) (Q : vJ ⊕ vR → Prop) : vJ ⊕ vR → Prop := fun o => match o with
  | .inl (p, L, st, G, M) => if p = ph then (st = [] ∧ G = G0 ∧ I L M) else Q (.inl (p, L, st, G, M))
  | .inr r => Q (.inr r)
/-- the end of a method: it returned, the shape is as it was -/
def eq_ (G0 : vG) (P : Option Value → vM → Prop) : vJ ⊕ vR → Prop := fun o => match o with
  | .inl _ => False
  | .inr (v, G, M) => G = G0 ∧ P v M
theorem wpF_eq {f : vF} {as : List Value} {G : vG} {M : vM} {v : Option Value} {G' : vG} {M' : vM} {P : Option Value → vG → vM → Prop} (h : f as G M = some (v, G', M')) : wpF f as G M P ↔ P v G' M' := by
  constructor
  · rintro ⟨a, b, c, h1, h2⟩
    rw [h] at h1
    cases h1
    exact h2
  · exact fun q => ⟨_, _, _, h, q⟩
theorem wpF_mono {f : vF} {as : List Value} {G : vG} {M : vM} {P P' : Option Value → vG → vM → Prop} (h : wpF f as G M P) (hp : ∀ v G' M', P v G' M' → P' v G' M') : wpF f as G M P' := by
  obtain ⟨v, G', M', h1, h2⟩ := h
  exact ⟨v, G', M', h1, hp _ _ _ h2⟩
theorem wp_mono {d : vD} {L : vL} {st : List Value} {G : vG} {M : vM} {Q Q' : vJ ⊕ vR → Prop} (h : wp d L st G M Q) (hq : ∀ o, Q o → Q' o) : wp d L st G M Q' := by
  obtain ⟨o, h1, h2⟩ := h
  exact ⟨o, h1, hq o h2⟩
theorem run_wp {d : vD} {nL : Nat} {as : List Value} {G : vG} {M : vM} {P : Option Value → vM → Prop} (h1 : as.length ≤ nL ∧ as.all (fun v => v.category == 1) = true) (h : wp d (en as nL) [] G M (eq_ G P)) : wpF (runD d nL) as G M (fun v G' M' => G' = G ∧ P v M') := by
  obtain ⟨o, ho, hq⟩ := h
  match o, ho, hq with
  | .inl _, ho, hq => exact hq.elim
  | .inr (v, G', M'), ho, hq =>
    refine ⟨v, G', M', ?_, hq⟩
    simp only [runD]
    rw [if_pos h1, ho]
/-- a loop that counts: e rounds at most, then its last look; a round may leave it -/
theorem wp_for {B : vD} {ph : Nat} {G : vG} {Q : vJ ⊕ vR → Prop} (e : Nat) (I : Nat → vL → vM → Prop) (hs : ∀ i L M, i < e → I i L M → wp B L [] G M (lq ph G (I (i + 1)) Q)) (hx : ∀ L M, I e L M → wp B L [] G M (lq ph G (fun _ _ => False) Q)) : ∀ (n i : Nat) (L : vL) (M : vM), i ≤ e → e - i < n → I i L M → wp (op_loop ph B n) L [] G M Q := by
  intro n
  induction n with
  | zero => intro i L M _ h; omega
  | succ n ih =>
    intro i L M hi hn hI
    have key : ∃ J : vL → vM → Prop, wp B L [] G M (lq ph G J Q) ∧ ∀ L' M', J L' M' → wp (op_loop ph B n) L' [] G M' Q := by
      by_cases he : i = e
      · subst he
        exact ⟨_, hx L M hI, fun _ _ h => h.elim⟩
      · exact ⟨_, hs i L M (by omega) hI, fun L' M' h => ih (i + 1) L' M' (by omega) (by omega) h⟩
    obtain ⟨J, ⟨o, ho, hq⟩, hJ⟩ := key
    match o, ho, hq with
    | .inr r, ho, hq => exact ⟨.inr r, by simp only [op_loop, ho], hq⟩
    | .inl (p, L', st', G', M'), ho, hq =>
      by_cases hp : p = ph
      · subst hp
        simp only [lq, if_true] at hq
        obtain ⟨rfl, rfl, hJ'⟩ := hq
        obtain ⟨o2, ho2, hq2⟩ := hJ _ _ hJ'
        exact ⟨o2, by simp only [op_loop, ho, if_true]; exact ho2, hq2⟩
      · simp only [lq, if_neg hp] at hq
        exact ⟨.inl (p, L', st', G', M'), by simp only [op_loop, ho, if_neg hp], hq⟩
/-- a loop with a measure that falls -/
theorem wp_while {B : vD} {ph : Nat} {G : vG} {Q : vJ ⊕ vR → Prop} (I : Nat → vL → vM → Prop) (hs : ∀ i L M, I i L M → wp B L [] G M (lq ph G (fun L' M' => ∃ j, j < i ∧ I j L' M') Q)) : ∀ (n i : Nat) (L : vL) (M : vM), i < n → I i L M → wp (op_loop ph B n) L [] G M Q := by
  intro n
  induction n with
  | zero => intro i L M h; omega
  | succ n ih =>
    intro i L M hn hI
    obtain ⟨o, ho, hq⟩ := hs i L M hI
    match o, ho, hq with
    | .inr r, ho, hq => exact ⟨.inr r, by simp only [op_loop, ho], hq⟩
    | .inl (p, L', st', G', M'), ho, hq =>
      by_cases hp : p = ph
      · subst hp
        simp only [lq, if_true] at hq
        obtain ⟨rfl, rfl, j, hj, hJ⟩ := hq
        obtain ⟨o2, ho2, hq2⟩ := ih j L' M' (by omega) hJ
        exact ⟨o2, by simp only [op_loop, ho, if_true]; exact ho2, hq2⟩
      · simp only [lq, if_neg hp] at hq
        exact ⟨.inl (p, L', st', G', M'), by simp only [op_loop, ho, if_neg hp], hq⟩
section WPS
variable {k kt kf a b : vD} {L : vL} {r st : List Value} {G G0 : vG} {M : vM} {Q : vJ ⊕ vR → Prop} {x y z n i : Int32} {p q j c t ph pj : Nat} {f : vF} {w v : Value} {P : Option Value → vM → Prop} {I : vL → vM → Prop}
variable {e0 e1 e2 e3 e4 e5 e6 e7 e8 e9 : Option Value}
theorem wp_con : wp (op_con x k) L st G M Q ↔ wp k L (.int x :: st) G M Q := Iff.rfl
theorem wp_ild0 : wp (op_ild 0 k) (some (.int x) :: L) st G M Q ↔ wp k (some (.int x) :: L) (.int x :: st) G M Q := Iff.rfl
theorem wp_ald0 : wp (op_ald 0 k) (some (.ref p) :: L) st G M Q ↔ wp k (some (.ref p) :: L) (.ref p :: st) G M Q := Iff.rfl
theorem wp_ist0 : wp (op_ist 0 k) (e0 :: L) (.int x :: st) G M Q ↔ wp k (some (.int x) :: L) st G M Q := Iff.rfl
theorem wp_inc0 : wp (op_inc 0 n k) (some (.int x) :: L) st G M Q ↔ wp k (some (.int (x + n)) :: L) st G M Q := Iff.rfl
theorem wp_ild1 : wp (op_ild 1 k) (e0 :: some (.int x) :: L) st G M Q ↔ wp k (e0 :: some (.int x) :: L) (.int x :: st) G M Q := Iff.rfl
theorem wp_ald1 : wp (op_ald 1 k) (e0 :: some (.ref p) :: L) st G M Q ↔ wp k (e0 :: some (.ref p) :: L) (.ref p :: st) G M Q := Iff.rfl
theorem wp_ist1n : wp (op_ist 1 k) (none :: e1 :: L) (.int x :: st) G M Q ↔ wp k (none :: some (.int x) :: L) st G M Q := Iff.rfl
theorem wp_inc1n : wp (op_inc 1 n k) (none :: some (.int x) :: L) st G M Q ↔ wp k (none :: some (.int (x + n)) :: L) st G M Q := Iff.rfl
theorem wp_ist1i : wp (op_ist 1 k) (some (.int z) :: e1 :: L) (.int x :: st) G M Q ↔ wp k (some (.int z) :: some (.int x) :: L) st G M Q := Iff.rfl
theorem wp_inc1i : wp (op_inc 1 n k) (some (.int z) :: some (.int x) :: L) st G M Q ↔ wp k (some (.int z) :: some (.int (x + n)) :: L) st G M Q := Iff.rfl
theorem wp_ist1r : wp (op_ist 1 k) (some (.ref q) :: e1 :: L) (.int x :: st) G M Q ↔ wp k (some (.ref q) :: some (.int x) :: L) st G M Q := Iff.rfl
theorem wp_inc1r : wp (op_inc 1 n k) (some (.ref q) :: some (.int x) :: L) st G M Q ↔ wp k (some (.ref q) :: some (.int (x + n)) :: L) st G M Q := Iff.rfl
theorem wp_ild2 : wp (op_ild 2 k) (e0 :: e1 :: some (.int x) :: L) st G M Q ↔ wp k (e0 :: e1 :: some (.int x) :: L) (.int x :: st) G M Q := Iff.rfl
theorem wp_ald2 : wp (op_ald 2 k) (e0 :: e1 :: some (.ref p) :: L) st G M Q ↔ wp k (e0 :: e1 :: some (.ref p) :: L) (.ref p :: st) G M Q := Iff.rfl
theorem wp_ist2n : wp (op_ist 2 k) (e0 :: none :: e2 :: L) (.int x :: st) G M Q ↔ wp k (e0 :: none :: some (.int x) :: L) st G M Q := Iff.rfl
theorem wp_inc2n : wp (op_inc 2 n k) (e0 :: none :: some (.int x) :: L) st G M Q ↔ wp k (e0 :: none :: some (.int (x + n)) :: L) st G M Q := Iff.rfl
theorem wp_ist2i : wp (op_ist 2 k) (e0 :: some (.int z) :: e2 :: L) (.int x :: st) G M Q ↔ wp k (e0 :: some (.int z) :: some (.int x) :: L) st G M Q := Iff.rfl
theorem wp_inc2i : wp (op_inc 2 n k) (e0 :: some (.int z) :: some (.int x) :: L) st G M Q ↔ wp k (e0 :: some (.int z) :: some (.int (x + n)) :: L) st G M Q := Iff.rfl
theorem wp_ist2r : wp (op_ist 2 k) (e0 :: some (.ref q) :: e2 :: L) (.int x :: st) G M Q ↔ wp k (e0 :: some (.ref q) :: some (.int x) :: L) st G M Q := Iff.rfl
theorem wp_inc2r : wp (op_inc 2 n k) (e0 :: some (.ref q) :: some (.int x) :: L) st G M Q ↔ wp k (e0 :: some (.ref q) :: some (.int (x + n)) :: L) st G M Q := Iff.rfl
theorem wp_ild3 : wp (op_ild 3 k) (e0 :: e1 :: e2 :: some (.int x) :: L) st G M Q ↔ wp k (e0 :: e1 :: e2 :: some (.int x) :: L) (.int x :: st) G M Q := Iff.rfl
theorem wp_ald3 : wp (op_ald 3 k) (e0 :: e1 :: e2 :: some (.ref p) :: L) st G M Q ↔ wp k (e0 :: e1 :: e2 :: some (.ref p) :: L) (.ref p :: st) G M Q := Iff.rfl
theorem wp_ist3n : wp (op_ist 3 k) (e0 :: e1 :: none :: e3 :: L) (.int x :: st) G M Q ↔ wp k (e0 :: e1 :: none :: some (.int x) :: L) st G M Q := Iff.rfl
theorem wp_inc3n : wp (op_inc 3 n k) (e0 :: e1 :: none :: some (.int x) :: L) st G M Q ↔ wp k (e0 :: e1 :: none :: some (.int (x + n)) :: L) st G M Q := Iff.rfl
theorem wp_ist3i : wp (op_ist 3 k) (e0 :: e1 :: some (.int z) :: e3 :: L) (.int x :: st) G M Q ↔ wp k (e0 :: e1 :: some (.int z) :: some (.int x) :: L) st G M Q := Iff.rfl
theorem wp_inc3i : wp (op_inc 3 n k) (e0 :: e1 :: some (.int z) :: some (.int x) :: L) st G M Q ↔ wp k (e0 :: e1 :: some (.int z) :: some (.int (x + n)) :: L) st G M Q := Iff.rfl
theorem wp_ist3r : wp (op_ist 3 k) (e0 :: e1 :: some (.ref q) :: e3 :: L) (.int x :: st) G M Q ↔ wp k (e0 :: e1 :: some (.ref q) :: some (.int x) :: L) st G M Q := Iff.rfl
theorem wp_inc3r : wp (op_inc 3 n k) (e0 :: e1 :: some (.ref q) :: some (.int x) :: L) st G M Q ↔ wp k (e0 :: e1 :: some (.ref q) :: some (.int (x + n)) :: L) st G M Q := Iff.rfl
theorem wp_ild4 : wp (op_ild 4 k) (e0 :: e1 :: e2 :: e3 :: some (.int x) :: L) st G M Q ↔ wp k (e0 :: e1 :: e2 :: e3 :: some (.int x) :: L) (.int x :: st) G M Q := Iff.rfl
theorem wp_ald4 : wp (op_ald 4 k) (e0 :: e1 :: e2 :: e3 :: some (.ref p) :: L) st G M Q ↔ wp k (e0 :: e1 :: e2 :: e3 :: some (.ref p) :: L) (.ref p :: st) G M Q := Iff.rfl
theorem wp_ist4n : wp (op_ist 4 k) (e0 :: e1 :: e2 :: none :: e4 :: L) (.int x :: st) G M Q ↔ wp k (e0 :: e1 :: e2 :: none :: some (.int x) :: L) st G M Q := Iff.rfl
theorem wp_inc4n : wp (op_inc 4 n k) (e0 :: e1 :: e2 :: none :: some (.int x) :: L) st G M Q ↔ wp k (e0 :: e1 :: e2 :: none :: some (.int (x + n)) :: L) st G M Q := Iff.rfl
theorem wp_ist4i : wp (op_ist 4 k) (e0 :: e1 :: e2 :: some (.int z) :: e4 :: L) (.int x :: st) G M Q ↔ wp k (e0 :: e1 :: e2 :: some (.int z) :: some (.int x) :: L) st G M Q := Iff.rfl
theorem wp_inc4i : wp (op_inc 4 n k) (e0 :: e1 :: e2 :: some (.int z) :: some (.int x) :: L) st G M Q ↔ wp k (e0 :: e1 :: e2 :: some (.int z) :: some (.int (x + n)) :: L) st G M Q := Iff.rfl
theorem wp_ist4r : wp (op_ist 4 k) (e0 :: e1 :: e2 :: some (.ref q) :: e4 :: L) (.int x :: st) G M Q ↔ wp k (e0 :: e1 :: e2 :: some (.ref q) :: some (.int x) :: L) st G M Q := Iff.rfl
theorem wp_inc4r : wp (op_inc 4 n k) (e0 :: e1 :: e2 :: some (.ref q) :: some (.int x) :: L) st G M Q ↔ wp k (e0 :: e1 :: e2 :: some (.ref q) :: some (.int (x + n)) :: L) st G M Q := Iff.rfl
theorem wp_ild5 : wp (op_ild 5 k) (e0 :: e1 :: e2 :: e3 :: e4 :: some (.int x) :: L) st G M Q ↔ wp k (e0 :: e1 :: e2 :: e3 :: e4 :: some (.int x) :: L) (.int x :: st) G M Q := Iff.rfl
theorem wp_ald5 : wp (op_ald 5 k) (e0 :: e1 :: e2 :: e3 :: e4 :: some (.ref p) :: L) st G M Q ↔ wp k (e0 :: e1 :: e2 :: e3 :: e4 :: some (.ref p) :: L) (.ref p :: st) G M Q := Iff.rfl
theorem wp_ist5n : wp (op_ist 5 k) (e0 :: e1 :: e2 :: e3 :: none :: e5 :: L) (.int x :: st) G M Q ↔ wp k (e0 :: e1 :: e2 :: e3 :: none :: some (.int x) :: L) st G M Q := Iff.rfl
theorem wp_inc5n : wp (op_inc 5 n k) (e0 :: e1 :: e2 :: e3 :: none :: some (.int x) :: L) st G M Q ↔ wp k (e0 :: e1 :: e2 :: e3 :: none :: some (.int (x + n)) :: L) st G M Q := Iff.rfl
theorem wp_ist5i : wp (op_ist 5 k) (e0 :: e1 :: e2 :: e3 :: some (.int z) :: e5 :: L) (.int x :: st) G M Q ↔ wp k (e0 :: e1 :: e2 :: e3 :: some (.int z) :: some (.int x) :: L) st G M Q := Iff.rfl
theorem wp_inc5i : wp (op_inc 5 n k) (e0 :: e1 :: e2 :: e3 :: some (.int z) :: some (.int x) :: L) st G M Q ↔ wp k (e0 :: e1 :: e2 :: e3 :: some (.int z) :: some (.int (x + n)) :: L) st G M Q := Iff.rfl
theorem wp_ist5r : wp (op_ist 5 k) (e0 :: e1 :: e2 :: e3 :: some (.ref q) :: e5 :: L) (.int x :: st) G M Q ↔ wp k (e0 :: e1 :: e2 :: e3 :: some (.ref q) :: some (.int x) :: L) st G M Q := Iff.rfl
theorem wp_inc5r : wp (op_inc 5 n k) (e0 :: e1 :: e2 :: e3 :: some (.ref q) :: some (.int x) :: L) st G M Q ↔ wp k (e0 :: e1 :: e2 :: e3 :: some (.ref q) :: some (.int (x + n)) :: L) st G M Q := Iff.rfl
theorem wp_ild6 : wp (op_ild 6 k) (e0 :: e1 :: e2 :: e3 :: e4 :: e5 :: some (.int x) :: L) st G M Q ↔ wp k (e0 :: e1 :: e2 :: e3 :: e4 :: e5 :: some (.int x) :: L) (.int x :: st) G M Q := Iff.rfl
theorem wp_ald6 : wp (op_ald 6 k) (e0 :: e1 :: e2 :: e3 :: e4 :: e5 :: some (.ref p) :: L) st G M Q ↔ wp k (e0 :: e1 :: e2 :: e3 :: e4 :: e5 :: some (.ref p) :: L) (.ref p :: st) G M Q := Iff.rfl
theorem wp_ist6n : wp (op_ist 6 k) (e0 :: e1 :: e2 :: e3 :: e4 :: none :: e6 :: L) (.int x :: st) G M Q ↔ wp k (e0 :: e1 :: e2 :: e3 :: e4 :: none :: some (.int x) :: L) st G M Q := Iff.rfl
theorem wp_inc6n : wp (op_inc 6 n k) (e0 :: e1 :: e2 :: e3 :: e4 :: none :: some (.int x) :: L) st G M Q ↔ wp k (e0 :: e1 :: e2 :: e3 :: e4 :: none :: some (.int (x + n)) :: L) st G M Q := Iff.rfl
theorem wp_ist6i : wp (op_ist 6 k) (e0 :: e1 :: e2 :: e3 :: e4 :: some (.int z) :: e6 :: L) (.int x :: st) G M Q ↔ wp k (e0 :: e1 :: e2 :: e3 :: e4 :: some (.int z) :: some (.int x) :: L) st G M Q := Iff.rfl
theorem wp_inc6i : wp (op_inc 6 n k) (e0 :: e1 :: e2 :: e3 :: e4 :: some (.int z) :: some (.int x) :: L) st G M Q ↔ wp k (e0 :: e1 :: e2 :: e3 :: e4 :: some (.int z) :: some (.int (x + n)) :: L) st G M Q := Iff.rfl
theorem wp_ist6r : wp (op_ist 6 k) (e0 :: e1 :: e2 :: e3 :: e4 :: some (.ref q) :: e6 :: L) (.int x :: st) G M Q ↔ wp k (e0 :: e1 :: e2 :: e3 :: e4 :: some (.ref q) :: some (.int x) :: L) st G M Q := Iff.rfl
theorem wp_inc6r : wp (op_inc 6 n k) (e0 :: e1 :: e2 :: e3 :: e4 :: some (.ref q) :: some (.int x) :: L) st G M Q ↔ wp k (e0 :: e1 :: e2 :: e3 :: e4 :: some (.ref q) :: some (.int (x + n)) :: L) st G M Q := Iff.rfl
theorem wp_ild7 : wp (op_ild 7 k) (e0 :: e1 :: e2 :: e3 :: e4 :: e5 :: e6 :: some (.int x) :: L) st G M Q ↔ wp k (e0 :: e1 :: e2 :: e3 :: e4 :: e5 :: e6 :: some (.int x) :: L) (.int x :: st) G M Q := Iff.rfl
theorem wp_ald7 : wp (op_ald 7 k) (e0 :: e1 :: e2 :: e3 :: e4 :: e5 :: e6 :: some (.ref p) :: L) st G M Q ↔ wp k (e0 :: e1 :: e2 :: e3 :: e4 :: e5 :: e6 :: some (.ref p) :: L) (.ref p :: st) G M Q := Iff.rfl
theorem wp_ist7n : wp (op_ist 7 k) (e0 :: e1 :: e2 :: e3 :: e4 :: e5 :: none :: e7 :: L) (.int x :: st) G M Q ↔ wp k (e0 :: e1 :: e2 :: e3 :: e4 :: e5 :: none :: some (.int x) :: L) st G M Q := Iff.rfl
theorem wp_inc7n : wp (op_inc 7 n k) (e0 :: e1 :: e2 :: e3 :: e4 :: e5 :: none :: some (.int x) :: L) st G M Q ↔ wp k (e0 :: e1 :: e2 :: e3 :: e4 :: e5 :: none :: some (.int (x + n)) :: L) st G M Q := Iff.rfl
theorem wp_ist7i : wp (op_ist 7 k) (e0 :: e1 :: e2 :: e3 :: e4 :: e5 :: some (.int z) :: e7 :: L) (.int x :: st) G M Q ↔ wp k (e0 :: e1 :: e2 :: e3 :: e4 :: e5 :: some (.int z) :: some (.int x) :: L) st G M Q := Iff.rfl
theorem wp_inc7i : wp (op_inc 7 n k) (e0 :: e1 :: e2 :: e3 :: e4 :: e5 :: some (.int z) :: some (.int x) :: L) st G M Q ↔ wp k (e0 :: e1 :: e2 :: e3 :: e4 :: e5 :: some (.int z) :: some (.int (x + n)) :: L) st G M Q := Iff.rfl
theorem wp_ist7r : wp (op_ist 7 k) (e0 :: e1 :: e2 :: e3 :: e4 :: e5 :: some (.ref q) :: e7 :: L) (.int x :: st) G M Q ↔ wp k (e0 :: e1 :: e2 :: e3 :: e4 :: e5 :: some (.ref q) :: some (.int x) :: L) st G M Q := Iff.rfl
theorem wp_inc7r : wp (op_inc 7 n k) (e0 :: e1 :: e2 :: e3 :: e4 :: e5 :: some (.ref q) :: some (.int x) :: L) st G M Q ↔ wp k (e0 :: e1 :: e2 :: e3 :: e4 :: e5 :: some (.ref q) :: some (.int (x + n)) :: L) st G M Q := Iff.rfl
theorem wp_ild8 : wp (op_ild 8 k) (e0 :: e1 :: e2 :: e3 :: e4 :: e5 :: e6 :: e7 :: some (.int x) :: L) st G M Q ↔ wp k (e0 :: e1 :: e2 :: e3 :: e4 :: e5 :: e6 :: e7 :: some (.int x) :: L) (.int x :: st) G M Q := Iff.rfl
theorem wp_ald8 : wp (op_ald 8 k) (e0 :: e1 :: e2 :: e3 :: e4 :: e5 :: e6 :: e7 :: some (.ref p) :: L) st G M Q ↔ wp k (e0 :: e1 :: e2 :: e3 :: e4 :: e5 :: e6 :: e7 :: some (.ref p) :: L) (.ref p :: st) G M Q := Iff.rfl
theorem wp_ist8n : wp (op_ist 8 k) (e0 :: e1 :: e2 :: e3 :: e4 :: e5 :: e6 :: none :: e8 :: L) (.int x :: st) G M Q ↔ wp k (e0 :: e1 :: e2 :: e3 :: e4 :: e5 :: e6 :: none :: some (.int x) :: L) st G M Q := Iff.rfl
theorem wp_inc8n : wp (op_inc 8 n k) (e0 :: e1 :: e2 :: e3 :: e4 :: e5 :: e6 :: none :: some (.int x) :: L) st G M Q ↔ wp k (e0 :: e1 :: e2 :: e3 :: e4 :: e5 :: e6 :: none :: some (.int (x + n)) :: L) st G M Q := Iff.rfl
theorem wp_ist8i : wp (op_ist 8 k) (e0 :: e1 :: e2 :: e3 :: e4 :: e5 :: e6 :: some (.int z) :: e8 :: L) (.int x :: st) G M Q ↔ wp k (e0 :: e1 :: e2 :: e3 :: e4 :: e5 :: e6 :: some (.int z) :: some (.int x) :: L) st G M Q := Iff.rfl
theorem wp_inc8i : wp (op_inc 8 n k) (e0 :: e1 :: e2 :: e3 :: e4 :: e5 :: e6 :: some (.int z) :: some (.int x) :: L) st G M Q ↔ wp k (e0 :: e1 :: e2 :: e3 :: e4 :: e5 :: e6 :: some (.int z) :: some (.int (x + n)) :: L) st G M Q := Iff.rfl
theorem wp_ist8r : wp (op_ist 8 k) (e0 :: e1 :: e2 :: e3 :: e4 :: e5 :: e6 :: some (.ref q) :: e8 :: L) (.int x :: st) G M Q ↔ wp k (e0 :: e1 :: e2 :: e3 :: e4 :: e5 :: e6 :: some (.ref q) :: some (.int x) :: L) st G M Q := Iff.rfl
theorem wp_inc8r : wp (op_inc 8 n k) (e0 :: e1 :: e2 :: e3 :: e4 :: e5 :: e6 :: some (.ref q) :: some (.int x) :: L) st G M Q ↔ wp k (e0 :: e1 :: e2 :: e3 :: e4 :: e5 :: e6 :: some (.ref q) :: some (.int (x + n)) :: L) st G M Q := Iff.rfl
theorem wp_ild9 : wp (op_ild 9 k) (e0 :: e1 :: e2 :: e3 :: e4 :: e5 :: e6 :: e7 :: e8 :: some (.int x) :: L) st G M Q ↔ wp k (e0 :: e1 :: e2 :: e3 :: e4 :: e5 :: e6 :: e7 :: e8 :: some (.int x) :: L) (.int x :: st) G M Q := Iff.rfl
theorem wp_ald9 : wp (op_ald 9 k) (e0 :: e1 :: e2 :: e3 :: e4 :: e5 :: e6 :: e7 :: e8 :: some (.ref p) :: L) st G M Q ↔ wp k (e0 :: e1 :: e2 :: e3 :: e4 :: e5 :: e6 :: e7 :: e8 :: some (.ref p) :: L) (.ref p :: st) G M Q := Iff.rfl
theorem wp_ist9n : wp (op_ist 9 k) (e0 :: e1 :: e2 :: e3 :: e4 :: e5 :: e6 :: e7 :: none :: e9 :: L) (.int x :: st) G M Q ↔ wp k (e0 :: e1 :: e2 :: e3 :: e4 :: e5 :: e6 :: e7 :: none :: some (.int x) :: L) st G M Q := Iff.rfl
theorem wp_inc9n : wp (op_inc 9 n k) (e0 :: e1 :: e2 :: e3 :: e4 :: e5 :: e6 :: e7 :: none :: some (.int x) :: L) st G M Q ↔ wp k (e0 :: e1 :: e2 :: e3 :: e4 :: e5 :: e6 :: e7 :: none :: some (.int (x + n)) :: L) st G M Q := Iff.rfl
theorem wp_ist9i : wp (op_ist 9 k) (e0 :: e1 :: e2 :: e3 :: e4 :: e5 :: e6 :: e7 :: some (.int z) :: e9 :: L) (.int x :: st) G M Q ↔ wp k (e0 :: e1 :: e2 :: e3 :: e4 :: e5 :: e6 :: e7 :: some (.int z) :: some (.int x) :: L) st G M Q := Iff.rfl
theorem wp_inc9i : wp (op_inc 9 n k) (e0 :: e1 :: e2 :: e3 :: e4 :: e5 :: e6 :: e7 :: some (.int z) :: some (.int x) :: L) st G M Q ↔ wp k (e0 :: e1 :: e2 :: e3 :: e4 :: e5 :: e6 :: e7 :: some (.int z) :: some (.int (x + n)) :: L) st G M Q := Iff.rfl
theorem wp_ist9r : wp (op_ist 9 k) (e0 :: e1 :: e2 :: e3 :: e4 :: e5 :: e6 :: e7 :: some (.ref q) :: e9 :: L) (.int x :: st) G M Q ↔ wp k (e0 :: e1 :: e2 :: e3 :: e4 :: e5 :: e6 :: e7 :: some (.ref q) :: some (.int x) :: L) st G M Q := Iff.rfl
theorem wp_inc9r : wp (op_inc 9 n k) (e0 :: e1 :: e2 :: e3 :: e4 :: e5 :: e6 :: e7 :: some (.ref q) :: some (.int x) :: L) st G M Q ↔ wp k (e0 :: e1 :: e2 :: e3 :: e4 :: e5 :: e6 :: e7 :: some (.ref q) :: some (.int (x + n)) :: L) st G M Q := Iff.rfl
theorem wp_bin {f : Int32 → Int32 → Int32} : wp (op_bin f k) L (.int y :: .int x :: r) G M Q ↔ wp k L (.int (f x y) :: r) G M Q := Iff.rfl
theorem wp_div {f : Int32 → Int32 → Int32} : wp (op_div f k) L (.int y :: .int x :: r) G M Q ↔ ¬ y = 0 ∧ wp k L (.int (f x y) :: r) G M Q := by by_cases h : y = 0 <;> simp [wp, op_div, h]
theorem wp_dupi : wp (op_dup k) L (.int x :: r) G M Q ↔ wp k L (.int x :: .int x :: r) G M Q := Iff.rfl
theorem wp_dupr : wp (op_dup k) L (.ref p :: r) G M Q ↔ wp k L (.ref p :: .ref p :: r) G M Q := Iff.rfl
theorem wp_dup2 : wp (op_dup2 k) L (.int x :: .ref p :: r) G M Q ↔ wp k L (.int x :: .ref p :: .int x :: .ref p :: r) G M Q := Iff.rfl
theorem wp_popi : wp (op_pop k) L (.int x :: r) G M Q ↔ wp k L r G M Q := Iff.rfl
theorem wp_popr : wp (op_pop k) L (.ref p :: r) G M Q ↔ wp k L r G M Q := Iff.rfl
theorem wp_ifeq : wp (op_ifeq kt kf) L (.int x :: r) G M Q ↔ (x = 0 → wp kt L r G M Q) ∧ (¬ x = 0 → wp kf L r G M Q) := by by_cases h : x = 0 <;> simp only [wp, op_ifeq, h, if_true, if_false, true_implies, false_implies, not_true_eq_false, not_false_eq_true, and_true, true_and]
theorem wp_ifne : wp (op_ifne kt kf) L (.int x :: r) G M Q ↔ (¬ x = 0 → wp kt L r G M Q) ∧ (x = 0 → wp kf L r G M Q) := by by_cases h : x = 0 <;> simp [wp, op_ifne, h]
theorem wp_iflt : wp (op_iflt kt kf) L (.int x :: r) G M Q ↔ (x < 0 → wp kt L r G M Q) ∧ (¬ (x < 0) → wp kf L r G M Q) := by by_cases h : x < 0 <;> simp only [wp, op_iflt, h, if_true, if_false, true_implies, false_implies, not_true_eq_false, not_false_eq_true, and_true, true_and]
theorem wp_ifge : wp (op_ifge kt kf) L (.int x :: r) G M Q ↔ (0 ≤ x → wp kt L r G M Q) ∧ (¬ (0 ≤ x) → wp kf L r G M Q) := by by_cases h : 0 ≤ x <;> simp only [wp, op_ifge, h, if_true, if_false, true_implies, false_implies, not_true_eq_false, not_false_eq_true, and_true, true_and]
theorem wp_ifgt : wp (op_ifgt kt kf) L (.int x :: r) G M Q ↔ (0 < x → wp kt L r G M Q) ∧ (¬ (0 < x) → wp kf L r G M Q) := by by_cases h : 0 < x <;> simp only [wp, op_ifgt, h, if_true, if_false, true_implies, false_implies, not_true_eq_false, not_false_eq_true, and_true, true_and]
theorem wp_ifle : wp (op_ifle kt kf) L (.int x :: r) G M Q ↔ (x ≤ 0 → wp kt L r G M Q) ∧ (¬ (x ≤ 0) → wp kf L r G M Q) := by by_cases h : x ≤ 0 <;> simp only [wp, op_ifle, h, if_true, if_false, true_implies, false_implies, not_true_eq_false, not_false_eq_true, and_true, true_and]
theorem wp_iceq : wp (op_iceq kt kf) L (.int y :: .int x :: r) G M Q ↔ (x = y → wp kt L r G M Q) ∧ (¬ (x = y) → wp kf L r G M Q) := by by_cases h : x = y <;> simp only [wp, op_iceq, h, if_true, if_false, true_implies, false_implies, not_true_eq_false, not_false_eq_true, and_true, true_and]
theorem wp_icne : wp (op_icne kt kf) L (.int y :: .int x :: r) G M Q ↔ (¬ x = y → wp kt L r G M Q) ∧ (x = y → wp kf L r G M Q) := by by_cases h : x = y <;> simp [wp, op_icne, h]
theorem wp_iclt : wp (op_iclt kt kf) L (.int y :: .int x :: r) G M Q ↔ (x < y → wp kt L r G M Q) ∧ (¬ (x < y) → wp kf L r G M Q) := by by_cases h : x < y <;> simp only [wp, op_iclt, h, if_true, if_false, true_implies, false_implies, not_true_eq_false, not_false_eq_true, and_true, true_and]
theorem wp_icge : wp (op_icge kt kf) L (.int y :: .int x :: r) G M Q ↔ (y ≤ x → wp kt L r G M Q) ∧ (¬ (y ≤ x) → wp kf L r G M Q) := by by_cases h : y ≤ x <;> simp only [wp, op_icge, h, if_true, if_false, true_implies, false_implies, not_true_eq_false, not_false_eq_true, and_true, true_and]
theorem wp_icgt : wp (op_icgt kt kf) L (.int y :: .int x :: r) G M Q ↔ (y < x → wp kt L r G M Q) ∧ (¬ (y < x) → wp kf L r G M Q) := by by_cases h : y < x <;> simp only [wp, op_icgt, h, if_true, if_false, true_implies, false_implies, not_true_eq_false, not_false_eq_true, and_true, true_and]
theorem wp_icle : wp (op_icle kt kf) L (.int y :: .int x :: r) G M Q ↔ (x ≤ y → wp kt L r G M Q) ∧ (¬ (x ≤ y) → wp kf L r G M Q) := by by_cases h : x ≤ y <;> simp only [wp, op_icle, h, if_true, if_false, true_implies, false_implies, not_true_eq_false, not_false_eq_true, and_true, true_and]
theorem wp_jmp : wp (op_jmp p) L st G M Q ↔ Q (.inl (p, L, st, G, M)) := by simp [wp, op_jmp]
theorem wp_seq : wp (op_seq pj a b) L st G M Q ↔ wp a L st G M (sq pj b Q) := by
  constructor
  · rintro ⟨o, ho, hq⟩
    unfold op_seq at ho
    split at ho
    · next p L' st' G' M' he =>
      split at ho
      · next hp => exact ⟨_, he, by simp only [sq, hp, if_true]; exact ⟨o, ho, hq⟩⟩
      · next hp => cases ho; exact ⟨_, he, by simp only [sq, if_neg hp]; exact hq⟩
    · next h =>
      match o, ho, hq with
      | .inl (p, L', st', G', M'), ho, hq => exact absurd ho (h p L' st' G' M')
      | .inr r', ho, hq => exact ⟨_, ho, hq⟩
  · rintro ⟨o, ho, hq⟩
    match o, ho, hq with
    | .inr r', ho, hq => exact ⟨_, by simp only [op_seq, ho], hq⟩
    | .inl (p, L', st', G', M'), ho, hq =>
      by_cases hp : p = pj
      · simp only [sq, hp, if_true] at hq
        obtain ⟨o2, h2, h3⟩ := hq
        exact ⟨o2, by simp only [op_seq, ho, hp, if_true]; exact h2, h3⟩
      · simp only [sq, if_neg hp] at hq
        exact ⟨_, by simp only [op_seq, ho, if_neg hp], hq⟩
theorem sq_j : sq pj b Q (.inl (p, L, st, G, M)) ↔ if p = pj then wp b L st G M Q else Q (.inl (p, L, st, G, M)) := Iff.rfl
theorem sq_r {u : vR} : sq pj b Q (.inr u) ↔ Q (.inr u) := Iff.rfl
theorem lq_j : lq ph G0 I Q (.inl (p, L, st, G, M)) ↔ if p = ph then (st = [] ∧ G = G0 ∧ I L M) else Q (.inl (p, L, st, G, M)) := Iff.rfl
theorem lq_r {u : vR} : lq ph G0 I Q (.inr u) ↔ Q (.inr u) := Iff.rfl
theorem eq_r {u : Option Value} : eq_ G0 P (.inr (u, G, M)) ↔ G = G0 ∧ P u M := Iff.rfl
theorem wp_kil {ks : List Bool} : wp (op_kil ks k) L st G M Q ↔ wp k (List.zipWith (fun b v => if b then v else none) ks L) st G M Q := Iff.rfl
theorem wp_ret : wp op_ret L [.int x] G M Q ↔ Q (.inr (some (.int x), G, M)) := by simp [wp, op_ret]
theorem wp_zret : wp op_zret L [.int x] G M Q ↔ (x = 0 ∨ x = 1) ∧ Q (.inr (some (.int x), G, M)) := by by_cases h : x = 0 ∨ x = 1 <;> simp [wp, op_zret, h]
theorem wp_vret : wp op_vret L [] G M Q ↔ Q (.inr (none, G, M)) := by simp [wp, op_vret]
theorem wp_aret : wp op_aret L [.ref p] G M Q ↔ Q (.inr (some (.ref p), G, M)) := by simp [wp, op_aret]
theorem wp_gfi : wp (op_gfi c j k) L (.ref p :: r) G M Q ↔ gAt G p c = true ∧ wp k L (.int (M p j) :: r) G M Q := by cases h : gAt G p c <;> simp [wp, op_gfi, h]
theorem wp_gfr : wp (op_gfr c j k) L (.ref p :: r) G M Q ↔ gAt G p c = true ∧ ∃ b, gR G p j = some b ∧ wp k L (.ref b :: r) G M Q := by cases h : gAt G p c <;> cases h2 : gR G p j <;> simp [wp, op_gfr, h, h2]
theorem wp_pfi : wp (op_pfi c j k) L (.int x :: .ref p :: r) G M Q ↔ gAt G p c = true ∧ wp k L r G (mset M p j x) Q := by cases h : gAt G p c <;> simp [wp, op_pfi, h]
theorem wp_pfz : wp (op_pfz c j k) L (.int x :: .ref p :: r) G M Q ↔ (gAt G p c = true ∧ (x = 0 ∨ x = 1)) ∧ wp k L r G (mset M p j x) Q := by by_cases h : gAt G p c = true ∧ (x = 0 ∨ x = 1) <;> simp only [wp, op_pfz, h, if_true, if_false, true_and, false_and, reduceCtorEq, exists_false]
theorem wp_ial : wp (op_ial k) L (.int i :: .ref p :: r) G M Q ↔ gAt G p 100 = true ∧ inB i (gL G p) = true ∧ wp k L (.int (M p i.toNatClampNeg) :: r) G M Q := by cases h : gAt G p 100 <;> cases h2 : inB i (gL G p) <;> simp [wp, op_ial, h, h2]
theorem wp_ias : wp (op_ias k) L (.int x :: .int i :: .ref p :: r) G M Q ↔ gAt G p 100 = true ∧ inB i (gL G p) = true ∧ wp k L r G (mset M p i.toNatClampNeg x) Q := by cases h : gAt G p 100 <;> cases h2 : inB i (gL G p) <;> simp [wp, op_ias, h, h2]
theorem wp_aal : wp (op_aal t k) L (.int i :: .ref p :: r) G M Q ↔ gAt G p (100 + t) = true ∧ inB i (gL G p) = true ∧ ∃ b, gR G p i.toNatClampNeg = some b ∧ wp k L (.ref b :: r) G M Q := by cases h : gAt G p (100 + t) <;> cases h2 : inB i (gL G p) <;> cases h3 : gR G p i.toNatClampNeg <;> simp [wp, op_aal, h, h2, h3]
theorem wp_gst : wp (op_gst t k) L st G M Q ↔ wp k L (.ref (1000 + t) :: st) G M Q := Iff.rfl
theorem wp_sal : wp (op_sal t k) L (.int i :: .ref p :: r) G M Q ↔ (p = 1000 + t ∧ inB i 6 = true) ∧ wp k L (.int (sV t i.toNatClampNeg) :: r) G M Q := by by_cases h : p = 1000 + t ∧ inB i 6 = true <;> simp only [wp, op_sal, h, if_true, if_false, true_and, false_and, reduceCtorEq, exists_false]
theorem wp_min : wp (op_min k) L (.int y :: .int x :: r) G M Q ↔ r.length ≤ 4 ∧ wp k L (.int (if y < x then y else x) :: r) G M Q := by by_cases h : r.length ≤ 4 <;> simp only [wp, op_min, h, if_true, if_false, true_and, false_and, reduceCtorEq, exists_false]
theorem wp_calV0 : wp (op_calV c 0 f k) L (.ref p :: r) G M Q ↔ (gAt G p c = true ∧ r.length ≤ 4) ∧ wpF f [.ref p] G M (fun v G2 M2 => wp k L (psh v r) G2 M2 Q) := by
  unfold wp wpF op_calV
  simp only [List.drop, List.take, List.reverse_cons, List.reverse_nil, List.nil_append, List.cons_append]
  by_cases h : gAt G p c = true ∧ r.length ≤ 4
  · rw [if_pos h]
    simp only [h, and_self, true_and]
    cases hf : f [.ref p] G M with
    | none => simp
    | some u =>
      obtain ⟨v, G2, M2⟩ := u
      constructor
      · intro h
        exact ⟨v, G2, M2, rfl, by cases v <;> exact h⟩
      · rintro ⟨v', G', M', e, h⟩
        cases e
        cases v <;> exact h
  · rw [if_neg h]
    simp [h]
theorem wp_calV1 {w0 : Value} : wp (op_calV c 1 f k) L (w0 :: .ref p :: r) G M Q ↔ (gAt G p c = true ∧ r.length ≤ 4) ∧ wpF f [.ref p, w0] G M (fun v G2 M2 => wp k L (psh v r) G2 M2 Q) := by
  unfold wp wpF op_calV
  simp only [List.drop, List.take, List.reverse_cons, List.reverse_nil, List.nil_append, List.cons_append]
  by_cases h : gAt G p c = true ∧ r.length ≤ 4
  · rw [if_pos h]
    simp only [h, and_self, true_and]
    cases hf : f [.ref p, w0] G M with
    | none => simp
    | some u =>
      obtain ⟨v, G2, M2⟩ := u
      constructor
      · intro h
        exact ⟨v, G2, M2, rfl, by cases v <;> exact h⟩
      · rintro ⟨v', G', M', e, h⟩
        cases e
        cases v <;> exact h
  · rw [if_neg h]
    simp [h]
theorem wp_calS1 {w0 : Value} : wp (op_cal 1 f k) L (w0 :: r) G M Q ↔ r.length ≤ 4 ∧ wpF f [w0] G M (fun v G2 M2 => wp k L (psh v r) G2 M2 Q) := by
  unfold wp wpF op_cal
  simp only [List.drop, List.take, List.reverse_cons, List.reverse_nil, List.nil_append, List.cons_append, List.length_cons]
  by_cases h : r.length ≤ 4
  · rw [if_pos (by omega)]
    simp only [h, true_and]
    cases hf : f [w0] G M with
    | none => simp
    | some u =>
      obtain ⟨v, G2, M2⟩ := u
      constructor
      · intro h
        exact ⟨v, G2, M2, rfl, by cases v <;> exact h⟩
      · rintro ⟨v', G', M', e, h⟩
        cases e
        cases v <;> exact h
  · rw [if_neg (by omega)]
    simp [h]
theorem wp_calV2 {w0 w1 : Value} : wp (op_calV c 2 f k) L (w0 :: w1 :: .ref p :: r) G M Q ↔ (gAt G p c = true ∧ r.length ≤ 4) ∧ wpF f [.ref p, w1, w0] G M (fun v G2 M2 => wp k L (psh v r) G2 M2 Q) := by
  unfold wp wpF op_calV
  simp only [List.drop, List.take, List.reverse_cons, List.reverse_nil, List.nil_append, List.cons_append]
  by_cases h : gAt G p c = true ∧ r.length ≤ 4
  · rw [if_pos h]
    simp only [h, and_self, true_and]
    cases hf : f [.ref p, w1, w0] G M with
    | none => simp
    | some u =>
      obtain ⟨v, G2, M2⟩ := u
      constructor
      · intro h
        exact ⟨v, G2, M2, rfl, by cases v <;> exact h⟩
      · rintro ⟨v', G', M', e, h⟩
        cases e
        cases v <;> exact h
  · rw [if_neg h]
    simp [h]
theorem wp_calS2 {w0 w1 : Value} : wp (op_cal 2 f k) L (w0 :: w1 :: r) G M Q ↔ r.length ≤ 4 ∧ wpF f [w1, w0] G M (fun v G2 M2 => wp k L (psh v r) G2 M2 Q) := by
  unfold wp wpF op_cal
  simp only [List.drop, List.take, List.reverse_cons, List.reverse_nil, List.nil_append, List.cons_append, List.length_cons]
  by_cases h : r.length ≤ 4
  · rw [if_pos (by omega)]
    simp only [h, true_and]
    cases hf : f [w1, w0] G M with
    | none => simp
    | some u =>
      obtain ⟨v, G2, M2⟩ := u
      constructor
      · intro h
        exact ⟨v, G2, M2, rfl, by cases v <;> exact h⟩
      · rintro ⟨v', G', M', e, h⟩
        cases e
        cases v <;> exact h
  · rw [if_neg (by omega)]
    simp [h]
theorem wp_calV3 {w0 w1 w2 : Value} : wp (op_calV c 3 f k) L (w0 :: w1 :: w2 :: .ref p :: r) G M Q ↔ (gAt G p c = true ∧ r.length ≤ 4) ∧ wpF f [.ref p, w2, w1, w0] G M (fun v G2 M2 => wp k L (psh v r) G2 M2 Q) := by
  unfold wp wpF op_calV
  simp only [List.drop, List.take, List.reverse_cons, List.reverse_nil, List.nil_append, List.cons_append]
  by_cases h : gAt G p c = true ∧ r.length ≤ 4
  · rw [if_pos h]
    simp only [h, and_self, true_and]
    cases hf : f [.ref p, w2, w1, w0] G M with
    | none => simp
    | some u =>
      obtain ⟨v, G2, M2⟩ := u
      constructor
      · intro h
        exact ⟨v, G2, M2, rfl, by cases v <;> exact h⟩
      · rintro ⟨v', G', M', e, h⟩
        cases e
        cases v <;> exact h
  · rw [if_neg h]
    simp [h]
theorem wp_calS3 {w0 w1 w2 : Value} : wp (op_cal 3 f k) L (w0 :: w1 :: w2 :: r) G M Q ↔ r.length ≤ 4 ∧ wpF f [w2, w1, w0] G M (fun v G2 M2 => wp k L (psh v r) G2 M2 Q) := by
  unfold wp wpF op_cal
  simp only [List.drop, List.take, List.reverse_cons, List.reverse_nil, List.nil_append, List.cons_append, List.length_cons]
  by_cases h : r.length ≤ 4
  · rw [if_pos (by omega)]
    simp only [h, true_and]
    cases hf : f [w2, w1, w0] G M with
    | none => simp
    | some u =>
      obtain ⟨v, G2, M2⟩ := u
      constructor
      · intro h
        exact ⟨v, G2, M2, rfl, by cases v <;> exact h⟩
      · rintro ⟨v', G', M', e, h⟩
        cases e
        cases v <;> exact h
  · rw [if_neg (by omega)]
    simp [h]
theorem wp_calV4 {w0 w1 w2 w3 : Value} : wp (op_calV c 4 f k) L (w0 :: w1 :: w2 :: w3 :: .ref p :: r) G M Q ↔ (gAt G p c = true ∧ r.length ≤ 4) ∧ wpF f [.ref p, w3, w2, w1, w0] G M (fun v G2 M2 => wp k L (psh v r) G2 M2 Q) := by
  unfold wp wpF op_calV
  simp only [List.drop, List.take, List.reverse_cons, List.reverse_nil, List.nil_append, List.cons_append]
  by_cases h : gAt G p c = true ∧ r.length ≤ 4
  · rw [if_pos h]
    simp only [h, and_self, true_and]
    cases hf : f [.ref p, w3, w2, w1, w0] G M with
    | none => simp
    | some u =>
      obtain ⟨v, G2, M2⟩ := u
      constructor
      · intro h
        exact ⟨v, G2, M2, rfl, by cases v <;> exact h⟩
      · rintro ⟨v', G', M', e, h⟩
        cases e
        cases v <;> exact h
  · rw [if_neg h]
    simp [h]
theorem wp_calS4 {w0 w1 w2 w3 : Value} : wp (op_cal 4 f k) L (w0 :: w1 :: w2 :: w3 :: r) G M Q ↔ r.length ≤ 4 ∧ wpF f [w3, w2, w1, w0] G M (fun v G2 M2 => wp k L (psh v r) G2 M2 Q) := by
  unfold wp wpF op_cal
  simp only [List.drop, List.take, List.reverse_cons, List.reverse_nil, List.nil_append, List.cons_append, List.length_cons]
  by_cases h : r.length ≤ 4
  · rw [if_pos (by omega)]
    simp only [h, true_and]
    cases hf : f [w3, w2, w1, w0] G M with
    | none => simp
    | some u =>
      obtain ⟨v, G2, M2⟩ := u
      constructor
      · intro h
        exact ⟨v, G2, M2, rfl, by cases v <;> exact h⟩
      · rintro ⟨v', G', M', e, h⟩
        cases e
        cases v <;> exact h
  · rw [if_neg (by omega)]
    simp [h]
theorem wp_calV5 {w0 w1 w2 w3 w4 : Value} : wp (op_calV c 5 f k) L (w0 :: w1 :: w2 :: w3 :: w4 :: .ref p :: r) G M Q ↔ (gAt G p c = true ∧ r.length ≤ 4) ∧ wpF f [.ref p, w4, w3, w2, w1, w0] G M (fun v G2 M2 => wp k L (psh v r) G2 M2 Q) := by
  unfold wp wpF op_calV
  simp only [List.drop, List.take, List.reverse_cons, List.reverse_nil, List.nil_append, List.cons_append]
  by_cases h : gAt G p c = true ∧ r.length ≤ 4
  · rw [if_pos h]
    simp only [h, and_self, true_and]
    cases hf : f [.ref p, w4, w3, w2, w1, w0] G M with
    | none => simp
    | some u =>
      obtain ⟨v, G2, M2⟩ := u
      constructor
      · intro h
        exact ⟨v, G2, M2, rfl, by cases v <;> exact h⟩
      · rintro ⟨v', G', M', e, h⟩
        cases e
        cases v <;> exact h
  · rw [if_neg h]
    simp [h]
theorem wp_calS5 {w0 w1 w2 w3 w4 : Value} : wp (op_cal 5 f k) L (w0 :: w1 :: w2 :: w3 :: w4 :: r) G M Q ↔ r.length ≤ 4 ∧ wpF f [w4, w3, w2, w1, w0] G M (fun v G2 M2 => wp k L (psh v r) G2 M2 Q) := by
  unfold wp wpF op_cal
  simp only [List.drop, List.take, List.reverse_cons, List.reverse_nil, List.nil_append, List.cons_append, List.length_cons]
  by_cases h : r.length ≤ 4
  · rw [if_pos (by omega)]
    simp only [h, true_and]
    cases hf : f [w4, w3, w2, w1, w0] G M with
    | none => simp
    | some u =>
      obtain ⟨v, G2, M2⟩ := u
      constructor
      · intro h
        exact ⟨v, G2, M2, rfl, by cases v <;> exact h⟩
      · rintro ⟨v', G', M', e, h⟩
        cases e
        cases v <;> exact h
  · rw [if_neg (by omega)]
    simp [h]
theorem wp_acp {n dp sp : Int32} {d : Nat} : wp (op_acp k) L (.int n :: .int dp :: .ref d :: .int sp :: .ref p :: r) G M Q ↔ (gAt G p 100 = true ∧ gAt G d 100 = true ∧ 0 ≤ n ∧ 0 ≤ dp ∧ 0 ≤ sp ∧ sp.toNatClampNeg + n.toNatClampNeg ≤ gL G p ∧ dp.toNatClampNeg + n.toNatClampNeg ≤ gL G d ∧ r.length ≤ 4) ∧ wp k L r G (mcpy M p d sp.toNatClampNeg dp.toNatClampNeg n.toNatClampNeg) Q := by
  unfold wp op_acp
  simp only
  split
  · next h =>
    simp only [Bool.and_eq_true, decide_eq_true_eq, and_assoc] at h
    simp only [h, and_self, true_and]
  · next h =>
    simp only [Bool.and_eq_true, decide_eq_true_eq, and_assoc] at h
    constructor
    · rintro ⟨o, ho, -⟩
      cases ho
    · rintro ⟨h', -⟩
      exact absurd h' h
theorem wp_i2l : wp (op_i2l k) L (.int x :: r) G M Q ↔ wp k L (.long x.toInt64 :: r) G M Q := Iff.rfl
theorem wp_l2i {x : Int64} : wp (op_l2i k) L (.long x :: r) G M Q ↔ wp k L (.int x.toInt32 :: r) G M Q := Iff.rfl
theorem wp_lcon {x : Int64} : wp (op_lcon x k) L st G M Q ↔ wp k L (.long x :: st) G M Q := Iff.rfl
theorem wp_lbin {f : Int64 → Int64 → Int64} {x y : Int64} : wp (op_lbin f k) L (.long y :: .long x :: r) G M Q ↔ wp k L (.long (f x y) :: r) G M Q := Iff.rfl
theorem wp_ldiv {f : Int64 → Int64 → Int64} {x y : Int64} : wp (op_ldiv f k) L (.long y :: .long x :: r) G M Q ↔ ¬ y = 0 ∧ wp k L (.long (f x y) :: r) G M Q := by by_cases h : y = 0 <;> simp [wp, op_ldiv, h]
theorem psh_s : psh (some w) r = w :: r := rfl
theorem psh_n : psh none r = r := rfl
end WPS
