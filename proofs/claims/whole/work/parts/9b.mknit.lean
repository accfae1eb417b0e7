-- the reference: knit
theorem lay_next {S : vS} {lk : Nat → Nat} {gl i : Nat} {pr : Nat → Option Nat} : setSt (setSt S (rwLay (stS S) lk gl pr i)) (rwRest (stS (setSt S (rwLay (stS S) lk gl pr i))) i (pr i) (lk i) (plk lk gl pr i)) = setSt S (rwLay (stS S) lk gl pr (i + 1)) := by
  show (S.1, S.2.1, _, S.2.2.2) = (S.1, S.2.1, _, S.2.2.2)
  congr 3
  show ((stS S).1, _, _) = ((stS S).1, _, _)
  congr 2
  · funext s
    show (if s = i then pr i else if s < i then pr s else (stS S).2.1 s) = if s < i + 1 then pr s else (stS S).2.1 s
    by_cases e : s = i
    · subst e; simp
    · by_cases e2 : s < i
      · simp [e, e2, show s < i + 1 by omega]
      · simp [e, e2, show ¬ s < i + 1 by omega]
  · funext s k
    show (if s = i then rsO (lk i) (plk lk gl pr i) k else if s < i then rsO (lk s) (plk lk gl pr s) k else (stS S).2.2 s k) = if s < i + 1 then rsO (lk s) (plk lk gl pr s) k else (stS S).2.2 s k
    by_cases e : s = i
    · subst e; simp
    · by_cases e2 : s < i
      · simp [e, e2, show s < i + 1 by omega]
      · simp [e, e2, show ¬ s < i + 1 by omega]
