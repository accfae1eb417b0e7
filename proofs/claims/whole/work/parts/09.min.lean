/-! ===== Math.min ===== -/
def op_min (k : vD) : vD := fun L st G M => match st with
  | .int y :: .int x :: r => if r.length ≤ 4 then k L (.int (if y < x then y else x) :: r) G M else none
  | _ => none
theorem s_min {y : MethodName} {cc : ByteArray} {nL : Nat} {ret : Option FieldType} {lev mc ms : Nat} {g0 : vG} {pc pc' : Nat} {k : vD} {index : Nat} (hw : Cond.methodLink y.cls index Lib.Math.min.name ∈ lw_good) (hw2 : Cond.static Lib.Math.min.name ∈ lw_good ∧ Cond.initialized "java/lang/Math" ∈ lw_good ∧ Cond.code Lib.Math.min.name Lib.Math.min.code 2 (some .int) ∈ lw_good) (hlv : 1 ≤ lev) (hd : decode cc pc = .ok (.invokestatic index, 3)) (hp : pc + 3 = pc') (hk : Snd y cc nL ret lev mc ms g0 pc' k) : Snd y cc nL ret lev mc ms g0 pc (op_min k) := by
  subst hp
  intro p l e s m args below meth c D cx ad A F H locs ls L st G M hI hL out ho
  obtain ⟨hx, hb, hml, hown, hts, -⟩ := id F
  unfold op_min at ho
  split at ho
  · next b a r =>
    split at ho
    · next hr =>
      refine Rs.go (G2 := G) hk F ho (fun Q kk => va_mmin (rest := r.map (cvA ad)) hx hb (hml.trans hL.1.symm) hown (hts _ hw) (hts _ hw2.1) (hts _ hw2.2.1) (hts _ hw2.2.2) hlv ?_ ?_ ?_ hd (kk H locs ls hI hL))
      · have h1 := cat_sum (ad := ad) r
        show _ ≤ 36 * lev
        omega
      · have := hI.2.2.2.1
        show _ ≤ mc
        omega
      · have := hI.2.2.2.1
        show _ ≤ ms
        omega
    · cases ho
  · cases ho
