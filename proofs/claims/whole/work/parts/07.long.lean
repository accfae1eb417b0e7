/-! ===== the machine follows the operations, 5: longs, switches ===== -/
def op_i2l (k : vD) : vD := fun L st G M => match st with
  | .int x :: r => k L (.long x.toInt64 :: r) G M
  | _ => none
def op_l2i (k : vD) : vD := fun L st G M => match st with
  | .long x :: r => k L (.int x.toInt32 :: r) G M
  | _ => none
def op_lcon (x : Int64) (k : vD) : vD := fun L st G M => k L (.long x :: st) G M
def op_lbin (f : Int64 → Int64 → Int64) (k : vD) : vD := fun L st G M => match st with
  | .long y :: .long x :: r => k L (.long (f x y) :: r) G M
  | _ => none
def op_ldiv (f : Int64 → Int64 → Int64) (k : vD) : vD := fun L st G M => match st with
  | .long y :: .long x :: r => if y = 0 then none else k L (.long (f x y) :: r) G M
  | _ => none
def op_lld (i : Nat) (k : vD) : vD := fun L st G M => match L.getD i none with
  | some (.long x) => k L (.long x :: st) G M
  | _ => none
def op_lst (i : Nat) (k : vD) : vD := fun L st G M => match st with
  | .long x :: r => if lgb L i then none else k ((L.set i (some (.long x))).set (i + 1) none) r G M
  | _ => none
def op_tsw (ks : List vD) (kd : vD) : vD := fun L st G M => match st with
  | .int x :: r => if 0 ≤ x.toInt ∧ x.toInt < ks.length then (ks.getD x.toInt.toNat (fun _ _ _ _ => none)) L r G M else kd L r G M
  | _ => none
section SND5
variable {p : Program} {l : Launch} {e : Env} {s : State} {m : MethodId} {args : Array Value} {below : List Frame} {meth : Method} {c : Code} {D : va_G} {cx : Nat → ClassId} {ad : Nat → Nat} {A : Nat → Prop}
variable {y : MethodName} {cc : ByteArray} {nL : Nat} {ret : Option FieldType} {lev mc ms : Nat} {g0 : vG} {pc pc' pt : Nat} {k kt kf : vD}
theorem s_i2l (hd : decode cc pc = .ok (.i2l, 1)) (hp : pc + 1 = pc') (hk : Snd y cc nL ret lev mc ms g0 pc' k) : Snd y cc nL ret lev mc ms g0 pc (op_i2l k) := by
  subst hp
  intro p l e s m args below meth c D cx ad A F H locs ls L st G M hI hL out ho
  obtain ⟨hx, hb, -⟩ := id F
  unfold op_i2l at ho
  split at ho
  · exact Rs.go (G2 := G) hk F ho (fun Q kk => lv_i2l hx hb hd rfl (kk H locs ls hI hL))
  · cases ho
theorem s_l2i (hd : decode cc pc = .ok (.l2i, 1)) (hp : pc + 1 = pc') (hk : Snd y cc nL ret lev mc ms g0 pc' k) : Snd y cc nL ret lev mc ms g0 pc (op_l2i k) := by
  subst hp
  intro p l e s m args below meth c D cx ad A F H locs ls L st G M hI hL out ho
  obtain ⟨hx, hb, -⟩ := id F
  unfold op_l2i at ho
  split at ho
  · exact Rs.go (G2 := G) hk F ho (fun Q kk => lv_l2i hx hb hd rfl (kk H locs ls hI hL))
  · cases ho
theorem s_lcon {n : Nat} {x : Int64} (hd : decode cc pc = .ok (.ldc2_w n, 3)) (hw : Cond.constantLong y.cls n x ∈ lw_good) (hp : pc + 3 = pc') (hk : Snd y cc nL ret lev mc ms g0 pc' k) : Snd y cc nL ret lev mc ms g0 pc (op_lcon x k) := by
  subst hp
  intro p l e s m args below meth c D cx ad A F H locs ls L st G M hI hL out ho
  obtain ⟨hx, hb, -, hown, hts, -⟩ := id F
  exact Rs.go (G2 := G) hk F ho (fun Q kk => lv_ldc2 hx hb hown (hts _ hw) hd (kk H locs ls hI hL))
def f_lmul : Int64 → Int64 → Int64 := fun x y => x * y
def f_ladd : Int64 → Int64 → Int64 := fun x y => x + y
def f_lrem : Int64 → Int64 → Int64 := fun x y => x - x / y * y
theorem s_lmul (hd : decode cc pc = .ok (.lmul, 1)) (hp : pc + 1 = pc') (hk : Snd y cc nL ret lev mc ms g0 pc' k) : Snd y cc nL ret lev mc ms g0 pc (op_lbin f_lmul k) := by
  subst hp
  intro p l e s m args below meth c D cx ad A F H locs ls L st G M hI hL out ho
  obtain ⟨hx, hb, -⟩ := id F
  unfold op_lbin at ho
  split at ho
  · exact Rs.go (G2 := G) hk F ho (fun Q kk => lv_lmul hx hb hd (kk H locs ls hI hL))
  · cases ho
theorem s_ladd (hd : decode cc pc = .ok (.ladd, 1)) (hp : pc + 1 = pc') (hk : Snd y cc nL ret lev mc ms g0 pc' k) : Snd y cc nL ret lev mc ms g0 pc (op_lbin f_ladd k) := by
  subst hp
  intro p l e s m args below meth c D cx ad A F H locs ls L st G M hI hL out ho
  obtain ⟨hx, hb, -⟩ := id F
  unfold op_lbin at ho
  split at ho
  · exact Rs.go (G2 := G) hk F ho (fun Q kk => lv_ladd hx hb hd (kk H locs ls hI hL))
  · cases ho
theorem s_lrem (hd : decode cc pc = .ok (.lrem, 1)) (hp : pc + 1 = pc') (hk : Snd y cc nL ret lev mc ms g0 pc' k) : Snd y cc nL ret lev mc ms g0 pc (op_ldiv f_lrem k) := by
  subst hp
  intro p l e s m args below meth c D cx ad A F H locs ls L st G M hI hL out ho
  obtain ⟨hx, hb, -⟩ := id F
  unfold op_ldiv at ho
  split at ho
  · split at ho
    · cases ho
    · next hne => exact Rs.go (G2 := G) hk F ho (fun Q kk => lv_lrem hx hb hd hne (kk H locs ls hI hL))
  · cases ho
theorem s_lldn {i : Nat} {j : Fin 4} (hd : decode cc pc = .ok (.lload_n j, 1)) (hi : (j : Nat) = i) (hp : pc + 1 = pc') (hk : Snd y cc nL ret lev mc ms g0 pc' k) : Snd y cc nL ret lev mc ms g0 pc (op_lld i k) := by
  subst hp
  intro p l e s m args below meth c D cx ad A F H locs ls L st G M hI hL out ho
  obtain ⟨hx, hb, -⟩ := id F
  unfold op_lld at ho
  split at ho
  · next x hg => exact Rs.go (G2 := G) hk F ho (fun Q kk => lv_lload_n hx hb hd hi (lR_at hL hg) (kk H locs ls hI hL))
  · cases ho
theorem lR_set2 {L : vL} {ls : Array Slot} {i : Nat} {v : Value} (hg : lgb L i = false) (h : lv_has ls nL ((i, cvA ad v) :: (prs ad L).filter (fun q => !(q.1 == i) && (!(q.1 == i + 1) && !(q.1 + 1 == i && q.2.category == 2))))) : lR ad ((L.set i (some v)).set (i + 1) none) ls nL := by
  refine ⟨h.1, h.2.1, fun j w hj => ?_⟩
  by_cases hj1 : j = i + 1
  · subst hj1
    have hl : i + 1 < (L.set i (some v)).length := by
      have := (List.getElem?_eq_some_iff.mp hj).1
      simpa using this
    rw [List.getElem?_set_self hl] at hj
    cases hj
  rw [List.getElem?_set_ne (fun q => hj1 q.symm)] at hj
  by_cases hji : j = i
  · subst hji
    have hl : j < L.length := by
      have := (List.getElem?_eq_some_iff.mp hj).1
      simpa using this
    rw [List.getElem?_set_self hl] at hj
    cases hj
    exact h.2.2 (j, cvA ad v) List.mem_cons_self
  · rw [List.getElem?_set_ne (fun q => hji q.symm)] at hj
    refine h.2.2 (j, cvA ad w) (List.mem_cons_of_mem _ (List.mem_filter.mpr ⟨prs_in hj, ?_⟩))
    have hb : (j + 1 == i && (cvA ad w).category == 2) = false := by
      by_cases hj1 : j + 1 = i
      · subst hj1
        have : lgb L (j + 1) = (w.category == 2) := by
          show (match L.getD j none with
            | some v => v.category == 2
            | none => false) = _
          rw [List.getD_eq_getElem?_getD, hj]
          rfl
        rw [this] at hg
        rw [cvA_cat, hg]
        simp
      · simp [hj1]
    simp [hji, hj1, hb]
theorem s_lstn {i : Nat} {j : Fin 4} (hd : decode cc pc = .ok (.lstore_n j, 1)) (hi : (j : Nat) = i) (hn : i + 1 < nL) (hp : pc + 1 = pc') (hk : Snd y cc nL ret lev mc ms g0 pc' k) : Snd y cc nL ret lev mc ms g0 pc (op_lst i k) := by
  subst hp
  intro p l e s m args below meth c D cx ad A F H locs ls L st G M hI hL out ho
  obtain ⟨hx, hb, -⟩ := id F
  unfold op_lst at ho
  split at ho
  · next x r =>
    split at ho
    · cases ho
    · next hg => exact Rs.go (G2 := G) hk F ho (fun Q kk => lv_lstore_n hx hb hd hi (lR_has hL) hn rfl (fun ls' h' => kk H locs ls' hI (lR_set2 (v := .long x) (by simpa using hg) h')))
  · cases ho
def SndL (y : MethodName) (cc : ByteArray) (nL : Nat) (ret : Option FieldType) (lev mc ms : Nat) (g0 : vG) : List Nat → List vD → Prop
  | t :: ts, k :: ks => Snd y cc nL ret lev mc ms g0 t k ∧ SndL y cc nL ret lev mc ms g0 ts ks
  | [], [] => True
  | _, _ => False
theorem SndL_at : ∀ {ts : List Nat} {ks : List vD}, SndL y cc nL ret lev mc ms g0 ts ks → ts.length = ks.length ∧ ∀ j, j < ks.length → Snd y cc nL ret lev mc ms g0 (ts.getD j 0) (ks.getD j (fun _ _ _ _ => none))
  | [], [], _ => ⟨rfl, fun j hj => absurd hj (Nat.not_lt_zero j)⟩
  | t :: ts, k :: ks, h => by
    obtain ⟨h1, h2⟩ := SndL_at h.2
    refine ⟨by simp [h1], fun j hj => ?_⟩
    cases j with
    | zero => exact h.1
    | succ j => exact h2 j (by simpa using hj)
  | t :: ts, [], h => h.elim
  | [], k :: ks, h => h.elim
theorem s_tsw {ks : List vD} {kd : vD} {ts : List Nat} {dflt hi : Int} {offs : Array Int} {len td : Nat} (hd : decode cc pc = .ok (.tableswitch dflt 0 hi offs, len)) (hh : hi + 1 = ts.length) (ho : ∀ j, j < ts.length → offs[j]? = some ((ts.getD j 0 : Nat) - (pc : Int))) (htd : (pc : Int) + dflt = (td : Int)) (hks : SndL y cc nL ret lev mc ms g0 ts ks) (hkd : Snd y cc nL ret lev mc ms g0 td kd) : Snd y cc nL ret lev mc ms g0 pc (op_tsw ks kd) := by
  intro p l e s m args below meth c D cx ad A F H locs ls L st G M hI hL out hot
  obtain ⟨hx, hb, -⟩ := id F
  obtain ⟨hlen, hat⟩ := SndL_at hks
  unfold op_tsw at hot
  split at hot
  · next x r =>
    split at hot
    · next hc =>
      have hj : x.toInt.toNat < ks.length := by omega
      exact Rs.go (G2 := G) (hat _ hj) F hot (fun Q kk => lv_tableIn hx hb hd (by omega) (by omega) (by rw [Int.sub_zero]; exact ho _ (by omega)) (by omega) (kk H locs ls hI hL))
    · next hc =>
      exact Rs.go (G2 := G) hkd F hot (fun Q kk => lv_tableOut hx hb hd (by omega) htd (kk H locs ls hI hL))
  · cases hot
end SND5
