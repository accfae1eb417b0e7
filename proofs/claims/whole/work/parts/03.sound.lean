/-! ===== the machine follows the operations ===== -/
section SND
variable {p : Program} {l : Launch} {e : Env} {s : State} {m : MethodId} {args : Array Value} {below : List Frame} {meth : Method} {c : Code} {D : va_G} {cx : Nat → ClassId} {ad : Nat → Nat} {A : Nat → Prop}
variable {y : MethodName} {cc : ByteArray} {nL : Nat} {ret : Option FieldType} {lev mc ms : Nat} {g0 : vG} {pc pc' : Nat} {k : vD}
theorem Rs.go (hk : Snd y cc nL ret lev mc ms g0 pc' k) (F : Fx p s m args meth c D cx ad A y cc nL ret) {H : Heap} {locs : List Loc} {G : vG} {L2 : vL} {st2 : List Value} {G2 : vG} {M2 : vM} {out : vJ ⊕ vR} (ho : k L2 st2 G2 M2 = some out) {g : JFrame}
    (hW : ∀ Q : State → Prop, (∀ (H2 : Heap) (locs2 : List Loc) (ls2 : Array Slot), Iv D cx ad A mc ms g0 s H2 locs2 G2 M2 → lR ad L2 ls2 nL → W p l e (rmL lev mc ms) s m args below meth c H2 locs2 (G2.1 - g0.1) (G2.2.1 - g0.2.1) Q (F0 m pc' ls2 (st2.map (cvA ad)))) → W p l e (rmL lev mc ms) s m args below meth c H locs (G.1 - g0.1) (G.2.1 - g0.2.1) Q g) :
    Rs p l e s m args below meth c D cx ad A nL lev mc ms g0 H locs G g out := by
  match out, ho with
  | .inl (pc2, L', st', G', M'), ho => exact fun Q hQ => hW Q (fun H2 locs2 ls2 hI2 hL2 => hk p l e s m args below meth c D cx ad A F H2 locs2 ls2 L2 st2 G2 M2 hI2 hL2 _ ho Q hQ)
  | .inr (v, G', M'), ho => exact hW _ (fun H2 locs2 ls2 hI2 hL2 => hk p l e s m args below meth c D cx ad A F H2 locs2 ls2 L2 st2 G2 M2 hI2 hL2 _ ho)
theorem cvA_cat (v : Value) : (cvA ad v).category = v.category := by cases v <;> rfl
theorem lR_at {L : vL} {ls : Array Slot} {i : Nat} {v : Value} (h : lR ad L ls nL) (hi : L.getD i none = some v) : ls[i]? = some (.val (cvA ad v)) := by
  refine h.2.2 i v ?_
  rw [List.getD_eq_getElem?_getD] at hi
  cases hL : L[i]? with
  | none => rw [hL] at hi; cases hi
  | some w => rw [hL] at hi; exact congrArg some hi
def prs (ad : Nat → Nat) (L : vL) : List (Nat × Value) := (List.range L.length).filterMap (fun i => (L.getD i none).map (fun v => (i, cvA ad v)))
theorem lR_has {L : vL} {ls : Array Slot} (h : lR ad L ls nL) : lv_has ls nL (prs ad L) := by
  refine ⟨h.1, h.2.1, fun q hq => ?_⟩
  obtain ⟨i, -, hi⟩ := List.mem_filterMap.mp hq
  cases hv : L.getD i none with
  | none => rw [hv] at hi; cases hi
  | some v =>
    rw [hv] at hi
    cases hi
    exact lR_at h hv
theorem prs_in {L : vL} {j : Nat} {v : Value} (h : L[j]? = some (some v)) : (j, cvA ad v) ∈ prs ad L := by
  refine List.mem_filterMap.mpr ⟨j, List.mem_range.mpr (List.getElem?_eq_some_iff.mp h).1, ?_⟩
  rw [List.getD_eq_getElem?_getD, h]
  rfl
theorem lR_set1 {L : vL} {ls : Array Slot} {i : Nat} {v : Value} (hg : lgb L i = false) (h : lv_has ls nL ((i, cvA ad v) :: (prs ad L).filter (fun q => !(q.1 == i) && !(q.1 + 1 == i && q.2.category == 2)))) : lR ad (L.set i (some v)) ls nL := by
  refine ⟨h.1, h.2.1, fun j w hj => ?_⟩
  by_cases hji : j = i
  · subst hji
    have hl : j < L.length := by
      have := (List.getElem?_eq_some_iff.mp hj).1
      simpa using this
    rw [List.getElem?_set_self hl] at hj
    cases hj
    exact h.2.2 (j, cvA ad v) List.mem_cons_self
  · rw [List.getElem?_set_ne (fun q => hji q.symm)] at hj
    refine h.2.2 (j, cvA ad w) (List.mem_cons_of_mem _ (List.mem_filter.mpr ⟨prs_in hj, ?_⟩))
    have hb : (j + 1 == i && (cvA ad w).category == 2) = false := by
      by_cases hj1 : j + 1 = i
      · subst hj1
        have : lgb L (j + 1) = (w.category == 2) := by
          show (match L.getD j none with
            | some v => v.category == 2
            | none => false) = _
          rw [List.getD_eq_getElem?_getD, hj]
          rfl
        rw [this] at hg
        rw [cvA_cat, hg]
        simp
      · simp [hj1]
    simp [hji, hb]
theorem s_con {n : Int} {x : Int32} (hd : decode cc pc = .ok (.iconst n, 1)) (hv : Int32.ofInt n = x) (hp : pc + 1 = pc') (hk : Snd y cc nL ret lev mc ms g0 pc' k) : Snd y cc nL ret lev mc ms g0 pc (op_con x k) := by
  subst hp
  intro p l e s m args below meth c D cx ad A F H locs ls L st G M hI hL out ho
  obtain ⟨hx, hb, -⟩ := id F
  exact Rs.go (G2 := G) hk F ho (fun Q kk => lv_iconst hx hb hd hv (kk H locs ls hI hL))
theorem s_bip {n : Int} {x : Int32} (hd : decode cc pc = .ok (.bipush n, 2)) (hv : (Int8.ofInt n).toInt32 = x) (hp : pc + 2 = pc') (hk : Snd y cc nL ret lev mc ms g0 pc' k) : Snd y cc nL ret lev mc ms g0 pc (op_con x k) := by
  subst hp
  intro p l e s m args below meth c D cx ad A F H locs ls L st G M hI hL out ho
  obtain ⟨hx, hb, -⟩ := id F
  exact Rs.go (G2 := G) hk F ho (fun Q kk => lv_bipush hx hb hd hv (kk H locs ls hI hL))
theorem s_sip {n : Int} {x : Int32} (hd : decode cc pc = .ok (.sipush n, 3)) (hv : (Int16.ofInt n).toInt32 = x) (hp : pc + 3 = pc') (hk : Snd y cc nL ret lev mc ms g0 pc' k) : Snd y cc nL ret lev mc ms g0 pc (op_con x k) := by
  subst hp
  intro p l e s m args below meth c D cx ad A F H locs ls L st G M hI hL out ho
  obtain ⟨hx, hb, -⟩ := id F
  exact Rs.go (G2 := G) hk F ho (fun Q kk => lv_sipush hx hb hd hv (kk H locs ls hI hL))
theorem s_ldc {n : Nat} {x : Int32} (hd : decode cc pc = .ok (.ldc n, 2)) (hw : Cond.constant y.cls n x ∈ lw_good) (hp : pc + 2 = pc') (hk : Snd y cc nL ret lev mc ms g0 pc' k) : Snd y cc nL ret lev mc ms g0 pc (op_con x k) := by
  subst hp
  intro p l e s m args below meth c D cx ad A F H locs ls L st G M hI hL out ho
  obtain ⟨hx, hb, -, hown, hts, -⟩ := id F
  exact Rs.go (G2 := G) hk F ho (fun Q kk => lv_ldc hx hb hown (hts _ hw) hd (kk H locs ls hI hL))
theorem s_ldw {n : Nat} {x : Int32} (hd : decode cc pc = .ok (.ldc_w n, 3)) (hw : Cond.constant y.cls n x ∈ lw_good) (hp : pc + 3 = pc') (hk : Snd y cc nL ret lev mc ms g0 pc' k) : Snd y cc nL ret lev mc ms g0 pc (op_con x k) := by
  subst hp
  intro p l e s m args below meth c D cx ad A F H locs ls L st G M hI hL out ho
  obtain ⟨hx, hb, -, hown, hts, -⟩ := id F
  exact Rs.go (G2 := G) hk F ho (fun Q kk => lv_ldcw hx hb hown (hts _ hw) hd (kk H locs ls hI hL))
theorem s_ildn {i : Nat} {j : Fin 4} (hd : decode cc pc = .ok (.iload_n j, 1)) (hi : (j : Nat) = i) (hp : pc + 1 = pc') (hk : Snd y cc nL ret lev mc ms g0 pc' k) : Snd y cc nL ret lev mc ms g0 pc (op_ild i k) := by
  subst hp
  intro p l e s m args below meth c D cx ad A F H locs ls L st G M hI hL out ho
  obtain ⟨hx, hb, -⟩ := id F
  unfold op_ild at ho
  split at ho
  · next x hg => exact Rs.go (G2 := G) hk F ho (fun Q kk => lv_iload_n hx hb hd hi (lR_at hL hg) (kk H locs ls hI hL))
  · cases ho
theorem s_ild {i : Nat} (hd : decode cc pc = .ok (.iload i, 2)) (hp : pc + 2 = pc') (hk : Snd y cc nL ret lev mc ms g0 pc' k) : Snd y cc nL ret lev mc ms g0 pc (op_ild i k) := by
  subst hp
  intro p l e s m args below meth c D cx ad A F H locs ls L st G M hI hL out ho
  obtain ⟨hx, hb, -⟩ := id F
  unfold op_ild at ho
  split at ho
  · next x hg => exact Rs.go (G2 := G) hk F ho (fun Q kk => lv_iload hx hb hd (lR_at hL hg) (kk H locs ls hI hL))
  · cases ho
theorem s_aldn {i : Nat} {j : Fin 4} (hd : decode cc pc = .ok (.aload_n j, 1)) (hi : (j : Nat) = i) (hp : pc + 1 = pc') (hk : Snd y cc nL ret lev mc ms g0 pc' k) : Snd y cc nL ret lev mc ms g0 pc (op_ald i k) := by
  subst hp
  intro p l e s m args below meth c D cx ad A F H locs ls L st G M hI hL out ho
  obtain ⟨hx, hb, -⟩ := id F
  unfold op_ald at ho
  split at ho
  · next x hg => exact Rs.go (G2 := G) hk F ho (fun Q kk => lv_aload_n hx hb hd hi (lR_at hL hg) (kk H locs ls hI hL))
  · cases ho
theorem s_ald {i : Nat} (hd : decode cc pc = .ok (.aload i, 2)) (hp : pc + 2 = pc') (hk : Snd y cc nL ret lev mc ms g0 pc' k) : Snd y cc nL ret lev mc ms g0 pc (op_ald i k) := by
  subst hp
  intro p l e s m args below meth c D cx ad A F H locs ls L st G M hI hL out ho
  obtain ⟨hx, hb, -⟩ := id F
  unfold op_ald at ho
  split at ho
  · next x hg => exact Rs.go (G2 := G) hk F ho (fun Q kk => lv_aload hx hb hd (lR_at hL hg) (kk H locs ls hI hL))
  · cases ho
theorem s_istn {i : Nat} {j : Fin 4} (hd : decode cc pc = .ok (.istore_n j, 1)) (hi : (j : Nat) = i) (hn : i < nL) (hp : pc + 1 = pc') (hk : Snd y cc nL ret lev mc ms g0 pc' k) : Snd y cc nL ret lev mc ms g0 pc (op_ist i k) := by
  subst hp
  intro p l e s m args below meth c D cx ad A F H locs ls L st G M hI hL out ho
  obtain ⟨hx, hb, -⟩ := id F
  unfold op_ist at ho
  split at ho
  · next x r =>
    split at ho
    · cases ho
    · next hg => exact Rs.go (G2 := G) hk F ho (fun Q kk => lv_istore_n hx hb hd hi (lR_has hL) hn rfl (fun ls' h' => kk H locs ls' hI (lR_set1 (v := .int x) (by simpa using hg) h')))
  · cases ho
theorem s_ist {i : Nat} (hd : decode cc pc = .ok (.istore i, 2)) (hn : i < nL) (hp : pc + 2 = pc') (hk : Snd y cc nL ret lev mc ms g0 pc' k) : Snd y cc nL ret lev mc ms g0 pc (op_ist i k) := by
  subst hp
  intro p l e s m args below meth c D cx ad A F H locs ls L st G M hI hL out ho
  obtain ⟨hx, hb, -⟩ := id F
  unfold op_ist at ho
  split at ho
  · next x r =>
    split at ho
    · cases ho
    · next hg => exact Rs.go (G2 := G) hk F ho (fun Q kk => lv_istore hx hb hd (lR_has hL) hn rfl (fun ls' h' => kk H locs ls' hI (lR_set1 (v := .int x) (by simpa using hg) h')))
  · cases ho
end SND
