/-! ===== the machine follows the operations, 3: fields, arrays, statics, calls ===== -/
section SND3
variable {p : Program} {l : Launch} {e : Env} {s : State} {m : MethodId} {args : Array Value} {below : List Frame} {meth : Method} {c : Code} {D : va_G} {cx : Nat → ClassId} {ad : Nat → Nat} {A : Nat → Prop}
variable {y : MethodName} {cc : ByteArray} {nL : Nat} {ret : Option FieldType} {lev mc ms : Nat} {g0 : vG} {pc pc' pt : Nat} {k kt kf : vD}
theorem gAt_ok {G : vG} {a c : Nat} (h : gAt G a c = true) : a < G.1 ∧ gC G a = c := by
  simpa [gAt] using h
theorem inB_ok {i : Int32} {n : Nat} (h : inB i n = true) : vp_in i n ∧ i.toNatClampNeg < n := by
  simp only [inB, Bool.and_eq_true, decide_eq_true_eq] at h
  refine ⟨fun q => ?_, h.2⟩
  rcases q with q | q
  · exact absurd q (Int32.not_lt.mpr h.1)
  · omega
/-- the heap's size by the machine's own count -/
theorem W_sz {R : Room} {H : Heap} {locs : List Loc} {cells slots : Nat} {Q : State → Prop} {g : JFrame} (h : H.size ≤ s.heap.size + cells → W p l e R s m args below meth c H locs cells slots Q g) : W p l e R s m args below meth c H locs cells slots Q g :=
  fun T hT X => h (by rw [← hT]; exact X.heapSize) T hT X
theorem va_S.via {H0 H H1 : Heap} {locs locs1 : List Loc} (h : va_S A H0 H locs) (h1 : va_S A H H1 locs1) : va_S A H0 H1 locs1 :=
  ⟨Nat.le_trans h.1 h1.1, fun q a b => by rw [h1.2.1 q (Nat.lt_of_lt_of_le a h.1) b]; exact h.2.1 q a b, h1.2.2⟩
theorem va_S.me {H0 H : Heap} {locs : List Loc} (h : va_S A H0 H locs) : va_S A H H locs := ⟨Nat.le_refl _, fun _ _ _ => rfl, h.2.2⟩
theorem Iv.upd {H H1 : Heap} {locs locs1 : List Loc} {G : vG} {M M1 : vM} (h : Iv D cx ad A mc ms g0 s H locs G M) (hP : va_P D vwCl (wW cx ad G M1) H1) (hD : va_D A (wW cx ad G M1)) (hS : va_S A H H1 locs1) (hz : H1.size ≤ s.heap.size + (G.1 - g0.1)) : Iv D cx ad A mc ms g0 s H1 locs1 G M1 := by
  obtain ⟨-, -, hS0, ⟨h1, h2, h3, h4, h5⟩, h6, h7⟩ := h
  have hs : H1.size = H.size := by have := hS.1; omega
  exact ⟨hP, hD, hS0.via hS, ⟨h1, by rw [hs]; exact h2, h3, h4, h5⟩, h6, fun h j hj => by rw [hs]; exact h7 h j hj⟩
theorem s_gfi {C : String} {T : u_T} {N ci j index : Nat} (hc : vwCl[ci]? = some (C, T, N)) (hin : ∀ w ∈ u_ws C T N, w ∈ lw_good) (hj : j < N) (hci : ci < 100) (hjn : j < nF ci) (hrf : rF ci j = false) (hw : Cond.fieldLink y.cls index (T j).1 (T j).2.1 (T j).2.2.1 ∈ lw_good) (hd : decode cc pc = .ok (.getfield index, 3)) (hp : pc + 3 = pc') (hk : Snd y cc nL ret lev mc ms g0 pc' k) : Snd y cc nL ret lev mc ms g0 pc (op_gfi ci j k) := by
  subst hp
  intro p l e s m args below meth c D cx ad A F H locs ls L st G M hI hL out ho
  obtain ⟨hx, hb, -, hown, hts, -, -, -, hK, -⟩ := id F
  unfold op_gfi at ho
  split at ho
  · next a r =>
    split at ho
    · next hg =>
      obtain ⟨ha, hC⟩ := gAt_ok hg
      refine Rs.go (G2 := G) hk F ho (fun Q kk => va_get (v := .int (M a j)) hx hb hts hin hown hK hI.1 a (by rw [wW_at ha, wE_o hC hci]) hc j hj (hts _ hw) (fun x h => h) ?_ hd (kk H locs ls hI hL))
      rw [fO_at hjn, hrf]
      rfl
    · cases ho
  · cases ho
theorem s_gfr {C : String} {T : u_T} {N ci j index : Nat} (hc : vwCl[ci]? = some (C, T, N)) (hin : ∀ w ∈ u_ws C T N, w ∈ lw_good) (hj : j < N) (hci : ci < 100) (hjn : j < nF ci) (hrf : rF ci j = true) (hw : Cond.fieldLink y.cls index (T j).1 (T j).2.1 (T j).2.2.1 ∈ lw_good) (hd : decode cc pc = .ok (.getfield index, 3)) (hp : pc + 3 = pc') (hk : Snd y cc nL ret lev mc ms g0 pc' k) : Snd y cc nL ret lev mc ms g0 pc (op_gfr ci j k) := by
  subst hp
  intro p l e s m args below meth c D cx ad A F H locs ls L st G M hI hL out ho
  obtain ⟨hx, hb, -, hown, hts, -, -, -, hK, -⟩ := id F
  unfold op_gfr at ho
  split at ho
  · next a r =>
    split at ho
    · next hg =>
      obtain ⟨ha, hC⟩ := gAt_ok hg
      split at ho
      · next b hR =>
        refine Rs.go (G2 := G) hk F ho (fun Q kk => va_get (v := .ref (ad b)) hx hb hts hin hown hK hI.1 a (by rw [wW_at ha, wE_o hC hci]) hc j hj (hts _ hw) (fun x h => h) ?_ hd (kk H locs ls hI hL))
        rw [fO_at hjn, hrf, hR]
        rfl
      · cases ho
    · cases ho
  · cases ho
theorem s_pfi {C : String} {T : u_T} {N ci j index : Nat} (hc : vwCl[ci]? = some (C, T, N)) (hin : ∀ w ∈ u_ws C T N, w ∈ lw_good) (ty0 : Nat → FieldType) (hty : ∀ k, k < N → parseFieldDescriptor (T k).2.2.1 = some (ty0 k)) (hnm : ∀ a, a < N → ∀ b, b < N → a ≠ b → (T a).2.1 ≠ (T b).2.1) (hj : j < N) (hci : ci < 100) (hjn : j < nF ci) (hrf : rF ci j = false) (hfin : (T j).2.2.2 = false) (hti : ty0 j = .int) (hw : Cond.fieldLink y.cls index (T j).1 (T j).2.1 (T j).2.2.1 ∈ lw_good) (hd : decode cc pc = .ok (.putfield index, 3)) (hp : pc + 3 = pc') (hk : Snd y cc nL ret lev mc ms g0 pc' k) : Snd y cc nL ret lev mc ms g0 pc (op_pfi ci j k) := by
  subst hp
  intro p l e s m args below meth c D cx ad A F H locs ls L st G M hI hL out ho
  obtain ⟨hx, hb, -, hown, hts, -, -, -, hK, -⟩ := id F
  unfold op_pfi at ho
  split at ho
  · next x a r =>
    split at ho
    · next hg =>
      obtain ⟨ha, hC⟩ := gAt_ok hg
      refine Rs.go (G2 := G) hk F ho (fun Q kk => va_put (v := .int x) hx hb hts hin ty0 hty hnm hown hK hI.1 hI.2.1 hI.2.2.1.me a (by rw [wW_at ha, wE_o hC hci]) hc j hj (hts _ hw) (fun x h => h) hfin ((hty j hj).trans (congrArg some hti)) rfl rfl (by rw [fO_len]; exact hjn) hd (fun H1 locs1 hP1 hD1 hS1 => W_sz fun hz => ?_))
      rw [wW_set (g' := G) (M' := mset M a j x) rfl (by rw [wE_o hC hci, fO_set hjn hrf]) (fun b hb => wE_M (mset_ne hb))] at hP1 hD1
      exact kk H1 locs1 ls (hI.upd hP1 hD1 hS1 hz) hL
    · cases ho
  · cases ho
/-- a field of 0 or 1 -/
def op_pfz (c j : Nat) (k : vD) : vD := fun L st G M => match st with
  | .int x :: .ref a :: r => if gAt G a c ∧ (x = 0 ∨ x = 1) then k L r G (mset M a j x) else none
  | _ => none
theorem s_pfz {C : String} {T : u_T} {N ci j index : Nat} (hc : vwCl[ci]? = some (C, T, N)) (hin : ∀ w ∈ u_ws C T N, w ∈ lw_good) (ty0 : Nat → FieldType) (hty : ∀ k, k < N → parseFieldDescriptor (T k).2.2.1 = some (ty0 k)) (hnm : ∀ a, a < N → ∀ b, b < N → a ≠ b → (T a).2.1 ≠ (T b).2.1) (hj : j < N) (hci : ci < 100) (hjn : j < nF ci) (hrf : rF ci j = false) (hfin : (T j).2.2.2 = false) (hti : ty0 j = .boolean) (hw : Cond.fieldLink y.cls index (T j).1 (T j).2.1 (T j).2.2.1 ∈ lw_good) (hd : decode cc pc = .ok (.putfield index, 3)) (hp : pc + 3 = pc') (hk : Snd y cc nL ret lev mc ms g0 pc' k) : Snd y cc nL ret lev mc ms g0 pc (op_pfz ci j k) := by
  subst hp
  intro p l e s m args below meth c D cx ad A F H locs ls L st G M hI hL out ho
  obtain ⟨hx, hb, -, hown, hts, -, -, -, hK, -⟩ := id F
  unfold op_pfz at ho
  split at ho
  · next x a r =>
    split at ho
    · next hg =>
      obtain ⟨ha, hC⟩ := gAt_ok hg.1
      have h01 : narrow .boolean (.int x) = .int x ∧ fits .boolean (.int x) = true := by rcases hg.2 with rfl | rfl <;> decide
      refine Rs.go (G2 := G) hk F ho (fun Q kk => va_put (v := .int x) hx hb hts hin ty0 hty hnm hown hK hI.1 hI.2.1 hI.2.2.1.me a (by rw [wW_at ha, wE_o hC hci]) hc j hj (hts _ hw) (fun x h => h) hfin ((hty j hj).trans (congrArg some hti)) h01.1 h01.2 (by rw [fO_len]; exact hjn) hd (fun H1 locs1 hP1 hD1 hS1 => W_sz fun hz => ?_))
      rw [wW_set (g' := G) (M' := mset M a j x) rfl (by rw [wE_o hC hci, fO_set hjn hrf]) (fun b hb => wE_M (mset_ne hb))] at hP1 hD1
      exact kk H1 locs1 ls (hI.upd hP1 hD1 hS1 hz) hL
    · cases ho
  · cases ho
theorem s_ial (hd : decode cc pc = .ok (.iaload, 1)) (hp : pc + 1 = pc') (hk : Snd y cc nL ret lev mc ms g0 pc' k) : Snd y cc nL ret lev mc ms g0 pc (op_ial k) := by
  subst hp
  intro p l e s m args below meth c D cx ad A F H locs ls L st G M hI hL out ho
  obtain ⟨hx, hb, -, hown, hts, -, -, -, hK, -⟩ := id F
  unfold op_ial at ho
  split at ho
  · next i a r =>
    split at ho
    · next hg =>
      rw [Bool.and_eq_true] at hg
      obtain ⟨ha, hC⟩ := gAt_ok hg.1
      exact Rs.go (G2 := G) hk F ho (fun Q kk => va_iald (f := M a) hx hb hK hI.1 a 0 (by rw [wW_at ha, wE_i hC]) rfl (inB_ok hg.2).1 hd (kk H locs ls hI hL))
    · cases ho
  · cases ho
theorem s_ias (hd : decode cc pc = .ok (.iastore, 1)) (hp : pc + 1 = pc') (hk : Snd y cc nL ret lev mc ms g0 pc' k) : Snd y cc nL ret lev mc ms g0 pc (op_ias k) := by
  subst hp
  intro p l e s m args below meth c D cx ad A F H locs ls L st G M hI hL out ho
  obtain ⟨hx, hb, -, hown, hts, -, -, -, hK, -⟩ := id F
  unfold op_ias at ho
  split at ho
  · next x i a r =>
    split at ho
    · next hg =>
      rw [Bool.and_eq_true] at hg
      obtain ⟨ha, hC⟩ := gAt_ok hg.1
      refine Rs.go (G2 := G) hk F ho (fun Q kk => va_iast (f := M a) hx hb hK hI.1 hI.2.1 hI.2.2.1.me a 0 (by rw [wW_at ha, wE_i hC]) rfl (inB_ok hg.2).1 hd (fun H1 locs1 hP1 hD1 hS1 => W_sz fun hz => ?_))
      rw [wW_set (g' := G) (M' := mset M a i.toNatClampNeg x) rfl (by rw [wE_i hC, mset_eq]) (fun b hb => wE_M (mset_ne hb))] at hP1 hD1
      exact kk H1 locs1 ls (hI.upd hP1 hD1 hS1 hz) hL
    · cases ho
  · cases ho
theorem s_aal {t : Nat} {ty : FieldType} (ht0 : 0 < t) (ht : ∀ cx : Nat → ClassId, (tyL cx)[t]? = some (cx t, ty)) (hrk : refKind ty = true) (hd : decode cc pc = .ok (.aaload, 1)) (hp : pc + 1 = pc') (hk : Snd y cc nL ret lev mc ms g0 pc' k) : Snd y cc nL ret lev mc ms g0 pc (op_aal t k) := by
  subst hp
  intro p l e s m args below meth c D cx ad A F H locs ls L st G M hI hL out ho
  obtain ⟨hx, hb, -, hown, hts, -, -, -, hK, -⟩ := id F
  unfold op_aal at ho
  split at ho
  · next i a r =>
    split at ho
    · next hg =>
      rw [Bool.and_eq_true] at hg
      obtain ⟨ha, hC⟩ := gAt_ok hg.1
      obtain ⟨hi, hlt⟩ := inB_ok hg.2
      split at ho
      · next b hR =>
        have hcell := hI.1 a _ (wW_at ha)
        rw [wE_r hC ht0] at hcell
        refine Rs.go (G2 := G) hk F ho (fun Q kk => W.aald (v := .ref (ad b)) (ty := ty) hx hb hcell ((hK.2 t _ (ht cx)).1 (gL G a) (fun j => va_rf ((gR G a j).map ad))) hrk (fun q => by cases q) (by show ¬ (i < 0 ∨ (arrV _ _ _).slots.size ≤ _); rw [arrV_size]; exact hi) ?_ rfl rfl hd (kk H locs ls hI hL))
        show (arrV _ _ _).slots[_]? = _
        rw [arrV_read _ _ hlt]
        show some (va_rf (Option.map ad (gR G a i.toNatClampNeg))) = _
        rw [hR]
        rfl
      · cases ho
    · cases ho
  · cases ho
theorem s_gst {t index : Nat} (ht : t < 4) (hw : Cond.fieldLink y.cls index "StyleFamilies$Values" (sN t) "[I" ∈ lw_good) (hd : decode cc pc = .ok (.getstatic index, 3)) (hp : pc + 3 = pc') (hk : Snd y cc nL ret lev mc ms g0 pc' k) : Snd y cc nL ret lev mc ms g0 pc (op_gst t k) := by
  subst hp
  intro p l e s m args below meth c D cx ad A F H locs ls L st G M hI hL out ho
  obtain ⟨hx, hb, -, hown, hts, -, -, -, hK, -, hSt, -⟩ := id F
  exact Rs.go (G2 := G) hk F ho (fun Q kk => va_gets hx hb (hSt t ht).1 hI.2.2.1 hown (hts _ hw) (fun x h => h) hd (kk H locs ls hI hL))
theorem s_sal {t : Nat} (ht : t < 4) (hd : decode cc pc = .ok (.iaload, 1)) (hp : pc + 1 = pc') (hk : Snd y cc nL ret lev mc ms g0 pc' k) : Snd y cc nL ret lev mc ms g0 pc (op_sal t k) := by
  subst hp
  intro p l e s m args below meth c D cx ad A F H locs ls L st G M hI hL out ho
  obtain ⟨hx, hb, -, hown, hts, -, -, -, hK, -, hSt, -⟩ := id F
  unfold op_sal at ho
  split at ho
  · next i a r =>
    split at ho
    · next hg =>
      obtain ⟨rfl, hi⟩ := hg
      obtain ⟨-, hX, hnA⟩ := hSt t ht
      have hbl : ad (1000 + t) < s.heap.size := by
        obtain ⟨scr, h1, -⟩ := hX
        exact (Array.getElem?_eq_some_iff.mp h1).1
      exact Rs.go (G2 := G) hk F ho (fun Q kk => va_sld hx hb hX hbl hnA hI.2.2.1 (inB_ok hi).1 hd (kk H locs ls hI hL))
    · cases ho
  · cases ho
end SND3
