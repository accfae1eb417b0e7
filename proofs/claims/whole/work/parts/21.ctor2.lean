/-! ===== objects are made, 2: references are put, constructors are called ===== -/
section SND7
variable {p : Program} {l : Launch} {e : Env} {s : State} {m : MethodId} {args : Array Value} {below : List Frame} {meth : Method} {c : Code} {D : va_G} {cx : Nat → ClassId} {ad : Nat → Nat} {A : Nat → Prop}
variable {y : MethodName} {cc : ByteArray} {nL : Nat} {ret : Option FieldType} {lev mc ms : Nat} {g0 : vG} {pc pc' pt : Nat} {k kt kf : vD}
theorem fO_setR {g : vG} {M : vM} {c a k b : Nat} (hk : k < nF c) (hr : rF c k = true) : (fO ad g M c a).set k (.ref (ad b)) = fO ad (gsetR g a k b) M c a := by
  apply List.ext_getElem?
  intro i
  by_cases hi : i < nF c
  · rw [fO_at hi]
    by_cases h : i = k
    · subst h
      rw [List.getElem?_set_self (by rw [fO_len]; exact hi), hr]
      simp [gR, gsetR, va_rf]
    · rw [List.getElem?_set_ne (fun q => h q.symm), fO_at hi]
      simp [gR, gsetR, h]
  · rw [List.getElem?_eq_none (by rw [List.length_set, fO_len]; omega), List.getElem?_eq_none (by rw [fO_len]; omega)]
theorem gsetR_ne {g : vG} {M : vM} {a k b x : Nat} (h : x ≠ a) : wE cx ad (gsetR g a k b) M x = wE cx ad g M x :=
  wE_G rfl rfl (fun _ => if_neg h) rfl
theorem Iv.updG {H H1 : Heap} {locs locs1 : List Loc} {G G1 : vG} {M M1 : vM} (h : Iv D cx ad A mc ms g0 s H locs G M) (hmc : mc ≠ 0) (h1 : G1.1 = G.1) (h2 : G1.2.1 = G.2.1) (hP : va_P D vwCl (wW cx ad G1 M1) H1) (hD : va_D A (wW cx ad G1 M1)) (hS : va_S A H H1 locs1) (hz : H1.size ≤ s.heap.size + (G.1 - g0.1)) : Iv D cx ad A mc ms g0 s H1 locs1 G1 M1 := by
  obtain ⟨-, -, hS0, ⟨i1, i2, i3, i4, i5⟩, i6, i7⟩ := h
  have hs : H1.size = H.size := by have := hS.1; omega
  exact ⟨hP, hD, hS0.via hS, ⟨by omega, by omega, by omega, by omega, by omega⟩, fun hz => absurd hz hmc, fun h j hj => by rw [hs, h1]; exact i7 h j (by omega)⟩
theorem s_pfr {C : String} {T : u_T} {N ci j index : Nat} (hc : vwCl[ci]? = some (C, T, N)) (hin : ∀ w ∈ u_ws C T N, w ∈ lw_good) (ty0 : Nat → FieldType) (hty : ∀ k, k < N → parseFieldDescriptor (T k).2.2.1 = some (ty0 k)) (hnm : ∀ a, a < N → ∀ b, b < N → a ≠ b → (T a).2.1 ≠ (T b).2.1) (hj : j < N) (hci : ci < 100) (hjn : j < nF ci) (hrf : rF ci j = true) (hfin : (T j).2.2.2 = true) (hown0 : (T j).1 = y.cls) (hyn : y.name = "<init>") (hti : ∀ x : Nat, narrow (ty0 j) (.ref x) = .ref x ∧ fits (ty0 j) (.ref x) = true) (hmc : mc ≠ 0) (hw : Cond.fieldLink y.cls index (T j).1 (T j).2.1 (T j).2.2.1 ∈ lw_good) (hd : decode cc pc = .ok (.putfield index, 3)) (hp : pc + 3 = pc') (hk : Snd y cc nL ret lev mc ms g0 pc' k) : Snd y cc nL ret lev mc ms g0 pc (op_pfr ci j k) := by
  subst hp
  intro p l e s m args below meth c D cx ad A F H locs ls L st G M hI hL out ho
  obtain ⟨hx, hb, -, hown, hts, -, -, hmn, hK, -⟩ := id F
  unfold op_pfr at ho
  split at ho
  · next b a r =>
    split at ho
    · next hg =>
      obtain ⟨ha, hC⟩ := gAt_ok hg
      refine Rs.go (G2 := gsetR G a j b) hk F ho (fun Q kk => va_putF (v := .ref (ad b)) hx hb hts hin ty0 hty hnm hown hK hI.1 hI.2.1 hI.2.2.1.me a (by rw [wW_at ha, wE_o hC hci]) hc j hj (hts _ hw) (fun x h => h) hfin (hmn.trans hyn) hown0 (hty j hj) (hti _).1 (hti _).2 (by rw [fO_len]; exact hjn) hd (fun H1 locs1 hP1 hD1 hS1 => W_sz fun hz => ?_))
      rw [wW_set (cx := cx) (ad := ad) (g := G) (M := M) (g' := gsetR G a j b) (M' := M) (e := .inr (ci, (fO ad G M ci a).set j (Value.ref (ad b)))) rfl (by rw [wE_o (show gC (gsetR G a j b) a = ci from hC) hci, fO_setR hjn hrf]) (fun x hx => gsetR_ne hx)] at hP1 hD1
      exact kk H1 locs1 ls (hI.updG hmc rfl rfl hP1 hD1 hS1 hz) hL
    · cases ho
  · cases ho
theorem s_pfiF {C : String} {T : u_T} {N ci j index : Nat} (hc : vwCl[ci]? = some (C, T, N)) (hin : ∀ w ∈ u_ws C T N, w ∈ lw_good) (ty0 : Nat → FieldType) (hty : ∀ k, k < N → parseFieldDescriptor (T k).2.2.1 = some (ty0 k)) (hnm : ∀ a, a < N → ∀ b, b < N → a ≠ b → (T a).2.1 ≠ (T b).2.1) (hj : j < N) (hci : ci < 100) (hjn : j < nF ci) (hrf : rF ci j = false) (hfin : (T j).2.2.2 = true) (hown0 : (T j).1 = y.cls) (hyn : y.name = "<init>") (hti : ty0 j = .int) (hw : Cond.fieldLink y.cls index (T j).1 (T j).2.1 (T j).2.2.1 ∈ lw_good) (hd : decode cc pc = .ok (.putfield index, 3)) (hp : pc + 3 = pc') (hk : Snd y cc nL ret lev mc ms g0 pc' k) : Snd y cc nL ret lev mc ms g0 pc (op_pfi ci j k) := by
  subst hp
  intro p l e s m args below meth c D cx ad A F H locs ls L st G M hI hL out ho
  obtain ⟨hx, hb, -, hown, hts, -, -, hmn, hK, -⟩ := id F
  unfold op_pfi at ho
  split at ho
  · next x a r =>
    split at ho
    · next hg =>
      obtain ⟨ha, hC⟩ := gAt_ok hg
      refine Rs.go (G2 := G) hk F ho (fun Q kk => va_putF (v := .int x) hx hb hts hin ty0 hty hnm hown hK hI.1 hI.2.1 hI.2.2.1.me a (by rw [wW_at ha, wE_o hC hci]) hc j hj (hts _ hw) (fun x h => h) hfin (hmn.trans hyn) hown0 ((hty j hj).trans (congrArg some hti)) rfl rfl (by rw [fO_len]; exact hjn) hd (fun H1 locs1 hP1 hD1 hS1 => W_sz fun hz => ?_))
      rw [wW_set (g' := G) (M' := mset M a j x) rfl (by rw [wE_o hC hci, fO_set hjn hrf]) (fun b hb => wE_M (mset_ne hb))] at hP1 hD1
      exact kk H1 locs1 ls (hI.upd hP1 hD1 hS1 hz) hL
    · cases ho
  · cases ho
theorem s_aas {C : String} {T : u_T} {N t ci : Nat} (ht0 : 0 < t) (hcl : vwCl[ci]? = some (C, T, N)) (hci : ci < 100) (ht : ∀ cx : Nat → ClassId, (tyL cx)[t]? = some (cx t, .object C)) (hmc : mc ≠ 0) (hd : decode cc pc = .ok (.aastore, 1)) (hp : pc + 1 = pc') (hk : Snd y cc nL ret lev mc ms g0 pc' k) : Snd y cc nL ret lev mc ms g0 pc (op_aas t ci k) := by
  subst hp
  intro p l e s m args below meth c D cx ad A F H locs ls L st G M hI hL out ho
  obtain ⟨hx, hb, -, hown, hts, -, -, -, hK, -⟩ := id F
  unfold op_aas at ho
  split at ho
  · next b i a r =>
    split at ho
    · next hg =>
      simp only [Bool.and_eq_true] at hg
      obtain ⟨ha, hC⟩ := gAt_ok hg.1.1
      obtain ⟨hb', hCb⟩ := gAt_ok hg.2
      refine Rs.go (G2 := gsetR G a i.toNatClampNeg b) hk F ho (fun Q kk => va_astq (r := (C, T, N)) (v := ad b) hx hb hK hI.1 hI.2.1 hI.2.2.1.me a t b ci (by rw [wW_at ha, wE_r hC ht0]) (ht cx) (by rw [wW_at hb', wE_o hCb hci]) hcl (inB_ok hg.1.2).1 hd (fun H1 locs1 hP1 hD1 hS1 => W_sz fun hz => ?_))
      have hfun : (fun j => (gR (gsetR G a i.toNatClampNeg b) a j).map ad) = va_up (fun j => Option.map ad (gR G a j)) i.toNatClampNeg (some (ad b)) := by
        funext j
        by_cases hj : j = i.toNatClampNeg
        · subst hj
          simp [gR, gsetR, va_up]
        · simp [gR, gsetR, va_up, hj]
      have he : wE cx ad (gsetR G a i.toNatClampNeg b) M a = .inl (cx t, gL G a, .inr (.inr (.inr (.inr (va_up (fun j => Option.map ad (gR G a j)) i.toNatClampNeg (some (ad b))))))) := by
        rw [wE_r (show gC (gsetR G a i.toNatClampNeg b) a = 100 + t from hC) ht0, hfun]
        rfl
      rw [wW_set (g := G) (M := M) (g' := gsetR G a i.toNatClampNeg b) (M' := M) rfl he (fun x hx => gsetR_ne hx)] at hP1 hD1
      exact kk H1 locs1 ls (hI.updG hmc rfl rfl hP1 hD1 hS1 hz) hL
    · cases ho
  · cases ho
theorem s_oin {index : Nat} (hw : Cond.methodLink y.cls index objectInit ∈ lw_good) (hw2 : Cond.instanceMethod objectInit ∈ lw_good ∧ Cond.code objectInit ⟨#[0xb1]⟩ 1 none ∈ lw_good) (hlv : 1 ≤ lev) (hd : decode cc pc = .ok (.invokespecial index, 3)) (hp : pc + 3 = pc') (hk : Snd y cc nL ret lev mc ms g0 pc' k) : Snd y cc nL ret lev mc ms g0 pc (op_oin k) := by
  subst hp
  intro p l e s m args below meth c D cx ad A F H locs ls L st G M hI hL out ho
  obtain ⟨hx, hb, hml, hown, hts, -⟩ := id F
  unfold op_oin at ho
  split at ho
  · next a r =>
    split at ho
    · next hr =>
      refine Rs.go (G2 := G) hk F ho (fun Q kk => W.objInit (rest := r.map (cvA ad)) hx hb hown (hts _ hw) (hts _ hw2.1) (hts _ hw2.2) rfl (hL.1.trans hml.symm) rfl hd hlv ?_ (kk H locs ls hI hL))
      have h1 := cat_sum (ad := ad) r
      have h2 := lv_room (m := m) (pc := pc) (ls := ls) (rest := ((Value.ref a :: r).map (cvA ad))) (st := r.map (cvA ad)) (by omega)
      show _ ≤ 36 * lev
      omega
    · cases ho
  · cases ho
def CaI (y2 : MethodName) (c2 : ByteArray) (n2 n : Nat) : Prop := y2.name = "<init>" ∧ Cond.instanceMethod y2 ∈ lw_good ∧ Cond.initialized y2.cls ∈ lw_good ∧ Cond.code y2 c2 n2 none ∈ lw_good ∧ Nm y2 n
theorem s_calI {y2 : MethodName} {c2 : ByteArray} {n2 : Nat} {lev2 n index mc2 ms2 : Nat} {f : vF} (hM : Ctr y2 c2 n2 none lev2 mc2 ms2 f) (hC : CaI y2 c2 n2 n) (hw : Cond.methodLink y.cls index y2 ∈ lw_good ∨ ∃ host, Cond.methodLinkNest y.cls index y2 host ∈ lw_nst) (hmc : mc ≠ 0) (hlv : lev2 + 1 ≤ lev ∧ 8 + (n2 + 11) + 36 * lev2 ≤ 36 * lev) (hd : decode cc pc = .ok (.invokespecial index, 3)) (hp : pc + 3 = pc') (hk : Snd y cc nL ret lev mc ms g0 pc' k) : Snd y cc nL ret lev mc ms g0 pc (op_calI (g0.1 + mc, g0.2.1 + ms) mc2 ms2 n f k) := by
  subst hp
  intro p l e s m args below meth c D cx ad A F H locs ls L st G M hI hL out ho
  obtain ⟨hx, hb, hml, hown, hts, -, -, -, hK, -, -, hN0⟩ := id F
  obtain ⟨w0, w1, w3, w4, hN⟩ := hC
  unfold op_calI at ho
  split at ho
  · next a r hdr =>
    split at ho
    · next hg =>
      have hst : st = st.take n ++ .ref a :: r := by rw [← hdr, List.take_append_drop]
      have hlt : (st.take n).length = n := by
        have h1 : (st.drop n).length = r.length + 1 := by rw [hdr]; rfl
        simp at h1 ⊢
        omega
      have hgood : GoodIn lw_good (Cond.code y2 c2 n2 none :: lw_good) := good_lw (fun w hw' => by
        rcases List.mem_cons.mp hw' with rfl | h
        · exact w4
        · exact h)
      have e1 : (((st.take n).reverse.map (cvA ad)).length = n) := by rw [List.length_map, List.length_reverse, hlt]
      have e2 : st.map (cvA ad) = ((st.take n).reverse.map (cvA ad)).reverse ++ Value.ref (ad a) :: r.map (cvA ad) := by
        rw [List.map_reverse, List.reverse_reverse]
        conv => lhs; rw [hst]
        rw [List.map_append]
        rfl
      have e3 : ((r.map (cvA ad)).map fun v => v.category).sum ≤ 8 := by
        have := cat_sum (ad := ad) r
        have h4 := hg.2
        omega
      have hi := hI.2.2.2.1
      have e4 : G.1 - g0.1 + mc2 ≤ (rmL lev mc ms).cells ∧ G.2.1 - g0.2.1 + ms2 ≤ (rmL lev mc ms).slots := by
        have h1 := hg.1.1
        have h2 := hg.1.2
        simp only at h1 h2
        exact ⟨by show _ ≤ mc; omega, by show _ ≤ ms; omega⟩
      split at ho
      · next G' M' hf =>
        refine Rs.go hk F ho (fun Q kk => vc_call (v0 := none) (as := (Value.ref (ad a) :: (st.take n).reverse.map (cvA ad)).toArray) hI (mc' := mc2) (ms' := ms2) (fun _ => hmc) hg.1 ?_ (fun H1 locs1 hI1 => kk H1 locs1 ls hI1 hL))
        rcases hw with hw | ⟨host, hw⟩
        · exact va_runI (b := ad a) (As := (st.take n).reverse.map (cvA ad)) (rest := r.map (cvA ad)) ⟨hx, hb, hml, hown, hts⟩ (hM l D cx ad A H.size _ G M none G' M' hf) (cwI n hts hgood rfl rfl rfl (hts _ w3) (hts _ hw) (hts _ w1) w0 hN hlv) ⟨Wd_blind, fun U hU hW => ⟨rfl, Wd_of F hI (fun _ => hmc) hU hW⟩⟩ rfl e1 hL.1 e2 (lv_room e3) hd e4
        · exact va_runIN (b := ad a) (As := (st.take n).reverse.map (cvA ad)) (rest := r.map (cvA ad)) ⟨hx, hb, hml, hown, hts⟩ (hM l D cx ad A H.size _ G M none G' M' hf) ⟨va_cnB n hts hgood rfl rfl rfl (hN0.1 _ hw) (hts _ w3) hN hlv, w0, hts _ w1⟩ ⟨Wd_blind, fun U hU hW => ⟨rfl, Wd_of F hI (fun _ => hmc) hU hW⟩⟩ rfl e1 hL.1 e2 (lv_room e3) hd e4
      · cases ho
    · cases ho
  · cases ho
theorem s_vrc (hd : decode cc pc = .ok (.return_, 1)) (hr : ret = none) (hmc : mc ≠ 0) : Snd y cc nL ret lev mc ms g0 pc (op_vrc (g0.1 + mc, g0.2.1 + ms)) := by
  intro p l e s m args below meth c D cx ad A F H locs ls L st G M hI hL out ho
  obtain ⟨hx, hb, -, -, -, hret, hlk, -⟩ := id F
  unfold op_vrc at ho
  split at ho
  · split at ho
    · next hg =>
      cases ho
      have h1 : G.1 = g0.1 + mc := hg.1
      have h2 : G.2.1 = g0.2.1 + ms := hg.2
      have e1 : G.1 - g0.1 = mc := by omega
      have e2 : G.2.1 - g0.2.1 = ms := by omega
      obtain ⟨hP, hD, hS, ⟨i1, i2, i3, i4, i5⟩, i6, i7⟩ := id hI
      show W _ _ _ _ _ _ _ _ _ _ _ _ _ _ _ _
      rw [e1, e2]
      exact W.vret hx hb (hret.trans hr) (fun t ht _ => ⟨rfl, ⟨h1, h2, fun hz => absurd hz hmc⟩, by rw [ht]; exact hP, hD, by rw [ht, i2, e1], hS.F ht⟩) hI.2.2.1.2.2 hd hlk
    · cases ho
  · cases ho
end SND7
