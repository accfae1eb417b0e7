/-! ===== the machine follows the operations, 4: calls; a method's contract out of its fragment ===== -/
section SND4
variable {p : Program} {l : Launch} {e : Env} {s : State} {m : MethodId} {args : Array Value} {below : List Frame} {meth : Method} {c : Code} {D : va_G} {cx : Nat → ClassId} {ad : Nat → Nat} {A : Nat → Prop}
variable {y : MethodName} {cc : ByteArray} {nL : Nat} {ret : Option FieldType} {lev mc ms : Nat} {g0 : vG} {pc pc' pt : Nat} {k kt kf : vD}
theorem Stt.to {u U : State} {H H1 : Heap} (h : Stt ad A u H) (hvm : u.vm.Alike U.vm) (hk : ∀ q : Nat, q < H.size → ¬ A q → H1[q]? = H[q]?) : Stt ad A U H1 := by
  intro t ht
  obtain ⟨h1, h2, h3⟩ := h t ht
  have hl : ad (1000 + t) < H.size := by
    obtain ⟨scr, q, -⟩ := h2
    exact (Array.getElem?_eq_some_iff.mp q).1
  exact ⟨(h1.kept hk).moved hvm, (h2.kept (hk _ hl h3)).moved hvm, h3⟩
theorem Nst.warm {U : State} (h : Nst s) (hW : s.WarmedH U.vm) : Nst U := by
  refine ⟨fun w hw => ?_, h.2.1.moved hW.alike, h.2.2.1.moved hW.alike, over_moved hW.alike h.2.2.2⟩
  have h1 := h.1 w hw
  have h2 := (List.mem_filter.mp hw).2
  cases w <;> first | exact va_Nw.warmM hW h1 | cases h2
theorem Nst.same {u U : State} (h : Nst u) (hv : u.vm = U.vm) : Nst U := by
  have ha : u.vm.Alike U.vm := by rw [hv]; exact Vm.Alike.refl _
  refine ⟨fun w hw => ?_, h.2.1.moved ha, h.2.2.1.moved ha, over_moved ha h.2.2.2⟩
  have h1 := h.1 w hw
  have h2 := (List.mem_filter.mp hw).2
  cases w <;> first | exact va_Nw.same rfl hv h1 | cases h2
theorem Wd_blind {g : vG} {M : vM} {sz : Nat} {vs : List Value} : FrameBlind (va_Pc vs (Wd D cx ad A mc g M sz)) := by
  intro a U g' mk q
  obtain ⟨q0, q1, q2, q3, q4, q5, q6, q7, q8⟩ := q
  exact ⟨q0, q1, q2, q3, va_K.moved (u := U) (U := U.calling g' mk a) (Vm.Alike.refl U.vm) q4, q5, q6.to (Vm.Alike.refl U.vm) (fun _ _ _ => rfl), q7.same rfl, q8⟩
theorem Wd_of {H : Heap} {locs : List Loc} {G : vG} {M : vM} (F : Fx p s m args meth c D cx ad A y cc nL ret) (hI : Iv D cx ad A mc ms g0 s H locs G M) {mc' : Nat} (hm : mc' ≠ 0 → mc ≠ 0) {U : State} (hU : U.heap = H) (hW : s.WarmedH U.vm) : Wd D cx ad A mc' G M H.size U := by
  obtain ⟨-, -, -, -, -, -, -, -, hK, hA, hSt, hN⟩ := F
  obtain ⟨hP, hD, hS, -, -, h7⟩ := hI
  exact ⟨by rw [hU], by rw [hU]; exact hP, hD, va_K.moved hW.alike hK, fun q hq => hA q (Nat.le_trans hS.1 hq), by rw [hU]; exact hSt.to hW.alike hS.2.1, hN.warm hW, fun h => h7 (hm h)⟩
theorem good_lw {ws : List Cond} (h : ∀ w ∈ ws, w ∈ lw_good) : GoodIn lw_good ws := fun w hw => ⟨h w hw, good_of_word (List.mem_filter.mp (h w hw)).2⟩
def Nm (y2 : MethodName) (n : Nat) : Prop := y2.cls ≠ "java/lang/invoke/MethodHandle" ∧ y2.cls ≠ "java/lang/invoke/VarHandle" ∧ (parseMethodDescriptor y2.desc).map (fun d => d.parameters.length) = some n
def CaS (y2 : MethodName) (c2 : ByteArray) (n2 : Nat) (r2 : Option FieldType) (n : Nat) : Prop := Cond.static y2 ∈ lw_good ∧ Cond.initialized y2.cls ∈ lw_good ∧ Cond.code y2 c2 n2 r2 ∈ lw_good ∧ Nm y2 n
def CaV (y2 : MethodName) (c2 : ByteArray) (n2 : Nat) (r2 : Option FieldType) (n : Nat) : Prop := Cond.instanceMethod y2 ∈ lw_good ∧ Cond.selects y2.cls y2 y2 ∈ lw_good ∧ Cond.initialized y2.cls ∈ lw_good ∧ Cond.code y2 c2 n2 r2 ∈ lw_good ∧ Nm y2 n
theorem vc_call {H : Heap} {locs : List Loc} {G G' : vG} {M M' : vM} {v0 : Option Value} {mc' ms' : Nat} {as : Array Value} {pc : Nat} {ls : Array Slot} {st rest : List Value} (hI : Iv D cx ad A mc ms g0 s H locs G M) (hmm : mc' ≠ 0 → mc ≠ 0) (hlm : G.1 + mc' ≤ g0.1 + mc ∧ G.2.1 + ms' ≤ g0.2.1 + ms)
    (hr : va_Run p l e (rmL lev mc ms) s m args below meth c H locs (G.1 - g0.1) (G.2.1 - g0.2.1) mc' ms' (F0 m pc ls st) rest (PoC D cx ad A mc' ms' G v0 G' M' as) A) {Q : State → Prop}
    (kk : ∀ (H1 : Heap) (locs1 : List Loc), Iv D cx ad A mc ms g0 s H1 locs1 G' M' → W p l e (rmL lev mc ms) s m args below meth c H1 locs1 (G'.1 - g0.1) (G'.2.1 - g0.2.1) Q (F0 m (pc + 3) ls ((v0.map (cvA ad)).toList ++ rest))) :
    W p l e (rmL lev mc ms) s m args below meth c H locs (G.1 - g0.1) (G.2.1 - g0.2.1) Q (F0 m pc ls st) := by
  intro T hT X
  obtain ⟨v, st₀, t, T', L, h0, X', hL, e1, e2, ⟨hv, ⟨f1, f2, f3⟩, hP, hD, hsz, hF1, hF2⟩, stp⟩ := hr T hT X
  cases hv
  obtain ⟨-, -, hS0, ⟨i1, i2, i3, i4, i5⟩, i6, i7⟩ := hI
  have hsz2 : T'.heap.size = H.size + mc' := by rw [e1, hsz, h0]
  have c1 : G.1 - g0.1 + mc' = G'.1 - g0.1 := by omega
  have c2 : G.2.1 - g0.2.1 + ms' = G'.2.1 - g0.2.1 := by omega
  rw [c1, c2] at X'
  rw [h0] at hF1 hF2
  obtain ⟨t2, a1, b1⟩ := kk T'.heap (locs ++ L) ⟨by rw [e1]; exact hP, hD, ⟨by rw [hsz2]; exact Nat.le_trans hS0.1 (by omega), fun q q1 q2 => by rw [e1, hF2 q (Nat.lt_of_lt_of_le q1 hS0.1) q2]; exact hS0.2.1 q q1 q2, fun q hq => by
      rcases List.mem_append.mp hq with h | h
      · exact hS0.2.2 q h
      · exact hL q h⟩, ⟨by omega, by omega, by omega, by omega, by omega⟩, fun hz => by
        have hz' : mc' = 0 := Classical.byContradiction fun hne => hmm hne hz
        rw [f3 hz', i6 hz], fun hne j hj => by
        have := i7 hne (mc' + j) (by omega)
        rw [f1, Nat.add_assoc, this, hsz2]
        omega⟩ T' rfl X'
  exact ⟨t2, stp t2 a1, b1⟩
theorem cat_sum : ∀ (r : List Value), ((r.map (cvA ad)).map fun v => v.category).sum ≤ 2 * r.length
  | [] => Nat.le_refl _
  | v :: r => by
    have := cat_sum r
    have h2 : (cvA ad v).category ≤ 2 := by rcases lv_cat (cvA ad v) with h | h <;> omega
    simp only [List.map_cons, List.sum_cons, List.length_cons]
    omega
theorem s_calS {y2 : MethodName} {c2 : ByteArray} {n2 : Nat} {r2 : Option FieldType} {lev2 n index : Nat} {f : vF} (hM : Ctr y2 c2 n2 r2 lev2 0 0 f) (hC : CaS y2 c2 n2 r2 n) (hw : Cond.methodLink y.cls index y2 ∈ lw_good) (hlv : lev2 + 1 ≤ lev ∧ 8 + (n2 + 11) + 36 * lev2 ≤ 36 * lev) (hd : decode cc pc = .ok (.invokestatic index, 3)) (hp : pc + 3 = pc') (hk : Snd y cc nL ret lev mc ms g0 pc' k) : Snd y cc nL ret lev mc ms g0 pc (op_cal n f k) := by
  subst hp
  intro p l e s m args below meth c D cx ad A F H locs ls L st G M hI hL out ho
  obtain ⟨hx, hb, hml, hown, hts, -⟩ := id F
  obtain ⟨w1, w2, w3, hN⟩ := hC
  unfold op_cal at ho
  split at ho
  · next hlen =>
    have key : ∀ (v0 : Option Value) (G' : vG) (M' : vM), f (st.take n).reverse G M = some (v0, G', M') → ∀ Q : State → Prop, (∀ (H1 : Heap) (locs1 : List Loc), Iv D cx ad A mc ms g0 s H1 locs1 G' M' → W p l e (rmL lev mc ms) s m args below meth c H1 locs1 (G'.1 - g0.1) (G'.2.1 - g0.2.1) Q (F0 m (pc + 3) ls ((v0.map (cvA ad)).toList ++ (st.drop n).map (cvA ad)))) → W p l e (rmL lev mc ms) s m args below meth c H locs (G.1 - g0.1) (G.2.1 - g0.2.1) Q (F0 m pc ls (st.map (cvA ad))) := by
      intro v0 G' M' hf Q kk
      refine vc_call hI (mc' := 0) (ms' := 0) (fun h => absurd rfl h) ⟨hI.2.2.2.1.2.2.2.1, hI.2.2.2.1.2.2.2.2⟩ (va_runS (As := (st.take n).reverse.map (cvA ad)) (rest := (st.drop n).map (cvA ad)) ⟨hx, hb, hml, hown, hts⟩ (hM l D cx ad A H.size _ G M v0 G' M' hf) (va_cwS n hts (good_lw (fun w hw' => ?_)) rfl rfl rfl hN hlv) ⟨Wd_blind, fun U hU hW => ⟨rfl, Wd_of F hI (fun h => absurd rfl h) hU hW⟩⟩ rfl ?_ hL.1 ?_ (lv_room ?_) hd ?_) kk
      · simp only [va_wsS, List.mem_append, List.mem_cons, List.not_mem_nil, or_false] at hw'
        rcases hw' with (rfl | rfl | rfl) | rfl | h
        · exact hw
        · exact w1
        · exact w2
        · exact w3
        · exact h
      · simp; omega
      · show st.map (cvA ad) = _
        rw [List.map_reverse, List.reverse_reverse, ← List.map_append, List.take_append_drop]
      · have := cat_sum (ad := ad) (st.drop n)
        have h4 : (st.drop n).length ≤ 4 := by simp; omega
        omega
      · have := hI.2.2.2.1
        exact ⟨by show _ + 0 ≤ mc; omega, by show _ + 0 ≤ ms; omega⟩
    split at ho
    · next v G' M' hf => exact Rs.go hk F ho (fun Q kk => key _ _ _ hf Q (fun H1 locs1 hI1 => kk H1 locs1 ls hI1 hL))
    · next G' M' hf => exact Rs.go hk F ho (fun Q kk => key _ _ _ hf Q (fun H1 locs1 hI1 => kk H1 locs1 ls hI1 hL))
    · cases ho
  · cases ho
theorem s_calV {y2 : MethodName} {c2 : ByteArray} {n2 : Nat} {r2 : Option FieldType} {lev2 n index ci : Nat} {f : vF} {T : u_T} {N : Nat} (hM : Ctr y2 c2 n2 r2 lev2 0 0 f) (hC : CaV y2 c2 n2 r2 n) (hcl : vwCl[ci]? = some (y2.cls, T, N)) (hci : ci < 100) (hw : Cond.methodLink y.cls index y2 ∈ lw_good) (hlv : lev2 + 1 ≤ lev ∧ 8 + (n2 + 11) + 36 * lev2 ≤ 36 * lev) (hd : decode cc pc = .ok (.invokevirtual index, 3)) (hp : pc + 3 = pc') (hk : Snd y cc nL ret lev mc ms g0 pc' k) : Snd y cc nL ret lev mc ms g0 pc (op_calV ci n f k) := by
  subst hp
  intro p l e s m args below meth c D cx ad A F H locs ls L st G M hI hL out ho
  obtain ⟨hx, hb, hml, hown, hts, -, -, -, hK, -⟩ := id F
  obtain ⟨w1, w2, w3, w4, hN⟩ := hC
  unfold op_calV at ho
  split at ho
  · next a r hdr =>
    split at ho
    · next hg =>
      obtain ⟨ha, hC⟩ := gAt_ok hg.1
      have hst : st = st.take n ++ .ref a :: r := by rw [← hdr, List.take_append_drop]
      have hlt : (st.take n).length = n := by
        have h1 : (st.drop n).length = r.length + 1 := by rw [hdr]; rfl
        simp at h1 ⊢
        omega
      have key : ∀ (v0 : Option Value) (G' : vG) (M' : vM), f (.ref a :: (st.take n).reverse) G M = some (v0, G', M') → ∀ Q : State → Prop, (∀ (H1 : Heap) (locs1 : List Loc), Iv D cx ad A mc ms g0 s H1 locs1 G' M' → W p l e (rmL lev mc ms) s m args below meth c H1 locs1 (G'.1 - g0.1) (G'.2.1 - g0.2.1) Q (F0 m (pc + 3) ls ((v0.map (cvA ad)).toList ++ r.map (cvA ad)))) → W p l e (rmL lev mc ms) s m args below meth c H locs (G.1 - g0.1) (G.2.1 - g0.2.1) Q (F0 m pc ls (st.map (cvA ad))) := by
        intro v0 G' M' hf Q kk
        refine vc_call hI (mc' := 0) (ms' := 0) (fun h => absurd rfl h) ⟨hI.2.2.2.1.2.2.2.1, hI.2.2.2.1.2.2.2.2⟩ (va_runV (C := y2.cls) (b := ad a) (As := (st.take n).reverse.map (cvA ad)) (rest := r.map (cvA ad)) ⟨hx, hb, hml, hown, hts⟩ (hM l D cx ad A H.size _ G M v0 G' M' hf) (cwV n hts (good_lw (fun w hw' => ?_)) rfl rfl rfl ⟨rfl, hN⟩ hlv) ⟨Wd_blind, va_recv hK hI.1 hcl (q0 := a) (by rw [wW_at ha, wE_o hC hci]), fun U hU hW => ⟨rfl, Wd_of F hI (fun h => absurd rfl h) hU hW⟩⟩ rfl ?_ hL.1 ?_ (lv_room ?_) hd ?_) kk
        · simp only [wsV, List.mem_append, List.mem_cons, List.not_mem_nil, or_false] at hw'
          rcases hw' with (rfl | rfl | rfl | rfl) | rfl | h
          · exact hw
          · exact w1
          · exact w2
          · exact w3
          · exact w4
          · exact h
        · rw [List.length_map, List.length_reverse, hlt]
        · show st.map (cvA ad) = _
          rw [List.map_reverse, List.reverse_reverse]
          conv => lhs; rw [hst]
          rw [List.map_append]
          rfl
        · have := cat_sum (ad := ad) r
          have h4 := hg.2
          omega
        · have := hI.2.2.2.1
          exact ⟨by show _ + 0 ≤ mc; omega, by show _ + 0 ≤ ms; omega⟩
      split at ho
      · next v G' M' hf => exact Rs.go hk F ho (fun Q kk => key _ _ _ hf Q (fun H1 locs1 hI1 => kk H1 locs1 ls hI1 hL))
      · next G' M' hf => exact Rs.go hk F ho (fun Q kk => key _ _ _ hf Q (fun H1 locs1 hI1 => kk H1 locs1 ls hI1 hL))
      · cases ho
    · cases ho
  · cases ho
theorem s_acp {index : Nat} (hw : Cond.methodLink y.cls index arraycopyName ∈ lw_good) (hw2 : Cond.native arraycopyName ∈ lw_good ∧ Cond.static arraycopyName ∈ lw_good ∧ Cond.initialized "java/lang/System" ∈ lw_good) (hlv : 1 ≤ lev) (hd : decode cc pc = .ok (.invokestatic index, 3)) (hp : pc + 3 = pc') (hk : Snd y cc nL ret lev mc ms g0 pc' k) : Snd y cc nL ret lev mc ms g0 pc (op_acp k) := by
  subst hp
  intro p l e s m args below meth c D cx ad A F H locs ls L st G M hI hL out ho
  obtain ⟨hx, hb, hml, hown, hts, -, -, -, hK, -⟩ := id F
  unfold op_acp at ho
  split at ho
  · next n dp d sp a r =>
    split at ho
    · next hg =>
      simp only [Bool.and_eq_true, decide_eq_true_eq] at hg
      obtain ⟨⟨⟨⟨⟨⟨⟨g1, g2⟩, g3⟩, g4⟩, g5⟩, g6⟩, g7⟩, g8⟩ := hg
      obtain ⟨ha, hCa⟩ := gAt_ok g1
      obtain ⟨hd', hCd⟩ := gAt_ok g2
      refine Rs.go (G2 := G) hk F ho (fun Q kk => va_copyi (f := M a) (g := M d) (rest := r.map (cvA ad)) hx hb (hml.trans hL.1.symm) hown (hts _ hw) (hts _ hw2.1) (hts _ hw2.2.1) (hts _ hw2.2.2) hK hI.1 hI.2.1 hI.2.2.1.me a d 0 0 (by rw [wW_at ha, wE_i hCa]) (by rw [wW_at hd', wE_i hCd]) rfl rfl rfl (Int32.not_lt.mpr g5) (Int32.not_lt.mpr g4) (Int32.not_lt.mpr g3) g6 g7 (fun _ _ => rfl) hlv ?_ hd (fun H1 locs1 hP1 hD1 hS1 => W_sz fun hz => ?_))
      · have h1 := cat_sum (ad := ad) r
        have h2 : nativeFrameWords "java/lang/System" "arraycopy" 5 = 7 := by decide +kernel
        show _ ≤ 36 * lev
        omega
      · rw [wW_set (g' := G) (M' := mcpy M a d sp.toNatClampNeg dp.toNatClampNeg n.toNatClampNeg) rfl (by rw [wE_i hCd, mcpy_eq]) (fun b hb => wE_M (mcpy_ne hb))] at hP1 hD1
        exact kk H1 locs1 ls (hI.upd hP1 hD1 hS1 hz) hL
    · cases ho
  · cases ho
theorem lR_entry {as : List Value} (hn : as.length ≤ nL) (hc : as.all (fun v => v.category == 1) = true) : lR ad (en as nL) ((lg_sl (as.map (cvA ad)) ++ List.replicate (nL - (lg_sl (as.map (cvA ad))).length) Slot.unset).toArray) nL ∧ (lg_sl (as.map (cvA ad))).length ≤ nL := by
  have hcat : ∀ v ∈ as, v.category = 1 := fun v hv => by simpa using List.all_eq_true.mp hc v hv
  have h1 : ∀ (as : List Value), (∀ v ∈ as, v.category = 1) → (lg_sl (as.map (cvA ad))).length = as.length := by
    intro as h
    induction as with
    | nil => rfl
    | cons v r ih =>
      have hv := h v List.mem_cons_self
      have ihr := ih (fun w hw => h w (List.mem_cons_of_mem _ hw))
      cases v <;> first | (simp [Value.category] at hv; done) | (simp [lg_sl, cvA, Value.category] at ihr ⊢; exact ihr)
  have h2 : ∀ (as : List Value), (∀ v ∈ as, v.category = 1) → ∀ (o i : Nat) (v : Value), as[i]? = some v → (o + i, cvA ad v) ∈ lv_args o (as.map (cvA ad)) := by
    intro as h
    induction as with
    | nil => intro o i v hi; simp at hi
    | cons w r ih =>
      intro o i v hi
      have hw := h w List.mem_cons_self
      cases i with
      | zero =>
        simp at hi
        subst hi
        exact List.mem_cons_self
      | succ i =>
        rw [List.getElem?_cons_succ] at hi
        have h3 := ih (fun w hw => h w (List.mem_cons_of_mem _ hw)) (o + 1) i v hi
        refine List.mem_cons_of_mem _ ?_
        rw [cvA_cat, hw]
        simpa [Nat.add_assoc, Nat.add_comm 1 i] using h3
  have hl : (lg_sl (as.map (cvA ad))).length ≤ nL := by rw [h1 as hcat]; exact hn
  have he := lv_entry (as.map (cvA ad)) (n := nL) hl
  refine ⟨⟨he.1, he.2.1, fun i v hi => ?_⟩, hl⟩
  have hi2 : as[i]? = some v := by
    unfold en at hi
    by_cases hlt : i < as.length
    · rw [List.getElem?_append_left (by simpa using hlt), List.getElem?_map] at hi
      cases hq : as[i]? with
      | none => rw [hq] at hi; cases hi
      | some w => rw [hq] at hi; simpa using hi
    · rw [List.getElem?_append_right (by simpa using hlt), List.getElem?_replicate] at hi
      split at hi <;> cases hi
  have := h2 as hcat 0 i v hi2
  rw [Nat.zero_add] at this
  exact he.2.2 _ this
/-- a contract out of a fragment -/
theorem ctr_of {d : vG → vD} (hy : plainName y.cls = true) (h : ∀ g0, Snd y cc nL ret lev mc ms g0 0 (d g0)) : Ctr y cc nL ret lev mc ms (fun as G M => runD (d G) nL as G M) := by
  intro l D cx ad A sz as g M v g' M' hf
  simp only [runD] at hf
  split at hf
  · next hl =>
    refine Met.ofW (cc := cc) (maxL := nL) (ret := ret) hy rfl ?_
    intro p e s m args below meth c s₁ B hml hv
    obtain ⟨rfl, hsz, hP, hD, hK, hA, hSt, hN, hal⟩ := hv
    have hts := atoms_spec (ws := (.code y cc nL ret :: lw_good)) B.pre
    have F : Fx p s m (as.map (cvA ad)).toArray meth c D cx ad A y cc nL ret := ⟨B.exec, B.bytes, hml, findClass_of_methodNamed B.named, fun w hw => hts w (List.mem_cons_of_mem _ hw), B.returns, B.notSynchronized, (name_of_methodNamed B.named B.method).1, hK, fun q hq => hA q (by omega), hSt, hN⟩
    have hI : Iv D cx ad A mc ms g s s.heap [] g M := ⟨hP, hD, va_S.rf, ⟨Nat.le_refl _, by omega, Nat.le_refl _, by omega, by omega⟩, fun _ => rfl, fun h j hj => by rw [hsz]; exact hal h j hj⟩
    obtain ⟨hL, hle⟩ := lR_entry (ad := ad) hl.1 hl.2
    split at hf
    · next r hr =>
      cases hf
      have := h g p l e s m (as.map (cvA ad)).toArray below meth c D cx ad A F s.heap [] _ _ [] g M hI hL _ hr
      simp only [Rs, Nat.sub_self, List.map_nil] at this
      rw [lg_entry_eq]
      exact this
    · cases hf
  · cases hf
end SND4
