/-! ===== objects are made: the operations of constructors ===== -/
def gpush (G : vG) (c n sl : Nat) : vG := (G.1 + 1, G.2.1 + sl, (fun a => if a = G.1 then c else gC G a), (fun a => if a = G.1 then n else gL G a), (fun a k => if a = G.1 then none else gR G a k))
def mpush (G : vG) (M : vM) : vM := fun a => if a = G.1 then (fun _ => 0) else M a
def gsetR (G : vG) (a j b : Nat) : vG := (G.1, G.2.1, gC G, gL G, fun a' j' => if a' = a then (if j' = j then some b else gR G a' j') else gR G a' j')
def op_new (lim : Nat × Nat) (ci : Nat) (k : vD) : vD := fun L st G M => if G.1 + 1 ≤ lim.1 ∧ G.2.1 + nF ci ≤ lim.2 ∧ G.1 < 1000 then k L (.ref G.1 :: st) (gpush G ci 0 (nF ci)) (mpush G M) else none
def op_nar (lim : Nat × Nat) (k : vD) : vD := fun L st G M => match st with
  | .int n :: r => if (G.1 + 1 ≤ lim.1 ∧ G.2.1 + n.toNatClampNeg ≤ lim.2 ∧ G.1 < 1000) ∧ 0 ≤ n ∧ n.toNatClampNeg ≤ 3000 then k L (.ref G.1 :: r) (gpush G 100 n.toNatClampNeg n.toNatClampNeg) (mpush G M) else none
  | _ => none
def op_anr (lim : Nat × Nat) (t : Nat) (k : vD) : vD := fun L st G M => match st with
  | .int n :: r => if (G.1 + 1 ≤ lim.1 ∧ G.2.1 + n.toNatClampNeg ≤ lim.2 ∧ G.1 < 1000) ∧ 0 ≤ n ∧ n.toNatClampNeg ≤ 3000 then k L (.ref G.1 :: r) (gpush G (100 + t) n.toNatClampNeg n.toNatClampNeg) (mpush G M) else none
  | _ => none
def op_pfr (c j : Nat) (k : vD) : vD := fun L st G M => match st with
  | .ref b :: .ref a :: r => if gAt G a c then k L r (gsetR G a j b) M else none
  | _ => none
def op_aas (t ci : Nat) (k : vD) : vD := fun L st G M => match st with
  | .ref b :: .int i :: .ref a :: r => if gAt G a (100 + t) && inB i (gL G a) && gAt G b ci then k L r (gsetR G a i.toNatClampNeg b) M else none
  | _ => none
def op_oin (k : vD) : vD := fun L st G M => match st with
  | .ref _ :: r => if r.length ≤ 4 then k L r G M else none
  | _ => none
def op_calI (lim : Nat × Nat) (mc ms n : Nat) (f : vF) (k : vD) : vD := fun L st G M => match st.drop n with
  | .ref a :: r => if (G.1 + mc ≤ lim.1 ∧ G.2.1 + ms ≤ lim.2) ∧ r.length ≤ 4 then (match f (.ref a :: (st.take n).reverse) G M with
    | some (none, G', M') => k L r G' M'
    | _ => none) else none
  | _ => none
def op_vrc (lim : Nat × Nat) : vD := fun _ st G M => match st with
  | [] => if G.1 = lim.1 ∧ G.2.1 = lim.2 then some (.inr (none, G, M)) else none
  | _ => none
section SND6
variable {p : Program} {l : Launch} {e : Env} {s : State} {m : MethodId} {args : Array Value} {below : List Frame} {meth : Method} {c : Code} {D : va_G} {cx : Nat → ClassId} {ad : Nat → Nat} {A : Nat → Prop}
variable {y : MethodName} {cc : ByteArray} {nL : Nat} {ret : Option FieldType} {lev mc ms : Nat} {g0 : vG} {pc pc' pt : Nat} {k kt kf : vD}
theorem wE_G {G G' : vG} {M M' : vM} {b : Nat} (h1 : gC G' b = gC G b) (h2 : gL G' b = gL G b) (h3 : ∀ k, gR G' b k = gR G b k) (h4 : M' b = M b) : wE cx ad G' M' b = wE cx ad G M b := by
  have h5 : gR G' b = gR G b := funext h3
  unfold wE fO
  rw [h1, h2, h4, h5]
theorem Iv.push {H H1 : Heap} {locs : List Loc} {G G' : vG} {M M' : vM} {n sl : Nat} (h : Iv D cx ad A mc ms g0 s H locs G M) (hA : ∀ q, s.heap.size ≤ q → A q) (hmc : mc ≠ 0) (hn1 : G'.1 = G.1 + n) (hn2 : G'.2.1 = G.2.1 + sl) (hz : H1.size = H.size + n) (ho : ∀ q, q < H.size → H1[q]? = H[q]?) (hold : ∀ a, a < G.1 → wE cx ad G' M' a = wE cx ad G M a)
    (hnew : ∀ j, j < n → va_at D vwCl (H.size + j, wE cx ad G' M' (G.1 + j)) H1) (hlt : G.1 + n ≤ 1000) (hl : G.1 + n ≤ g0.1 + mc ∧ G.2.1 + sl ≤ g0.2.1 + ms) : Iv D cx ad A mc ms g0 s H1 locs G' M' := by
  obtain ⟨hP, hD, hS, ⟨h1, h2, h3, h4, h5⟩, h6, h7⟩ := h
  have had : ∀ j, j < n → ad (G.1 + j) = H.size + j := fun j hj => h7 hmc j (by omega)
  have key : ∀ (i : Nat) (q : Nat × va_E), (wW cx ad G' M')[i]? = some q → (i < G.1 ∧ (wW cx ad G M)[i]? = some q ∧ q.1 < H.size) ∨ (G.1 ≤ i ∧ i < G.1 + n ∧ q.1 = H.size + (i - G.1) ∧ q = (H.size + (i - G.1), wE cx ad G' M' i)) := by
    intro i q hq
    obtain ⟨hi, rfl⟩ := wW_lt hq
    by_cases hlt : i < G.1
    · have hw : (wW cx ad G M)[i]? = some (ad i, wE cx ad G' M' i) := by rw [wW_at hlt, hold i hlt]
      exact Or.inl ⟨hlt, hw, (hP i _ hw).lt⟩
    · have e := had (i - G.1) (by omega)
      rw [show G.1 + (i - G.1) = i by omega] at e
      exact Or.inr ⟨by omega, by omega, e, by rw [e]⟩
  refine ⟨fun i q hq => ?_, ⟨fun i j p q hi hj hpq => ?_, fun i q hq => ?_⟩, ⟨by rw [hz]; exact Nat.le_trans hS.1 (by omega), fun q a b => by rw [ho q (Nat.lt_of_lt_of_le a hS.1)]; exact hS.2.1 q a b, hS.2.2⟩, ⟨by omega, by omega, by omega, by omega, by omega⟩, fun hz => absurd hz hmc, fun _ j hj => ?_⟩
  · rcases key i q hq with ⟨-, hw, hl⟩ | ⟨a1, a2, -, rfl⟩
    · exact (hP i q hw).kept (ho _ hl)
    · have := hnew (i - G.1) (by omega)
      rwa [show G.1 + (i - G.1) = i by omega] at this
  · rcases key i p hi with ⟨-, hw, hl⟩ | ⟨a1, a2, a3, -⟩ <;> rcases key j q hj with ⟨-, hw', hl'⟩ | ⟨b1, b2, b3, -⟩
    · exact hD.1 i j p q hw hw' hpq
    · omega
    · omega
    · omega
  · rcases key i q hq with ⟨-, hw, -⟩ | ⟨a1, a2, a3, -⟩
    · exact hD.2 i q hw
    · rw [a3]
      exact hA _ (by omega)
  · have := h7 hmc (n + j) (by omega)
    rw [hn1, Nat.add_assoc, this, hz]
    omega
theorem gpush_old {G : vG} {M : vM} {c n sl a : Nat} (h : a < G.1) : wE cx ad (gpush G c n sl) (mpush G M) a = wE cx ad G M a := by
  have hne : ¬ a = G.1 := by omega
  exact wE_G (if_neg hne) (if_neg hne) (fun _ => if_neg hne) (if_neg hne)
theorem gpush_C {G : vG} {c n sl : Nat} : gC (gpush G c n sl) G.1 = c := if_pos rfl
theorem gpush_L {G : vG} {c n sl : Nat} : gL (gpush G c n sl) G.1 = n := if_pos rfl
theorem gpush_R {G : vG} {c n sl k : Nat} : gR (gpush G c n sl) G.1 k = none := if_pos rfl
theorem mpush_at {G : vG} {M : vM} : mpush G M G.1 = fun _ => 0 := if_pos rfl
theorem s_new {C : String} {T : u_T} {N ci index : Nat} (hc : vwCl[ci]? = some (C, T, N)) (hin : ∀ w ∈ u_ws C T N, w ∈ lw_good) (ty0 : Nat → FieldType) (hty : ∀ k, k < N → parseFieldDescriptor (T k).2.2.1 = some (ty0 k)) (hci : ci < 100) (hN : nF ci = N) (hdf : ∀ k, k < N → defaultValue (ty0 k) = if rF ci k then .null else .int 0) (hmc : mc ≠ 0) (hw : Cond.classLink y.cls index C ∈ lw_good) (hw2 : Cond.instantiable C N ∈ lw_good) (hw3 : Cond.initialized C ∈ lw_good) (hd : decode cc pc = .ok (.new index, 3)) (hp : pc + 3 = pc') (hk : Snd y cc nL ret lev mc ms g0 pc' k) : Snd y cc nL ret lev mc ms g0 pc (op_new (g0.1 + mc, g0.2.1 + ms) ci k) := by
  subst hp
  intro p l e s m args below meth c D cx ad A F H locs ls L st G M hI hL out ho
  obtain ⟨hx, hb, -, hown, hts, -, -, -, hK, hA, -⟩ := id F
  unfold op_new at ho
  split at ho
  · next hg =>
    have hKn := hK.1 ci _ hc
    have hi := hI.2.2.2.1
    refine Rs.go hk F ho (fun Q kk => W.newcK hx hb hown (hts _ hw) (hts _ hw2) (hts _ hw3) rfl hd (by show _ ≤ mc; have := hg.1; simp only at this; omega) (by show _ ≤ ms; have := hg.2.1; simp only at this; omega) hKn.2.1 rfl fun H1 kC hkC e1 z1 o1 => ?_)
    have had : ad G.1 = H.size := hI.2.2.2.2.2 hmc 0 (by omega)
    have hI1 : Iv D cx ad A mc ms g0 s H1 locs (gpush G ci 0 (nF ci)) (mpush G M) := by
      refine hI.push (n := 1) (sl := nF ci) hA hmc rfl rfl z1 o1 (fun a ha => gpush_old ha) (fun j hj => ?_) (by omega) ⟨hg.1, hg.2.1⟩
      have hj0 : j = 0 := by omega
      subst hj0
      rw [Nat.add_zero, Nat.add_zero, wE_o gpush_C hci]
      refine ⟨_, hc, (u_born ty0 hts hin hKn hkC e1 hty).to (fun j hj => ?_)⟩
      rw [hdf j hj]
      have : (fO ad (gpush G ci 0 (nF ci)) (mpush G M) ci G.1)[j]? = some (if rF ci j then .null else .int 0) := by
        rw [fO_at (by omega), gpush_R, mpush_at]
        rfl
      unfold vp_V
      rw [List.getD_eq_getElem?_getD, this]
      rfl
    have c1 : (gpush G ci 0 (nF ci)).1 - g0.1 = G.1 - g0.1 + 1 := by show G.1 + 1 - g0.1 = _; omega
    have c2 : (gpush G ci 0 (nF ci)).2.1 - g0.2.1 = G.2.1 - g0.2.1 + N := by show G.2.1 + nF ci - g0.2.1 = _; omega
    have := kk H1 locs ls hI1 hL
    rw [c1, c2] at this
    simp only [List.map_cons, cvA, had] at this
    exact this
  · cases ho
theorem s_nar (hw : Cond.arrayClass .int ∈ lw_good) (hmc : mc ≠ 0) (hd : decode cc pc = .ok (.newarray .int, 2)) (hp : pc + 2 = pc') (hk : Snd y cc nL ret lev mc ms g0 pc' k) : Snd y cc nL ret lev mc ms g0 pc (op_nar (g0.1 + mc, g0.2.1 + ms) k) := by
  subst hp
  intro p l e s m args below meth c D cx ad A F H locs ls L st G M hI hL out ho
  obtain ⟨hx, hb, -, hown, hts, -, -, -, hK, hA, -⟩ := id F
  unfold op_nar at ho
  split at ho
  · next n r =>
    split at ho
    · next hg =>
      have hi := hI.2.2.2.1
      refine Rs.go hk F ho (fun Q kk => va_newaK (atype := .int) (rest := r.map (cvA ad)) hx hb (hts _ hw) rfl hd rfl (Int32.not_lt.mpr hg.2.1) rfl (by show _ * 4 ≤ _; omega) (by show _ ≤ mc; have := hg.1.1; simp only at this; omega) (by show _ ≤ ms; have := hg.1.2.1; simp only at this; omega) rfl fun H1 cA e1 z1 o1 hAr hNm => ?_)
      have had : ad G.1 = H.size := hI.2.2.2.2.2 hmc 0 (by omega)
      have hcA : cA = cx 0 := by
        have h2 : s.vm.findClass ("[" ++ FieldType.int.toString) = some (cx 0) := (hK.2 0 _ rfl).2
        have h3 : s.vm.findClass ("[" ++ FieldType.int.toString) = some cA := hNm
        exact Option.some.inj (h3.symm.trans h2)
      subst hcA
      have hI1 : Iv D cx ad A mc ms g0 s H1 locs (gpush G 100 n.toNatClampNeg n.toNatClampNeg) (mpush G M) := by
        refine hI.push (n := 1) (sl := n.toNatClampNeg) hA hmc rfl rfl z1 o1 (fun a ha => gpush_old ha) (fun j hj => ?_) (by omega) ⟨hg.1.1, hg.1.2.1⟩
        have hj0 : j = 0 := by omega
        subst hj0
        rw [Nat.add_zero, Nat.add_zero, wE_i gpush_C, gpush_L, mpush_at]
        exact e1
      have c1 : (gpush G 100 n.toNatClampNeg n.toNatClampNeg).1 - g0.1 = G.1 - g0.1 + 1 := by show G.1 + 1 - g0.1 = _; omega
      have c2 : (gpush G 100 n.toNatClampNeg n.toNatClampNeg).2.1 - g0.2.1 = G.2.1 - g0.2.1 + n.toNatClampNeg := by show G.2.1 + n.toNatClampNeg - g0.2.1 = _; omega
      have := kk H1 locs ls hI1 hL
      rw [c1, c2] at this
      simp only [List.map_cons, cvA, had] at this
      exact this
    · cases ho
  · cases ho
theorem s_anr {C : String} {t index : Nat} (ht0 : 0 < t) (ht : ∀ cx : Nat → ClassId, (tyL cx)[t]? = some (cx t, .object C)) (hov : ∀ U : State, Nst U → va_AO C U) (hmc : mc ≠ 0) (hw : Cond.classLink y.cls index C ∈ lw_good) (hd : decode cc pc = .ok (.anewarray index, 3)) (hp : pc + 3 = pc') (hk : Snd y cc nL ret lev mc ms g0 pc' k) : Snd y cc nL ret lev mc ms g0 pc (op_anr (g0.1 + mc, g0.2.1 + ms) t k) := by
  subst hp
  intro p l e s m args below meth c D cx ad A F H locs ls L st G M hI hL out ho
  obtain ⟨hx, hb, -, hown, hts, -, -, -, hK, hA, -, hN⟩ := id F
  unfold op_anr at ho
  split at ho
  · next n r =>
    split at ho
    · next hg =>
      have hi := hI.2.2.2.1
      refine Rs.go hk F ho (fun Q kk => W.anew (rest := r.map (cvA ad)) hx hb hown (hts _ hw) (va_AO.use (hov s hN)) rfl hd rfl (Int32.not_lt.mpr hg.2.1) (by omega) (by show _ ≤ mc; have := hg.1.1; simp only at this; omega) (by show _ ≤ ms; have := hg.1.2.1; simp only at this; omega) fun cA kA comp f1 f2 f3 f4 => ?_)
      have had : ad G.1 = H.size := hI.2.2.2.2.2 hmc 0 (by omega)
      have hcA : cA = cx t := by
        obtain ⟨_, _, -, -, -, h2⟩ := (hK.2 t _ (ht cx)).2
        exact Option.some.inj (f1.symm.trans h2)
      subst hcA
      have hI1 : Iv D cx ad A mc ms g0 s (H.push { cls := cx t, slots := Array.replicate n.toNatClampNeg .null, vm := .none }) locs (gpush G (100 + t) n.toNatClampNeg n.toNatClampNeg) (mpush G M) := by
        refine hI.push (n := 1) (sl := n.toNatClampNeg) hA hmc rfl rfl (by rw [Array.size_push]) (fun q hq => by rw [Array.getElem?_push, if_neg (Nat.ne_of_lt hq)]) (fun a ha => gpush_old ha) (fun j hj => ?_) (by omega) ⟨hg.1.1, hg.1.2.1⟩
        have hj0 : j = 0 := by omega
        subst hj0
        rw [Nat.add_zero, Nat.add_zero, wE_r gpush_C ht0, gpush_L]
        show _ = some (vp_cell _ _)
        rw [vp_cell_q, Array.getElem?_push_size, arrV_new]
        congr 2
        funext j
        rw [gpush_R]
        rfl
      have c1 : (gpush G (100 + t) n.toNatClampNeg n.toNatClampNeg).1 - g0.1 = G.1 - g0.1 + 1 := by show G.1 + 1 - g0.1 = _; omega
      have c2 : (gpush G (100 + t) n.toNatClampNeg n.toNatClampNeg).2.1 - g0.2.1 = G.2.1 - g0.2.1 + n.toNatClampNeg := by show G.2.1 + n.toNatClampNeg - g0.2.1 = _; omega
      have := kk _ locs ls hI1 hL
      rw [c1, c2] at this
      simp only [List.map_cons, cvA, had] at this
      exact this
    · cases ho
  · cases ho
end SND6
