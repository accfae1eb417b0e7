/-! ===== new int[n][k] ===== -/
def gmul (G : vG) (n k : Nat) : vG := (G.1 + (1 + n), G.2.1 + (n + n * k), (fun a => if a = G.1 then 103 else if G.1 < a ∧ a ≤ G.1 + n then 100 else gC G a), (fun a => if a = G.1 then n else if G.1 < a ∧ a ≤ G.1 + n then k else gL G a), (fun a j => if a = G.1 then (if j < n then some (G.1 + 1 + j) else none) else gR G a j))
def mmul (G : vG) (M : vM) (n : Nat) : vM := fun a => if G.1 ≤ a ∧ a ≤ G.1 + n then (fun _ => 0) else M a
def op_mna (lim : Nat × Nat) (k : vD) : vD := fun L st G M => match st with
  | .int b :: .int a :: r => if (G.1 + (1 + a.toNatClampNeg) ≤ lim.1 ∧ G.2.1 + (a.toNatClampNeg + a.toNatClampNeg * b.toNatClampNeg) ≤ lim.2 ∧ G.1 + (1 + a.toNatClampNeg) ≤ 1000) ∧ (0 ≤ a ∧ a.toNatClampNeg ≤ 3000) ∧ 0 ≤ b ∧ b.toNatClampNeg ≤ 3000 then k L (.ref G.1 :: r) (gmul G a.toNatClampNeg b.toNatClampNeg) (mmul G M a.toNatClampNeg) else none
  | _ => none
theorem vr_outer (c : ClassId) (N h0 : Nat) (i : Nat) : Jvm.Free.Multi.outerC c N h0 i = arrV c N (fun j => va_rf (if j < i then some (h0 + 1 + j) else none)) := by
  induction i with
  | zero =>
    show ({ cls := c, slots := Array.replicate N .null, vm := .none } : Cell) = _
    rw [arrV_new]
    refine congrArg (arrV c N) (funext fun j => ?_)
    simp [va_rf]
  | succ i ih =>
    show (Jvm.Free.Multi.outerC c N h0 i).setSlot i (.ref (h0 + 1 + i)) = _
    rw [ih, arrV_store]
    refine congrArg (arrV c N) (funext fun j => ?_)
    by_cases e : j = i
    · subst e
      simp [updV, va_rf]
    · by_cases h : j < i
      · simp [updV, e, h, Nat.lt_succ_of_lt h]
      · simp [updV, e, h, show ¬ j < i + 1 by omega]
theorem s_mna {y : MethodName} {cc : ByteArray} {nL : Nat} {ret : Option FieldType} {lev mc ms : Nat} {g0 : vG} {pc pc' : Nat} {k : vD} {index : Nat} (hw : Cond.classLink y.cls index ("[" ++ (FieldType.array .int).toString) ∈ lw_good) (hw2 : Cond.arrayClass .int ∈ lw_good) (hmc : mc ≠ 0) (hd : decode cc pc = .ok (.multianewarray index 2, 4)) (hp : pc + 4 = pc') (hk : Snd y cc nL ret lev mc ms g0 pc' k) : Snd y cc nL ret lev mc ms g0 pc (op_mna (g0.1 + mc, g0.2.1 + ms) k) := by
  subst hp
  intro p l e s m args below meth c D cx ad A F H locs ls L st G M hI hL out ho
  obtain ⟨hx, hb, -, hown, hts, -, -, -, hK, hA, -, hN⟩ := id F
  unfold op_mna at ho
  split at ho
  · next b a r =>
    split at ho
    · next hg =>
      have hi := hI.2.2.2.1
      refine Rs.go hk F ho (fun Q kk => ?_)
      have hbb : b.toNatClampNeg * componentBytes .int ≤ 536870912 := by show _ * 4 ≤ _; omega
      intro T hT Xs
      obtain ⟨vm₁, cA, comp, -, fA, fC, hO, -, X', step⟩ := Xs.multianewarray2F hx hown (hts _ hw) (over_moved (Vm.Alike.refl _) hN.2.2.2) (hts _ hw2) (g := F0 m pc ls (.int b :: .int a :: r.map (cvA ad))) rfl (by rw [hb]; exact hd) rfl (Int32.not_lt.mpr hg.2.1.1) (Int32.not_lt.mpr hg.2.2.1) (by omega) hbb (by omega) rfl rfl (by show _ ≤ mc; have := hg.1.1; simp only at this; omega) (by show _ ≤ ms; have := hg.1.2.1; simp only at this; omega)
      generalize hF : Jvm.Free.Multi.fill (T.setVm vm₁) cA comp a.toNatClampNeg b.toNatClampNeg (defaultValue .int) a.toNatClampNeg = Fl at X' step
      have hTh : (T.setVm vm₁).heap = H := hT
      obtain ⟨f1, f2, -, -⟩ := Jvm.Free.Multi.fill_facts (T.setVm vm₁) cA comp a.toNatClampNeg b.toNatClampNeg (defaultValue .int) a.toNatClampNeg
      rw [hF, hTh] at f1 f2
      have hold : ∀ x : Nat, x < H.size → Fl.heap[x]? = H[x]? := fun x hx => by
        have := Jvm.Free.Multi.fill_old (T.setVm vm₁) cA comp a.toNatClampNeg b.toNatClampNeg (defaultValue .int) (a := x) (by rw [hTh]; exact hx) a.toNatClampNeg
        rw [hF, hTh] at this
        exact this
      have hrow : ∀ j : Nat, j < a.toNatClampNeg → Fl.heap[H.size + 1 + j]? = some (vp_cell comp (b.toNatClampNeg, .inl (fun _ => 0))) := fun j hj => by
        have := Jvm.Free.Multi.fill_inner (T.setVm vm₁) cA comp a.toNatClampNeg b.toNatClampNeg (defaultValue .int) a.toNatClampNeg j hj
        rw [hF, hTh] at this
        rw [this, vp_cell_i]
        show some ({ cls := comp, slots := Array.replicate b.toNatClampNeg (.int 0), vm := .none } : Cell) = _
        rw [arrV_new]
      rw [vr_outer] at f2
      have hcA : cA = cx 3 := by
        have h2 : s.vm.findClass ("[" ++ (FieldType.array .int).toString) = some (cx 3) := (hK.2 3 _ rfl).2
        exact Option.some.inj (fA.symm.trans h2)
      have hcI : comp = cx 0 := by
        have h2 : s.vm.findClass ("[" ++ FieldType.int.toString) = some (cx 0) := (hK.2 0 _ rfl).2
        have h3 : s.vm.findClass (FieldType.array .int).toString = some comp := fC
        exact Option.some.inj (h3.symm.trans h2)
      subst hcA hcI
      have had : ∀ j, j ≤ a.toNatClampNeg → ad (G.1 + j) = H.size + j := fun j hj => hI.2.2.2.2.2 hmc j (by omega)
      have hsz : Fl.heap.size = H.size + (1 + a.toNatClampNeg) := by rw [f1]; omega
      have hI1 : Iv D cx ad A mc ms g0 s Fl.heap locs (gmul G a.toNatClampNeg b.toNatClampNeg) (mmul G M a.toNatClampNeg) := by
        refine hI.push (n := 1 + a.toNatClampNeg) (sl := a.toNatClampNeg + a.toNatClampNeg * b.toNatClampNeg) hA hmc rfl rfl hsz hold (fun x hx => ?_) (fun j hj => ?_) hg.1.2.2 ⟨hg.1.1, hg.1.2.1⟩
        · have n1 : ¬ x = G.1 := by omega
          have n2 : ¬ (G.1 < x ∧ x ≤ G.1 + a.toNatClampNeg) := by omega
          have n3 : ¬ (G.1 ≤ x ∧ x ≤ G.1 + a.toNatClampNeg) := by omega
          exact wE_G (by simp [gC, gmul, n1, n2]) (by simp [gL, gmul, n1, n2]) (fun _ => by simp [gR, gmul, n1]) (by simp [mmul, n3])
        · by_cases hj0 : j = 0
          · subst hj0
            rw [Nat.add_zero, Nat.add_zero, wE_r (t := 3) (by simp [gC, gmul]) (by decide)]
            show _ = some (vp_cell _ _)
            rw [vp_cell_q]
            have e1 : gL (gmul G a.toNatClampNeg b.toNatClampNeg) G.1 = a.toNatClampNeg := by simp [gL, gmul]
            rw [e1, f2]
            congr 2
            funext j
            congr 1
            by_cases h : j < a.toNatClampNeg
            · have := had (1 + j) (by omega)
              simp [gR, gmul, h]
              rw [show G.1 + 1 + j = G.1 + (1 + j) by omega, this]
              omega
            · simp [gR, gmul, h]
          · have n1 : ¬ G.1 + j = G.1 := by omega
            have n2 : G.1 < G.1 + j ∧ G.1 + j ≤ G.1 + a.toNatClampNeg := by omega
            have n3 : G.1 ≤ G.1 + j ∧ G.1 + j ≤ G.1 + a.toNatClampNeg := by omega
            have e2 : gC (gmul G a.toNatClampNeg b.toNatClampNeg) (G.1 + j) = 100 := by
              show (if G.1 + j = G.1 then 103 else if G.1 < G.1 + j ∧ G.1 + j ≤ G.1 + a.toNatClampNeg then 100 else gC G (G.1 + j)) = 100
              rw [if_neg n1, if_pos n2]
            have e3 : gL (gmul G a.toNatClampNeg b.toNatClampNeg) (G.1 + j) = b.toNatClampNeg := by
              show (if G.1 + j = G.1 then _ else if G.1 < G.1 + j ∧ G.1 + j ≤ G.1 + a.toNatClampNeg then b.toNatClampNeg else gL G (G.1 + j)) = b.toNatClampNeg
              rw [if_neg n1, if_pos n2]
            have e4 : mmul G M a.toNatClampNeg (G.1 + j) = fun _ => 0 := if_pos n3
            rw [wE_i e2, e3, e4]
            have := hrow (j - 1) (by omega)
            rw [show H.size + 1 + (j - 1) = H.size + j by omega] at this
            exact this
      have c1 : (gmul G a.toNatClampNeg b.toNatClampNeg).1 - g0.1 = G.1 - g0.1 + 1 + a.toNatClampNeg := by show G.1 + (1 + a.toNatClampNeg) - g0.1 = _; omega
      have c2 : (gmul G a.toNatClampNeg b.toNatClampNeg).2.1 - g0.2.1 = G.2.1 - g0.2.1 + a.toNatClampNeg + a.toNatClampNeg * b.toNatClampNeg := by show G.2.1 + (a.toNatClampNeg + a.toNatClampNeg * b.toNatClampNeg) - g0.2.1 = _; omega
      have h9 := kk Fl.heap locs ls hI1 hL
      rw [c1, c2] at h9
      have had0 : ad G.1 = H.size := had 0 (by omega)
      simp only [List.map_cons, cvA, had0] at h9
      obtain ⟨t, a1, b1⟩ := h9 Fl rfl X'
      refine ⟨t, step t ?_, b1⟩
      rw [hT]
      exact a1
    · cases ho
  · cases ho
