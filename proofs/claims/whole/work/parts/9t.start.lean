-- the law's start: what the tables and the statement's premises give
theorem st_of {args : Array Value} {s : State} {tm : Term} {f : Nat → Int32} (harr : (Cond.arrayOf tm .int).before args s = true) (hlen : (Cond.eq (.length tm) (.int 6)).before args s = true) (hel : ∀ j : Nat, j < 6 → (Cond.eq (.elem tm (.int (Int32.ofNat j))) (.int (f j))).before args s = true) : ∃ t : Nat, tm.eval args s none [] s = some (.ref t) ∧ va_X t 6 f s s.heap ∧ t < s.heap.size := by
  have hl := va_eqt hlen
  obtain ⟨t, cell, ht, hat, hv⟩ := Term.length_spec hl
  obtain ⟨hcell, hkn, -, -⟩ := State.arrayAt?_spec hat
  obtain ⟨hof, -⟩ := Cond.arrayOf_spec harr ht hcell
  have hsz : cell.slots.size < 2147483648 := by
    simp only [Term.eval, ht, hat, Option.bind_eq_bind, Option.bind_some] at hl
    by_cases hlt : cell.slots.size < 2147483648
    · exact hlt
    · simp [hlt] at hl
  have h6 : cell.slots.size = 6 := by
    have e : nI 6 = nI cell.slots.size := Value.int.inj hv
    exact ((N_eq (by decide) hsz).mp e).symm
  refine ⟨t, ht, ⟨cell, hcell, hof, hkn, h6, fun j hj => ?_⟩, (Array.getElem?_eq_some_iff.mp hcell).1⟩
  obtain ⟨a, i, cell2, h1, h2, h3, h4, h5⟩ := Term.elem_spec (va_eqt (hel j hj))
  cases ht.symm.trans h1
  cases hat.symm.trans h3
  have hi : i = Int32.ofNat j := by
    have e : (Term.int (Int32.ofNat j)).eval args s none [] s = some (.int (Int32.ofNat j)) := rfl
    cases h2.symm.trans e
    rfl
  have hc : i.toNatClampNeg = j := by rw [hi]; exact Int32.toNatClampNeg_ofNat_of_lt (by omega)
  rw [hc] at h5
  exact h5
theorem good_tbl {w : Cond} (h : w ∈ lw_good) : w ∈ lw_tbl := (List.mem_filter.mp h).1
theorem st_0 {s : State} {args : Array Value} {A : Nat → Prop} (hgv : (Jvm.Cond.and given_1 narrow_1).before args s = true) (hts : ∀ w ∈ lw_tbl, w.before args s = true) (hA : ∀ a : Nat, a < s.heap.size → ¬ A a) : ∃ t : Nat, va_Z "StyleFamilies$Values" "SHIFT" "[I" (.ref t) A s s.heap ∧ va_X t 6 (sV 0) s s.heap ∧ ¬ A t := by
  have hs := flat_of_before _ hgv
  obtain ⟨t, h1, h2, h3⟩ := st_of (tm := .static "StyleFamilies$Values" "SHIFT" "[I") (f := sV 0) (hs _ (by decide +kernel)) (hs _ (by decide +kernel)) (six (hs (.eq (.elem (.static "StyleFamilies$Values" "SHIFT" "[I") (.int 0)) (.int 23)) (by decide +kernel)) (hs (.eq (.elem (.static "StyleFamilies$Values" "SHIFT" "[I") (.int 1)) (.int 22)) (by decide +kernel)) (hs (.eq (.elem (.static "StyleFamilies$Values" "SHIFT" "[I") (.int 2)) (.int 15)) (by decide +kernel)) (hs (.eq (.elem (.static "StyleFamilies$Values" "SHIFT" "[I") (.int 3)) (.int 8)) (by decide +kernel)) (hs (.eq (.elem (.static "StyleFamilies$Values" "SHIFT" "[I") (.int 4)) (.int 4)) (by decide +kernel)) (hs (.eq (.elem (.static "StyleFamilies$Values" "SHIFT" "[I") (.int 5)) (.int 0)) (by decide +kernel)))
  exact ⟨t, va_Zref (hts _ (List.mem_of_getElem? (i := 379) (by decide +kernel))) (hts _ (List.mem_of_getElem? (i := 78) (by decide +kernel))) h1 hA, h2, hA t h3⟩
theorem st_1 {s : State} {args : Array Value} {A : Nat → Prop} (hgv : (Jvm.Cond.and given_1 narrow_1).before args s = true) (hts : ∀ w ∈ lw_tbl, w.before args s = true) (hA : ∀ a : Nat, a < s.heap.size → ¬ A a) : ∃ t : Nat, va_Z "StyleFamilies$Values" "MASK" "[I" (.ref t) A s s.heap ∧ va_X t 6 (sV 1) s s.heap ∧ ¬ A t := by
  have hs := flat_of_before _ hgv
  obtain ⟨t, h1, h2, h3⟩ := st_of (tm := .static "StyleFamilies$Values" "MASK" "[I") (f := sV 1) (hs _ (by decide +kernel)) (hs _ (by decide +kernel)) (six (hs (.eq (.elem (.static "StyleFamilies$Values" "MASK" "[I") (.int 0)) (.int 1)) (by decide +kernel)) (hs (.eq (.elem (.static "StyleFamilies$Values" "MASK" "[I") (.int 1)) (.int 1)) (by decide +kernel)) (hs (.eq (.elem (.static "StyleFamilies$Values" "MASK" "[I") (.int 2)) (.int 127)) (by decide +kernel)) (hs (.eq (.elem (.static "StyleFamilies$Values" "MASK" "[I") (.int 3)) (.int 127)) (by decide +kernel)) (hs (.eq (.elem (.static "StyleFamilies$Values" "MASK" "[I") (.int 4)) (.int 15)) (by decide +kernel)) (hs (.eq (.elem (.static "StyleFamilies$Values" "MASK" "[I") (.int 5)) (.int 15)) (by decide +kernel)))
  exact ⟨t, va_Zref (hts _ (List.mem_of_getElem? (i := 426) (by decide +kernel))) (hts _ (List.mem_of_getElem? (i := 78) (by decide +kernel))) h1 hA, h2, hA t h3⟩
theorem st_2 {s : State} {args : Array Value} {A : Nat → Prop} (hgv : (Jvm.Cond.and given_1 narrow_1).before args s = true) (hts : ∀ w ∈ lw_tbl, w.before args s = true) (hA : ∀ a : Nat, a < s.heap.size → ¬ A a) : ∃ t : Nat, va_Z "StyleFamilies$Values" "TOP" "[I" (.ref t) A s s.heap ∧ va_X t 6 (sV 2) s s.heap ∧ ¬ A t := by
  have hs := flat_of_before _ hgv
  obtain ⟨t, h1, h2, h3⟩ := st_of (tm := .static "StyleFamilies$Values" "TOP" "[I") (f := sV 2) (hs _ (by decide +kernel)) (hs _ (by decide +kernel)) (six (hs (.eq (.elem (.static "StyleFamilies$Values" "TOP" "[I") (.int 0)) (.int 1)) (by decide +kernel)) (hs (.eq (.elem (.static "StyleFamilies$Values" "TOP" "[I") (.int 1)) (.int 1)) (by decide +kernel)) (hs (.eq (.elem (.static "StyleFamilies$Values" "TOP" "[I") (.int 2)) (.int 99)) (by decide +kernel)) (hs (.eq (.elem (.static "StyleFamilies$Values" "TOP" "[I") (.int 3)) (.int 99)) (by decide +kernel)) (hs (.eq (.elem (.static "StyleFamilies$Values" "TOP" "[I") (.int 4)) (.int 9)) (by decide +kernel)) (hs (.eq (.elem (.static "StyleFamilies$Values" "TOP" "[I") (.int 5)) (.int 9)) (by decide +kernel)))
  exact ⟨t, va_Zref (hts _ (List.mem_of_getElem? (i := 638) (by decide +kernel))) (hts _ (List.mem_of_getElem? (i := 78) (by decide +kernel))) h1 hA, h2, hA t h3⟩
theorem st_3 {s : State} {args : Array Value} {A : Nat → Prop} (hgv : (Jvm.Cond.and given_1 narrow_1).before args s = true) (hts : ∀ w ∈ lw_tbl, w.before args s = true) (hA : ∀ a : Nat, a < s.heap.size → ¬ A a) : ∃ t : Nat, va_Z "StyleFamilies$Values" "RANDOM_STEP" "[I" (.ref t) A s s.heap ∧ va_X t 6 (sV 3) s s.heap ∧ ¬ A t := by
  have hs := flat_of_before _ hgv
  obtain ⟨t, h1, h2, h3⟩ := st_of (tm := .static "StyleFamilies$Values" "RANDOM_STEP" "[I") (f := sV 3) (hs _ (by decide +kernel)) (hs _ (by decide +kernel)) (six (hs (.eq (.elem (.static "StyleFamilies$Values" "RANDOM_STEP" "[I") (.int 0)) (.int 1)) (by decide +kernel)) (hs (.eq (.elem (.static "StyleFamilies$Values" "RANDOM_STEP" "[I") (.int 1)) (.int 1)) (by decide +kernel)) (hs (.eq (.elem (.static "StyleFamilies$Values" "RANDOM_STEP" "[I") (.int 2)) (.int 5)) (by decide +kernel)) (hs (.eq (.elem (.static "StyleFamilies$Values" "RANDOM_STEP" "[I") (.int 3)) (.int 5)) (by decide +kernel)) (hs (.eq (.elem (.static "StyleFamilies$Values" "RANDOM_STEP" "[I") (.int 4)) (.int 2)) (by decide +kernel)) (hs (.eq (.elem (.static "StyleFamilies$Values" "RANDOM_STEP" "[I") (.int 5)) (.int 2)) (by decide +kernel)))
  exact ⟨t, va_Zref (hts _ (List.mem_of_getElem? (i := 771) (by decide +kernel))) (hts _ (List.mem_of_getElem? (i := 78) (by decide +kernel))) h1 hA, h2, hA t h3⟩
theorem st_all {s : State} {args : Array Value} {A : Nat → Prop} (hgv : (Jvm.Cond.and given_1 narrow_1).before args s = true) (hts : ∀ w ∈ lw_tbl, w.before args s = true) (hA : ∀ a : Nat, a < s.heap.size → ¬ A a) : ∃ f : Nat → Nat, ∀ t, t < 4 → va_Z "StyleFamilies$Values" (sN t) "[I" (.ref (f t)) A s s.heap ∧ va_X (f t) 6 (sV t) s s.heap ∧ ¬ A (f t) := by
  obtain ⟨a0, h0⟩ := st_0 hgv hts hA
  obtain ⟨a1, h1⟩ := st_1 hgv hts hA
  obtain ⟨a2, h2⟩ := st_2 hgv hts hA
  obtain ⟨a3, h3⟩ := st_3 hgv hts hA
  refine ⟨fun t => [a0, a1, a2, a3].getD t 0, fun t ht => ?_⟩
  rcases (show t = 0 ∨ t = 1 ∨ t = 2 ∨ t = 3 by omega) with rfl | rfl | rfl | rfl
  · exact h0
  · exact h1
  · exact h2
  · exact h3
theorem nst_of {s : State} {args : Array Value} (hts : ∀ w ∈ lw_tbl, w.before args s = true) : Nst s := by
  refine ⟨fun w hw => ?_, va_AO.of (hts _ (List.mem_of_getElem? (i := 149) (by decide +kernel))), va_AO.of (hts _ (List.mem_of_getElem? (i := 183) (by decide +kernel))), hts (.arrayOver (.array .int)) (List.mem_of_getElem? (i := 220) (by decide +kernel))⟩
  have h1 := hts w (List.mem_filter.mp hw).1
  have h2 := (List.mem_filter.mp hw).2
  cases w <;> first | exact va_Nw.of rfl h1 | cases h2
theorem arr_of {s : State} {args : Array Value} (hts : ∀ w ∈ lw_tbl, w.before args s = true) : ∃ cx : Nat → ClassId, ∀ (k : Nat) (q : ClassId × FieldType), (tyL cx)[k]? = some q → ArrOfT s q.1 q.2 ∧ va_RA s q.1 q.2 := by
  have hN := nst_of hts
  obtain ⟨c0, k0, p0, a1, a2, a3⟩ := Cond.arrayClass_spec (hts (.arrayClass .int) (List.mem_of_getElem? (i := 122) (by decide +kernel)))
  obtain ⟨p1, c1, k1, b1, -, b2, b3, b4⟩ := Cond.arrayOver_spec hN.2.1
  obtain ⟨p2, c2, k2, d1, -, d2, d3, d4⟩ := Cond.arrayOver_spec hN.2.2.1
  obtain ⟨p3, c3, k3, e1, -, e2, e3, e4⟩ := arrayOverA_spec hN.2.2.2
  refine ⟨fun t => [c0, c1, c2, c3].getD t 0, fun k q hq => ?_⟩
  rcases k with _ | _ | _ | _ | k
  · cases hq
    exact ⟨fun n z => ⟨fun k h => (by cases h), k0, a2, p0, a3⟩, a1⟩
  · cases hq
    exact ⟨fun n z => ⟨fun k h => (by cases h), k1, b2, p1, b3⟩, k1, p1, b2, b3, b1, b4⟩
  · cases hq
    exact ⟨fun n z => ⟨fun k h => (by cases h), k2, d2, p2, d3⟩, k2, p2, d2, d3, d1, d4⟩
  · cases hq
    exact ⟨fun n z => ⟨fun k h => (by cases h), k3, e2, p3, e3⟩, e4⟩
  · cases hq
theorem cls_of {s : State} {args : Array Value} (hts : ∀ w ∈ lw_tbl, w.before args s = true) : ∃ D : va_G, ∀ (c : Nat) (q : vw_C), vwCl[c]? = some q → u_Kn s q.1 q.2.1 q.2.2 (D.1 c) (D.2 c) := by
  have hg : ∀ w ∈ lw_good, w.before args s = true := fun w hw => hts w (good_tbl hw)
  obtain ⟨c0, i0, h0⟩ := u_known hg g_ok0 (hg _ w_251)
  obtain ⟨c1, i1, h1⟩ := u_known hg g_ok1 (hg _ w_163)
  obtain ⟨c2, i2, h2⟩ := u_known hg g_ok2 (hg _ w_208)
  obtain ⟨c3, i3, h3⟩ := u_known hg g_ok3 (hg _ w_143)
  obtain ⟨c4, i4, h4⟩ := u_known hg g_ok4 (hg _ w_270)
  obtain ⟨c5, i5, h5⟩ := u_known hg g_ok5 (hg _ w_185)
  obtain ⟨c6, i6, h6⟩ := u_known hg g_ok6 (hg _ w_214)
  obtain ⟨c7, i7, h7⟩ := u_known hg g_ok7 (hg _ w_96)
  obtain ⟨c8, i8, h8⟩ := u_known hg g_ok8 (hg _ w_90)
  obtain ⟨c9, i9, h9⟩ := u_known hg g_ok10 (hg _ w_82)
  obtain ⟨c10, i10, h10⟩ := u_known hg g_ok11 (hg _ w_818)
  refine ⟨(fun t => [c0, c1, c2, c3, c4, c5, c6, c7, c8, c9, c10].getD t 0, fun t => [i0, i1, i2, i3, i4, i5, i6, i7, i8, i9, i10].getD t (fun _ => 0)), fun k q hq => ?_⟩
  rcases k with _ | _ | _ | _ | _ | _ | _ | _ | _ | _ | _ | k
  · cases hq
    exact h0
  · cases hq
    exact h1
  · cases hq
    exact h2
  · cases hq
    exact h3
  · cases hq
    exact h4
  · cases hq
    exact h5
  · cases hq
    exact h6
  · cases hq
    exact h7
  · cases hq
    exact h8
  · cases hq
    exact h9
  · cases hq
    exact h10
  · cases hq
