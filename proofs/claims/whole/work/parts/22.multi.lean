/-! ===== new int[n][k]: the machine's own step, over the kit alone ===== -/
-- the outer array with i rows in place, a row of ints, and the state behind i rows
def mg_o (cA : ClassId) (n h i : Nat) : Cell := arrV cA n (fun j => va_rf (if j < i then some (h + 1 + j) else none))
def mg_i (cI : ClassId) (k : Nat) : Cell := { cls := cI, slots := Array.replicate k (.int 0), vm := .none }
def mg_st (S : State) (cA cI : ClassId) (n k : Nat) : Nat → State
  | 0 => S.pushCell (mg_o cA n S.heap.size 0)
  | i + 1 => ((mg_st S cA cI n k i).pushCell (mg_i cI k)).setCell S.heap.size (mg_o cA n S.heap.size (i + 1))
def mg_ls (h i : Nat) : List Loc := (List.range i).map fun j => ⟨h, j⟩
theorem mg_o0 (cA : ClassId) (n h : Nat) : mg_o cA n h 0 = { cls := cA, slots := Array.replicate n .null, vm := .none } := by
  rw [arrV_new]
  rfl
theorem mg_oS (cA : ClassId) (n h i : Nat) : (mg_o cA n h i).setSlot i (.ref (h + 1 + i)) = mg_o cA n h (i + 1) := by
  unfold mg_o
  rw [arrV_store]
  refine congrArg (arrV cA n) (funext fun j => ?_)
  rcases Nat.lt_trichotomy j i with h | h | h
  · rw [updV, if_neg (by omega), if_pos h, if_pos (by omega)]
  · subst h
    rw [updV, if_pos rfl, if_pos (by omega)]
    rfl
  · rw [updV, if_neg (by omega), if_neg (by omega), if_neg (by omega)]
theorem mg_on (cA : ClassId) (n h i : Nat) : (mg_o cA n h i).slots.size = n := by simp [mg_o, arrV]
theorem mg_in (cI : ClassId) (k : Nat) : (mg_i cI k).slots.size = k := by simp [mg_i]
section MG
variable (S : State) (cA cI : ClassId) (n k : Nat)
theorem mg_vm (i : Nat) : (mg_st S cA cI n k i).vm = S.vm := by
  induction i with
  | zero => rfl
  | succ i ih => exact ih
theorem mg_top (i : Nat) : (mg_st S cA cI n k i).topJava? = S.topJava? := by
  induction i with
  | zero => rfl
  | succ i ih => exact ih
theorem mg_used (i : Nat) : (mg_st S cA cI n k i).slotsUsed = S.slotsUsed + n + i * k := by
  induction i with
  | zero =>
    show S.slotsUsed + (mg_o cA n S.heap.size 0).slots.size = _
    rw [mg_on]
    omega
  | succ i ih =>
    show (mg_st S cA cI n k i).slotsUsed + (mg_i cI k).slots.size = _
    rw [mg_in, ih, Nat.succ_mul]
    omega
theorem mg_size (i : Nat) : (mg_st S cA cI n k i).heap.size = S.heap.size + 1 + i := by
  induction i with
  | zero =>
    show (S.heap.push _).size = _
    rw [Array.size_push]
  | succ i ih =>
    show (((mg_st S cA cI n k i).pushCell (mg_i cI k)).setCell _ _).heap.size = _
    rw [size_setCell]
    show ((mg_st S cA cI n k i).heap.push _).size = _
    rw [Array.size_push, ih]
    omega
theorem mg_next (i q : Nat) : (mg_st S cA cI n k (i + 1)).heap[q]? = if q = S.heap.size then some (mg_o cA n S.heap.size (i + 1)) else if q = S.heap.size + 1 + i then some (mg_i cI k) else (mg_st S cA cI n k i).heap[q]? := by
  have hs := mg_size S cA cI n k i
  show (((mg_st S cA cI n k i).heap.push (mg_i cI k)).setIfInBounds S.heap.size (mg_o cA n S.heap.size (i + 1)))[q]? = _
  rw [Array.getElem?_setIfInBounds]
  by_cases h : q = S.heap.size
  · subst h
    rw [if_pos rfl, if_pos rfl, if_pos (by rw [Array.size_push, hs]; omega)]
  · rw [if_neg (fun e => h e.symm), if_neg h, Array.getElem?_push, hs]
theorem mg_outer (i : Nat) : (mg_st S cA cI n k i).heap[S.heap.size]? = some (mg_o cA n S.heap.size i) := by
  cases i with
  | zero =>
    show (S.heap.push _)[S.heap.size]? = _
    rw [Array.getElem?_push, if_pos rfl]
  | succ i => rw [mg_next, if_pos rfl]
theorem mg_row (i j : Nat) (hj : j < i) : (mg_st S cA cI n k i).heap[S.heap.size + 1 + j]? = some (mg_i cI k) := by
  induction i with
  | zero => omega
  | succ i ih =>
    rw [mg_next, if_neg (by omega)]
    by_cases h : j = i
    · subst h
      rw [if_pos rfl]
    · rw [if_neg (by omega), ih (by omega)]
theorem mg_old (i q : Nat) (hq : q < S.heap.size) : (mg_st S cA cI n k i).heap[q]? = S.heap[q]? := by
  induction i with
  | zero =>
    show (S.heap.push _)[q]? = _
    rw [Array.getElem?_push, if_neg (by omega)]
  | succ i ih => rw [mg_next, if_neg (by omega), if_neg (by omega), ih]
end MG
section MW
variable {E : CtlPost} {e : Env} {S : State} {cA cI c0 : ClassId} {kA kI : Class}
-- one row
theorem mg_wp1 (hkI : S.vm.classes[cI]? = some kI) (hkindI : kI.kind = .array c0 .int) {b : Int32} (hb : ¬ b < 0) (h1 : b.toNatClampNeg ≤ e.platform.arrayLengthLimit) (h2 : b.toNatClampNeg * 4 ≤ e.platform.maxHeapBytes) (h3 : S.heap.size < e.platform.maxCells) (h4 : S.slotsUsed + b.toNatClampNeg ≤ e.platform.maxSlots) {f : JFrame} {d : Bool} {acts : List Action} {Q : Addr → Pre}
    (hQ : ∀ d' acts', Q S.heap.size d' acts' ((S.pushCell (mg_i cI b.toNatClampNeg)).setTop f)) : wp (multianewarray.make cI [b]) Q E e d acts (S.setTop f) := by
  have hf : ∀ i v, (Array.replicate b.toNatClampNeg (Value.int 0))[i]? = some v → (S.setTop f).fitsSlot cI .none i v = true := by
    intro i v hv
    rw [Array.getElem?_replicate] at hv
    split at hv
    · cases hv
      simp [State.fitsSlot, State.slotType?, hkI, hkindI, fits]
    · cases hv
  have g1 : ¬ b.toNatClampNeg > e.platform.arrayLengthLimit := by omega
  have g2 : ¬ b.toNatClampNeg * componentBytes .int > e.platform.maxHeapBytes := by show ¬ _ * 4 > _; omega
  have g3 : ¬ b.toNatClampNeg > e.platform.maxSlots := by omega
  have hv : (S.setTop f).vm.classes[cI]? = some kI := hkI
  simp only [multianewarray.make, wp_bind', W.ite, hb, if_false, wp_pure', W.theClass, hv, hkindI, Option.some.injEq, exists_eq_left', Jvm.newArray, Jvm.arrayFits, W.ask, g1, g2, g3, W.alloc, Array.size_replicate]
  exact ⟨h3, h4, hf, hQ _ _⟩
-- the outer array, and its rows one by one
theorem mg_wp2 (hs : S.topJava?.isSome) (hkA : S.vm.classes[cA]? = some kA) (hkindA : kA.kind = .array cI (.array .int)) (hkI : S.vm.classes[cI]? = some kI) (hkindI : kI.kind = .array c0 .int) {a b : Int32} (ha : ¬ a < 0) (hb : ¬ b < 0) (h1 : a.toNatClampNeg ≤ e.platform.arrayLengthLimit) (h1b : b.toNatClampNeg ≤ e.platform.arrayLengthLimit) (h2 : a.toNatClampNeg * 4 ≤ e.platform.maxHeapBytes) (h2b : b.toNatClampNeg * 4 ≤ e.platform.maxHeapBytes)
    (h3 : S.heap.size + (1 + a.toNatClampNeg) ≤ e.platform.maxCells) (h4 : S.slotsUsed + (a.toNatClampNeg + a.toNatClampNeg * b.toNatClampNeg) ≤ e.platform.maxSlots) {f : JFrame} {d : Bool} {acts : List Action} {Q : Addr → Pre}
    (hQ : ∀ d' acts', Q S.heap.size d' acts' ((mg_st S cA cI a.toNatClampNeg b.toNatClampNeg a.toNatClampNeg).setTop f)) : wp (multianewarray.make cA [a, b]) Q E e d acts (S.setTop f) := by
  have hf : ∀ i v, (Array.replicate a.toNatClampNeg Value.null)[i]? = some v → (S.setTop f).fitsSlot cA .none i v = true := by
    intro i v hv
    rw [Array.getElem?_replicate] at hv
    split at hv
    · cases hv
      simp [State.fitsSlot, State.slotType?, hkA, hkindA, fits]
    · cases hv
  have g1 : ¬ a.toNatClampNeg > e.platform.arrayLengthLimit := by omega
  have g2 : ¬ a.toNatClampNeg * componentBytes (.array .int) > e.platform.maxHeapBytes := by show ¬ _ * 4 > _; omega
  have g3 : ¬ a.toNatClampNeg > e.platform.maxSlots := by omega
  have hv : (S.setTop f).vm.classes[cA]? = some kA := hkA
  have hfd : [b].find? (fun x => decide (x < 0)) = none := by simp [hb]
  unfold multianewarray.make
  simp only [wp_bind', W.ite, ha, if_false, wp_pure', W.theClass, hv, hkindA, Option.some.injEq, exists_eq_left', Jvm.newArray, Jvm.arrayFits, W.ask, g1, g2, g3, W.alloc, Array.size_replicate, hfd, ite_self]
  refine ⟨by show S.heap.size < _; omega, by show S.slotsUsed + _ ≤ _; omega, hf, ?_⟩
  rw [Std.Legacy.Range.forIn_eq_forIn_range']
  refine wp_forIn_inv (fun r s' => ∃ i, r = List.range' i (a.toNatClampNeg - i) 1 ∧ i ≤ a.toNatClampNeg ∧ s' = (mg_st S cA cI a.toNatClampNeg b.toNatClampNeg i).setTop f) _ _ ⟨0, ?_, Nat.zero_le _, ?_⟩ ?_ ?_
  · simp [Std.Legacy.Range.size]
  · show _ = (S.pushCell (mg_o cA a.toNatClampNeg S.heap.size 0)).setTop f
    rw [mg_o0]
    rfl
  · rintro x r s' d' acts' Q' ⟨i, hr, hi, rfl⟩ hk
    have hlt : i < a.toNatClampNeg := by
      rcases Nat.lt_or_ge i a.toNatClampNeg with h | h
      · exact h
      · rw [Nat.sub_eq_zero_of_le h] at hr
        cases hr
    rw [show a.toNatClampNeg - i = (a.toNatClampNeg - (i + 1)) + 1 by omega, List.range'_succ] at hr
    obtain ⟨rfl, rfl⟩ := List.cons.inj hr
    have hm : (x + 1) * b.toNatClampNeg ≤ a.toNatClampNeg * b.toNatClampNeg := Nat.mul_le_mul_right _ hlt
    rw [Nat.succ_mul] at hm
    have hsz := mg_size S cA cI a.toNatClampNeg b.toNatClampNeg x
    rw [wp_bind']
    refine mg_wp1 (S := mg_st S cA cI a.toNatClampNeg b.toNatClampNeg x) (by rw [mg_vm]; exact hkI) hkindI hb h1b h2b (by omega) (by rw [mg_used]; omega) fun d2 acts2 => ?_
    have hv2 : (((mg_st S cA cI a.toNatClampNeg b.toNatClampNeg x).pushCell (mg_i cI b.toNatClampNeg)).setTop f).vm.classes[cA]? = some kA := by
      show (mg_st S cA cI a.toNatClampNeg b.toNatClampNeg x).vm.classes[cA]? = _
      rw [mg_vm]
      exact hkA
    rw [wp_bind', W.writeLoc]
    refine ⟨mg_o cA a.toNatClampNeg S.heap.size x, ?_, fun h => (by cases h), by rw [mg_on]; exact hlt, ?_, ?_⟩
    · show ((mg_st S cA cI a.toNatClampNeg b.toNatClampNeg x).heap.push _)[S.heap.size]? = _
      rw [Array.getElem?_push, if_neg (by omega), mg_outer]
    · show State.fitsSlot _ cA .none x _ = true
      simp [State.fitsSlot, State.slotType?, State.vm_setTop, mg_vm, hkA, hkindA, fits]
    · rw [wp_pure']
      refine hk _ _ _ ⟨x + 1, rfl, hlt, ?_⟩
      show (((mg_st S cA cI a.toNatClampNeg b.toNatClampNeg x).pushCell (mg_i cI b.toNatClampNeg)).setCell S.heap.size ((mg_o cA a.toNatClampNeg S.heap.size x).setSlot x (.ref (mg_st S cA cI a.toNatClampNeg b.toNatClampNeg x).heap.size))).setTop f = _
      rw [hsz, mg_oS]
      rfl
  · rintro s' d' acts' ⟨i, hr, hi, rfl⟩
    have hl := congrArg List.length hr
    rw [List.length_range'] at hl
    have he : i = a.toNatClampNeg := by
      simp only [List.length_nil] at hl
      omega
    subst he
    rw [wp_pure']
    exact hQ _ _
-- the instruction, its class resolved
theorem mg_wp3 {index : Nat} (hs : S.topJava?.isSome) {f : JFrame} (hr : S.vm.classReady f.method.cls index cA) (hkA : S.vm.classes[cA]? = some kA) (hkindA : kA.kind = .array cI (.array .int)) (hkI : S.vm.classes[cI]? = some kI) (hkindI : kI.kind = .array c0 .int) {a b : Int32} {rest : List Value} (hstack : f.stack = .int b :: .int a :: rest) (ha : ¬ a < 0) (hb : ¬ b < 0) (h1 : a.toNatClampNeg ≤ e.platform.arrayLengthLimit) (h1b : b.toNatClampNeg ≤ e.platform.arrayLengthLimit) (h2 : a.toNatClampNeg * 4 ≤ e.platform.maxHeapBytes) (h2b : b.toNatClampNeg * 4 ≤ e.platform.maxHeapBytes)
    (h3 : S.heap.size + (1 + a.toNatClampNeg) ≤ e.platform.maxCells) (h4 : S.slotsUsed + (a.toNatClampNeg + a.toNatClampNeg * b.toNatClampNeg) ≤ e.platform.maxSlots) {d : Bool} {acts : List Action} {Q : Unit → Pre}
    (hQ : ∀ d' acts', Q () d' acts' ((mg_st S cA cI a.toNatClampNeg b.toNatClampNeg a.toNatClampNeg).setTop { f with stack := .ref S.heap.size :: rest })) : wp (multianewarray.sem index 2) Q E e d acts (S.setTop f) := by
  simp only [multianewarray.sem, wp_bind', W.resolveClassAt_ready (State.method?_setTop f hs) hr]
  refine (W.popN 2).mpr ?_
  rw [if_neg (by decide)]
  refine ⟨f, State.topJava?_setTop' _ hs, [.int a, .int b], rest, rfl, by rw [hstack]; rfl, ?_⟩
  simp only [List.mapM_cons, List.mapM_nil, wp_bind', wp_pure', State.setTop_setTop]
  refine mg_wp2 hs hkA hkindA hkI hkindI ha hb h1 h1b h2 h2b h3 h4 fun d' acts' => ?_
  rw [wp_bind', W.mark, W.pushRef]
  refine ⟨_, State.topJava?_setTop' _ (by rw [mg_top]; exact hs), ?_⟩
  rw [State.setTop_setTop]
  exact hQ _ _
end MW
section MS
variable {p : Program} {l : Launch} {e : Env} {R : Room} {s : State} {m : MethodId} {args : Array Value} {below : List Frame} {meth : Method} {c : Code} {T : State} {locs : List Loc} {cells slots : Nat}
theorem mg_stand (X : Stand p l e R s m args below meth c T locs cells slots) (cA cI : ClassId) (n k i : Nat) : Stand p l e R s m args below meth c (mg_st T cA cI n k i) (locs ++ mg_ls T.heap.size i) (cells + 1 + i) (slots + n + i * k) := by
  induction i with
  | zero =>
    have h := X.pushed (mg_o cA n T.heap.size 0)
    rw [mg_on] at h
    rw [Nat.zero_mul, show mg_ls T.heap.size 0 = [] from rfl, List.append_nil]
    exact h
  | succ i ih =>
    have h := (ih.pushed (mg_i cI k)).stored (a := T.heap.size) (cell := mg_o cA n T.heap.size i) (by
      show ((mg_st T cA cI n k i).heap.push _)[T.heap.size]? = _
      rw [Array.getElem?_push, mg_size, if_neg (by omega), mg_outer]) i (.ref (T.heap.size + 1 + i))
    rw [mg_oS, mg_in] at h
    rw [Nat.succ_mul, mg_ls, List.range_succ, List.map_append, ← List.append_assoc]
    rw [show slots + n + (i * k + k) = slots + n + i * k + k by omega]
    exact h
theorem mg_step (X : Stand p l e R s m args below meth c T locs cells slots) (hexec : p.tables.exec = Jvm.exec) {own : String} {index : Nat} (hown : s.vm.findClass own = some m.cls) (hclink : (Cond.classLink own index ("[" ++ (FieldType.array .int).toString)).before args s = true) (hover : (Cond.arrayOver (.array .int)).before args s = true) (harr : (Cond.arrayClass .int).before args s = true)
    {g : JFrame} (hg : g.method = m) (hdg : decode c.code g.pc = .ok (.multianewarray index 2, 4)) {a b : Int32} {rest : List Value} (hstack : g.stack = .int b :: .int a :: rest) (ha : ¬ a < 0) (hb : ¬ b < 0) (hba : a.toNatClampNeg * 4 ≤ 536870912) (hbb : b.toNatClampNeg * 4 ≤ 536870912) (hcells : cells + (1 + a.toNatClampNeg) ≤ R.cells) (hslots : slots + (a.toNatClampNeg + a.toNatClampNeg * b.toNatClampNeg) ≤ R.slots) :
    ∃ (U : State) (cA cI : ClassId), U.heap = T.heap ∧ s.vm.findClass ("[" ++ (FieldType.array .int).toString) = some cA ∧ s.vm.findClass ("[" ++ FieldType.int.toString) = some cI ∧
      Stand p l e R s m args below meth c (mg_st U cA cI a.toNatClampNeg b.toNatClampNeg a.toNatClampNeg) (locs ++ mg_ls T.heap.size a.toNatClampNeg) (cells + 1 + a.toNatClampNeg) (slots + a.toNatClampNeg + a.toNatClampNeg * b.toNatClampNeg) ∧
      ∀ target, Steps p.tables e below ((mg_st U cA cI a.toNatClampNeg b.toNatClampNeg a.toNatClampNeg).setTop { g with pc := g.pc + 4, stack := .ref T.heap.size :: rest }) target → Steps p.tables e below (T.setTop g) target := by
  subst hg
  have hpl : e.platform.magicAccessors = ({} : Platform).magicAccessors := by rw [X.admits.platform]
  obtain ⟨cI, cA, kA, hcI, -, hkA, hkindA, hnA⟩ := arrayOverA_spec hover
  obtain ⟨cI', kI, c0, hcI', hkI, hkindI⟩ := Cond.arrayClass_spec harr
  cases (hcI.symm.trans hcI' : some cI = some cI')
  obtain ⟨cA', hcA', hcl⟩ := Cond.classLink_spec hown hclink e.platform hpl
  cases hnA.symm.trans hcA'
  obtain ⟨hg₁, hwarm₁, hready₁⟩ := State.classEntry (e := e) X.warmed hcl
  generalize hvm : T.vm.noted g.method.cls index (.cls cA) = vm₁ at hg₁ hwarm₁ hready₁
  have hsz : vm₁.classes.size ≤ T.vm.classes.size := by subst hvm; no_record
  have hal : s.vm.Alike vm₁ := hwarm₁.alike
  obtain ⟨kA₁, hkA₁, heA⟩ := hal.2.2 _ _ hkA
  obtain ⟨kI₁, hkI₁, heI⟩ := hal.2.2 _ _ hkI
  have hkindA₁ : kA₁.kind = .array cI (.array .int) := by rw [heA]; exact hkindA
  have hkindI₁ : kI₁.kind = .array c0 .int := by rw [heI]; exact hkindI
  have q1 : a.toNatClampNeg ≤ e.platform.arrayLengthLimit := by rw [Launch.admits_arrayLengthLimit X.admits]; omega
  have q2 : b.toNatClampNeg ≤ e.platform.arrayLengthLimit := by rw [Launch.admits_arrayLengthLimit X.admits]; omega
  have q3 : a.toNatClampNeg * 4 ≤ e.platform.maxHeapBytes := by rw [Launch.admits_maxHeapBytes X.admits]; exact hba
  have q4 : b.toNatClampNeg * 4 ≤ e.platform.maxHeapBytes := by rw [Launch.admits_maxHeapBytes X.admits]; exact hbb
  obtain ⟨hr1, hr2⟩ := X.roomAbove hcells hslots
  refine ⟨T.setVm vm₁, cA, cI, rfl, hnA, hcI, mg_stand (X.noted hwarm₁) cA cI _ _ _, fun target ht => ?_⟩
  refine Steps.instr (c := c) X.here ?_
  rw [hdg, hexec]
  show wp (multianewarray.sem index 2) _ _ e false [] (T.setTop g)
  rw [show wp (multianewarray.sem index 2) _ _ e false [] (T.setTop g) ↔ wp (multianewarray.sem index 2) _ _ e false [] ((T.setVm vm₁).setTop g) by
    simp only [multianewarray.sem, wp_bind']
    exact W.resolveClassAt_transfer (s := T.setTop g) (State.method?_setTop g X.here.top) hg₁ hready₁ hsz]
  refine mg_wp3 (S := T.setVm vm₁) X.here.top hready₁ hkA₁ hkindA₁ hkI₁ hkindI₁ hstack ha hb q1 q2 q3 q4 hr1 hr2 fun d' acts' acts'' => ?_
  rw [afterInstr_ok]
  exact ht
end MS
-- the same as an operation of the small machine
def gmul (G : vG) (n k : Nat) : vG := (G.1 + (1 + n), G.2.1 + (n + n * k), (fun a => if a = G.1 then 103 else if G.1 < a ∧ a ≤ G.1 + n then 100 else gC G a), (fun a => if a = G.1 then n else if G.1 < a ∧ a ≤ G.1 + n then k else gL G a), (fun a j => if a = G.1 then (if j < n then some (G.1 + 1 + j) else none) else gR G a j))
def mmul (G : vG) (M : vM) (n : Nat) : vM := fun a => if G.1 ≤ a ∧ a ≤ G.1 + n then (fun _ => 0) else M a
def op_mna (lim : Nat × Nat) (k : vD) : vD := fun L st G M => match st with
  | .int b :: .int a :: r => if (G.1 + (1 + a.toNatClampNeg) ≤ lim.1 ∧ G.2.1 + (a.toNatClampNeg + a.toNatClampNeg * b.toNatClampNeg) ≤ lim.2 ∧ G.1 + (1 + a.toNatClampNeg) ≤ 1000) ∧ (0 ≤ a ∧ a.toNatClampNeg ≤ 3000) ∧ 0 ≤ b ∧ b.toNatClampNeg ≤ 3000 then k L (.ref G.1 :: r) (gmul G a.toNatClampNeg b.toNatClampNeg) (mmul G M a.toNatClampNeg) else none
  | _ => none
theorem Iv.more {D : va_G} {cx : Nat → ClassId} {ad : Nat → Nat} {A : Nat → Prop} {mc ms : Nat} {g0 : vG} {s : State} {H : Heap} {locs extra : List Loc} {G : vG} {M : vM} (h : Iv D cx ad A mc ms g0 s H locs G M) (hx : ∀ q ∈ extra, A q.base) : Iv D cx ad A mc ms g0 s H (locs ++ extra) G M := by
  obtain ⟨hP, hD, hS, hr⟩ := h
  exact ⟨hP, hD, ⟨hS.1, hS.2.1, fun q hq => (List.mem_append.mp hq).elim (hS.2.2 q) (hx q)⟩, hr⟩
theorem s_mna {y : MethodName} {cc : ByteArray} {nL : Nat} {ret : Option FieldType} {lev mc ms : Nat} {g0 : vG} {pc pc' : Nat} {k : vD} {index : Nat} (hw : Cond.classLink y.cls index ("[" ++ (FieldType.array .int).toString) ∈ lw_good) (hw2 : Cond.arrayClass .int ∈ lw_good) (hmc : mc ≠ 0) (hd : decode cc pc = .ok (.multianewarray index 2, 4)) (hp : pc + 4 = pc') (hk : Snd y cc nL ret lev mc ms g0 pc' k) : Snd y cc nL ret lev mc ms g0 pc (op_mna (g0.1 + mc, g0.2.1 + ms) k) := by
  subst hp
  intro p l e s m args below meth c D cx ad A F H locs ls L st G M hI hL out ho
  obtain ⟨hx, hb, -, hown, hts, -, -, -, hK, hA, -, hN⟩ := id F
  unfold op_mna at ho
  split at ho
  · next b a r =>
    split at ho
    · next hg =>
      have hi := hI.2.2.2.1
      refine Rs.go hk F ho (fun Q kk => ?_)
      intro T hT Xs
      obtain ⟨U, cA, comp, hU, fA, fC, X', step⟩ := mg_step Xs hx hown (hts _ hw) (over_moved (Vm.Alike.refl _) hN.2.2.2) (hts _ hw2) (g := F0 m pc ls (.int b :: .int a :: r.map (cvA ad))) rfl (by rw [hb]; exact hd) rfl (Int32.not_lt.mpr hg.2.1.1) (Int32.not_lt.mpr hg.2.2.1) (by omega) (by omega) (by show _ ≤ mc; have := hg.1.1; simp only at this; omega) (by show _ ≤ ms; have := hg.1.2.1; simp only at this; omega)
      have hUh : U.heap = H := hU.trans hT
      have f1 := mg_size U cA comp a.toNatClampNeg b.toNatClampNeg a.toNatClampNeg
      have f2 := mg_outer U cA comp a.toNatClampNeg b.toNatClampNeg a.toNatClampNeg
      have hold : ∀ x : Nat, x < H.size → (mg_st U cA comp a.toNatClampNeg b.toNatClampNeg a.toNatClampNeg).heap[x]? = H[x]? := fun x hx => by
        rw [mg_old U cA comp a.toNatClampNeg b.toNatClampNeg a.toNatClampNeg x (by rw [hUh]; exact hx), hUh]
      have hrow : ∀ j : Nat, j < a.toNatClampNeg → (mg_st U cA comp a.toNatClampNeg b.toNatClampNeg a.toNatClampNeg).heap[H.size + 1 + j]? = some (vp_cell comp (b.toNatClampNeg, .inl (fun _ => 0))) := fun j hj => by
        have := mg_row U cA comp a.toNatClampNeg b.toNatClampNeg a.toNatClampNeg j hj
        rw [hUh] at this
        rw [this, vp_cell_i]
        show some ({ cls := comp, slots := Array.replicate b.toNatClampNeg (.int 0), vm := .none } : Cell) = _
        rw [arrV_new]
      rw [hUh] at f1 f2
      rw [hT] at X'
      unfold mg_o at f2
      generalize mg_st U cA comp a.toNatClampNeg b.toNatClampNeg a.toNatClampNeg = Fl at X' step f1 f2 hold hrow
      have hcA : cA = cx 3 := by
        have h2 : s.vm.findClass ("[" ++ (FieldType.array .int).toString) = some (cx 3) := (hK.2 3 _ rfl).2
        exact Option.some.inj (fA.symm.trans h2)
      have hcI : comp = cx 0 := by
        have h2 : s.vm.findClass ("[" ++ FieldType.int.toString) = some (cx 0) := (hK.2 0 _ rfl).2
        exact Option.some.inj (fC.symm.trans h2)
      subst hcA hcI
      have had : ∀ j, j ≤ a.toNatClampNeg → ad (G.1 + j) = H.size + j := fun j hj => hI.2.2.2.2.2 hmc j (by omega)
      have hsz : Fl.heap.size = H.size + (1 + a.toNatClampNeg) := by rw [f1]; omega
      have hI0 : Iv D cx ad A mc ms g0 s Fl.heap locs (gmul G a.toNatClampNeg b.toNatClampNeg) (mmul G M a.toNatClampNeg) := by
        refine hI.push (n := 1 + a.toNatClampNeg) (sl := a.toNatClampNeg + a.toNatClampNeg * b.toNatClampNeg) hA hmc rfl rfl hsz hold (fun x hx => ?_) (fun j hj => ?_) hg.1.2.2 ⟨hg.1.1, hg.1.2.1⟩
        · have n1 : ¬ x = G.1 := by omega
          have n2 : ¬ (G.1 < x ∧ x ≤ G.1 + a.toNatClampNeg) := by omega
          have n3 : ¬ (G.1 ≤ x ∧ x ≤ G.1 + a.toNatClampNeg) := by omega
          exact wE_G (by simp [gC, gmul, n1, n2]) (by simp [gL, gmul, n1, n2]) (fun _ => by simp [gR, gmul, n1]) (by simp [mmul, n3])
        · by_cases hj0 : j = 0
          · subst hj0
            rw [Nat.add_zero, Nat.add_zero, wE_r (t := 3) (by simp [gC, gmul]) (by decide)]
            show _ = some (vp_cell _ _)
            rw [vp_cell_q]
            have e1 : gL (gmul G a.toNatClampNeg b.toNatClampNeg) G.1 = a.toNatClampNeg := by simp [gL, gmul]
            rw [e1, f2]
            congr 2
            funext j
            congr 1
            by_cases h : j < a.toNatClampNeg
            · have := had (1 + j) (by omega)
              simp [gR, gmul, h]
              rw [show G.1 + 1 + j = G.1 + (1 + j) by omega, this]
              omega
            · simp [gR, gmul, h]
          · have n1 : ¬ G.1 + j = G.1 := by omega
            have n2 : G.1 < G.1 + j ∧ G.1 + j ≤ G.1 + a.toNatClampNeg := by omega
            have n3 : G.1 ≤ G.1 + j ∧ G.1 + j ≤ G.1 + a.toNatClampNeg := by omega
            have e2 : gC (gmul G a.toNatClampNeg b.toNatClampNeg) (G.1 + j) = 100 := by
              show (if G.1 + j = G.1 then 103 else if G.1 < G.1 + j ∧ G.1 + j ≤ G.1 + a.toNatClampNeg then 100 else gC G (G.1 + j)) = 100
              rw [if_neg n1, if_pos n2]
            have e3 : gL (gmul G a.toNatClampNeg b.toNatClampNeg) (G.1 + j) = b.toNatClampNeg := by
              show (if G.1 + j = G.1 then _ else if G.1 < G.1 + j ∧ G.1 + j ≤ G.1 + a.toNatClampNeg then b.toNatClampNeg else gL G (G.1 + j)) = b.toNatClampNeg
              rw [if_neg n1, if_pos n2]
            have e4 : mmul G M a.toNatClampNeg (G.1 + j) = fun _ => 0 := if_pos n3
            rw [wE_i e2, e3, e4]
            have := hrow (j - 1) (by omega)
            rw [show H.size + 1 + (j - 1) = H.size + j by omega] at this
            exact this
      have hI1 := Iv.more hI0 (extra := mg_ls H.size a.toNatClampNeg) (fun q hq => by
        obtain ⟨j, -, rfl⟩ := List.mem_map.mp hq
        exact hA _ hI.2.2.1.1)
      have c1 : (gmul G a.toNatClampNeg b.toNatClampNeg).1 - g0.1 = G.1 - g0.1 + 1 + a.toNatClampNeg := by show G.1 + (1 + a.toNatClampNeg) - g0.1 = _; omega
      have c2 : (gmul G a.toNatClampNeg b.toNatClampNeg).2.1 - g0.2.1 = G.2.1 - g0.2.1 + a.toNatClampNeg + a.toNatClampNeg * b.toNatClampNeg := by show G.2.1 + (a.toNatClampNeg + a.toNatClampNeg * b.toNatClampNeg) - g0.2.1 = _; omega
      have h9 := kk Fl.heap (locs ++ mg_ls H.size a.toNatClampNeg) ls hI1 hL
      rw [c1, c2] at h9
      have had0 : ad G.1 = H.size := had 0 (by omega)
      simp only [List.map_cons, cvA, had0] at h9
      obtain ⟨t, a1, b1⟩ := h9 Fl rfl X'
      refine ⟨t, step t ?_, b1⟩
      rw [hT]
      exact a1
    · cases ho
  · cases ho
