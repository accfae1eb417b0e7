/-! ===== THE ABSTRACT MACHINE: a fragment of a method as a function over small states (locals, stack, shape, numbers); 'Snd': the machine follows it ===== -/
def lw_good : List Cond := lw_tbl.filter goodWord
/-- numbers by object and place; the shape: how many objects, how many slots, the kind of each (0..10 a class of vwCl, 100 int[], 101 Sheet[], 102 Image[], 103 int[][]), the length, the references -/
abbrev vM : Type := Nat → Nat → Int32
abbrev vG : Type := Nat × Nat × (Nat → Nat) × (Nat → Nat) × (Nat → Nat → Option Nat)
abbrev vL : Type := List (Option Value)
abbrev vJ : Type := Nat × vL × List Value × vG × vM
abbrev vR : Type := Option Value × vG × vM
abbrev vD : Type := vL → List Value → vG → vM → Option (vJ ⊕ vR)
abbrev vF : Type := List Value → vG → vM → Option vR
def gC (g : vG) (a : Nat) : Nat := g.2.2.1 a
def gL (g : vG) (a : Nat) : Nat := g.2.2.2.1 a
def gR (g : vG) (a k : Nat) : Option Nat := g.2.2.2.2 a k
def nF (c : Nat) : Nat := [3, 4, 6, 3, 3, 3, 1, 4, 4, 8, 18].getD c 0
def rFt : List (List Bool) := [[false, false, true], [false, true, true, true], [false, true, true, false, true, true], [false, false, true], [false, false, true], [false, true, true], [true], [false, false, true, true], [false, true, true, true], [true, true, true, true, true, true, true, false], [true, false, false, false, true, true, true, true, false, true, true, true, false, true, true, true, false, false]]
def rF (c k : Nat) : Bool := (rFt.getD c []).getD k false
def cvA (ad : Nat → Nat) (v : Value) : Value := match v with
  | .ref a => .ref (ad a)
  | w => w
def fO (ad : Nat → Nat) (g : vG) (M : vM) (c a : Nat) : List Value := (List.range (nF c)).map (fun k => if rF c k then va_rf ((gR g a k).map ad) else .int (M a k))
def wE (cx : Nat → ClassId) (ad : Nat → Nat) (g : vG) (M : vM) (a : Nat) : va_E :=
  if gC g a < 100 then .inr (gC g a, fO ad g M (gC g a) a)
  else if gC g a = 100 then .inl (cx 0, gL g a, .inl (M a))
  else .inl (cx (gC g a - 100), gL g a, .inr (.inr (.inr (.inr (fun j => (gR g a j).map ad)))))
def wW (cx : Nat → ClassId) (ad : Nat → Nat) (g : vG) (M : vM) : va_W := (List.range g.1).map (fun a => (ad a, wE cx ad g M a))
def mset (M : vM) (a k : Nat) (v : Int32) : vM := fun b => if b = a then upd (M a) k v else M b
def mcpy (M : vM) (s d sp dp n : Nat) : vM := fun b => if b = d then va_cpy (M s) (M d) sp dp n else M b
theorem wW_at {cx : Nat → ClassId} {ad : Nat → Nat} {g : vG} {M : vM} {a : Nat} (h : a < g.1) : (wW cx ad g M)[a]? = some (ad a, wE cx ad g M a) := by
  simp [wW, h]
theorem wW_lt {cx : Nat → ClassId} {ad : Nat → Nat} {g : vG} {M : vM} {a : Nat} {q : Nat × va_E} (h : (wW cx ad g M)[a]? = some q) : a < g.1 ∧ q = (ad a, wE cx ad g M a) := by
  have hl : a < g.1 := by
    have := (List.getElem?_eq_some_iff.mp h).1
    simpa [wW] using this
  rw [wW_at hl] at h
  exact ⟨hl, (Option.some.inj h).symm⟩
theorem wE_o {cx : Nat → ClassId} {ad : Nat → Nat} {g : vG} {M : vM} {a c : Nat} (h : gC g a = c) (hc : c < 100) : wE cx ad g M a = .inr (c, fO ad g M c a) := by
  subst h
  simp [wE, hc]
theorem wE_i {cx : Nat → ClassId} {ad : Nat → Nat} {g : vG} {M : vM} {a : Nat} (h : gC g a = 100) : wE cx ad g M a = .inl (cx 0, gL g a, .inl (M a)) := by
  simp [wE, h]
theorem wE_r {cx : Nat → ClassId} {ad : Nat → Nat} {g : vG} {M : vM} {a t : Nat} (h : gC g a = 100 + t) (ht : 0 < t) : wE cx ad g M a = .inl (cx t, gL g a, .inr (.inr (.inr (.inr (fun j => (gR g a j).map ad))))) := by
  have h1 : ¬ 100 + t < 100 := by omega
  have h2 : ¬ 100 + t = 100 := by omega
  unfold wE
  rw [h, if_neg h1, if_neg h2, Nat.add_sub_cancel_left]
/-- a world with one cell anew is the world of other numbers -/
theorem wW_set {cx : Nat → ClassId} {ad : Nat → Nat} {g g' : vG} {M M' : vM} {a : Nat} {e : va_E} (hn : g'.1 = g.1) (he : wE cx ad g' M' a = e) (ho : ∀ b, b ≠ a → wE cx ad g' M' b = wE cx ad g M b) : (wW cx ad g M).set a (ad a, e) = wW cx ad g' M' := by
  apply List.ext_getElem?
  intro i
  by_cases hi : i < g.1
  · rw [wW_at (g := g') (by omega)]
    by_cases h : i = a
    · subst h
      rw [List.getElem?_set_self (by simpa [wW] using hi), he]
    · rw [List.getElem?_set_ne (fun q => h q.symm), wW_at hi, ho i h]
  · rw [List.getElem?_eq_none (by simp [wW]; omega), List.getElem?_eq_none (by simp [wW]; omega)]
theorem wE_M {cx : Nat → ClassId} {ad : Nat → Nat} {g : vG} {M M' : vM} {b : Nat} (h : M' b = M b) : wE cx ad g M' b = wE cx ad g M b := by
  unfold wE fO
  rw [h]
theorem mset_ne {M : vM} {a k b : Nat} {v : Int32} (h : b ≠ a) : mset M a k v b = M b := if_neg h
theorem mset_eq {M : vM} {a k : Nat} {v : Int32} : mset M a k v a = upd (M a) k v := if_pos rfl
theorem mcpy_ne {M : vM} {s d sp dp n b : Nat} (h : b ≠ d) : mcpy M s d sp dp n b = M b := if_neg h
theorem mcpy_eq {M : vM} {s d sp dp n : Nat} : mcpy M s d sp dp n d = va_cpy (M s) (M d) sp dp n := if_pos rfl
theorem fO_len {ad : Nat → Nat} {g : vG} {M : vM} {c a : Nat} : (fO ad g M c a).length = nF c := by simp [fO]
theorem fO_at {ad : Nat → Nat} {g : vG} {M : vM} {c a k : Nat} (h : k < nF c) : (fO ad g M c a)[k]? = some (if rF c k then va_rf ((gR g a k).map ad) else .int (M a k)) := by simp [fO, h]
theorem fO_set {ad : Nat → Nat} {g : vG} {M : vM} {c a k : Nat} {v : Int32} (hk : k < nF c) (hr : rF c k = false) : (fO ad g M c a).set k (.int v) = fO ad g (mset M a k v) c a := by
  apply List.ext_getElem?
  intro i
  by_cases hi : i < nF c
  · rw [fO_at hi]
    by_cases h : i = k
    · subst h
      rw [List.getElem?_set_self (by rw [fO_len]; exact hi), hr, mset_eq]
      simp [upd]
    · rw [List.getElem?_set_ne (fun q => h q.symm), fO_at hi, mset_eq]
      simp [upd, h]
  · rw [List.getElem?_eq_none (by rw [List.length_set, fO_len]; omega), List.getElem?_eq_none (by rw [fO_len]; omega)]
def tyL (cx : Nat → ClassId) : List (ClassId × FieldType) := [(cx 0, .int), (cx 1, .object "StyleFamilies$Sheet"), (cx 2, .object "StyleFamilies$Image"), (cx 3, .array .int)]
def sN (t : Nat) : String := ["SHIFT", "MASK", "TOP", "RANDOM_STEP"].getD t ""
def sVt : List (List Int32) := [[23, 22, 15, 8, 4, 0], [1, 1, 127, 127, 15, 15], [1, 1, 99, 99, 9, 9], [1, 1, 5, 5, 2, 2]]
def sV (t j : Nat) : Int32 := (sVt.getD t []).getD j 0
/-- the four static arrays: abstract references 1000 to 1003 -/
def Stt (ad : Nat → Nat) (A : Nat → Prop) (U : State) (H : Heap) : Prop := ∀ t, t < 4 → va_Z "StyleFamilies$Values" (sN t) "[I" (.ref (ad (1000 + t))) A U H ∧ va_X (ad (1000 + t)) 6 (sV t) U H ∧ ¬ A (ad (1000 + t))
def lw_nst : List Cond := lw_tbl.filter (fun w => match w with | .methodLinkNest .. => true | _ => false)
def Nst (U : State) : Prop := (∀ w ∈ lw_nst, va_Nw w U) ∧ va_AO "StyleFamilies$Sheet" U ∧ va_AO "StyleFamilies$Image" U ∧ (Cond.arrayOver (.array .int)).before #[] U = true
def rmL (lev mc ms : Nat) : Room := { frames := lev, cells := mc, slots := ms, locals := 36 * lev }
/-- the world at a state: the cells, apart, the tables, what is free -/
def Wd (D : va_G) (cx : Nat → ClassId) (ad : Nat → Nat) (A : Nat → Prop) (mc : Nat) (g : vG) (M : vM) (sz : Nat) (U : State) : Prop :=
  U.heap.size = sz ∧ va_P D vwCl (wW cx ad g M) U.heap ∧ va_D A (wW cx ad g M) ∧ va_K D vwCl (tyL cx) U ∧ (∀ q, sz ≤ q → A q) ∧ Stt ad A U U.heap ∧ Nst U ∧ (mc ≠ 0 → ∀ j, g.1 + j < 1000 → ad (g.1 + j) = sz + j)
def PoC (D : va_G) (cx : Nat → ClassId) (ad : Nat → Nat) (A : Nat → Prop) (mc ms : Nat) (g0 : vG) (v : Option Value) (g : vG) (M : vM) : Array Value → State → Outcome → State → Prop := fun _ st oc t =>
  oc = .returned (v.map (cvA ad)) ∧ (g.1 = g0.1 + mc ∧ g.2.1 = g0.2.1 + ms ∧ (mc = 0 → g = g0)) ∧ va_P D vwCl (wW cx ad g M) t.heap ∧ va_D A (wW cx ad g M) ∧ t.heap.size = st.heap.size + mc ∧ va_F A st t
/-- a method's contract: what its function says, it does -/
def Ctr (y : MethodName) (cc : ByteArray) (nL : Nat) (ret : Option FieldType) (lev mc ms : Nat) (f : vF) : Prop :=
  ∀ (l : Launch) (D : va_G) (cx : Nat → ClassId) (ad : Nat → Nat) (A : Nat → Prop) (sz : Nat) (as : List Value) (g : vG) (M : vM) (v : Option Value) (g' : vG) (M' : vM), f as g M = some (v, g', M') →
    Met l y (.code y cc nL ret :: lw_good) (rmL lev mc ms) (va_Pc (as.map (cvA ad)) (Wd D cx ad A mc g M sz)) (PoC D cx ad A mc ms g v g' M') mc ms A
/-- locals -/
def lR (ad : Nat → Nat) (L : vL) (ls : Array Slot) (nL : Nat) : Prop := ls.size = nL ∧ lv_wf ls ∧ ∀ (i : Nat) (v : Value), L[i]? = some (some v) → ls[i]? = some (.val (cvA ad v))
def Fx (p : Program) (s : State) (m : MethodId) (args : Array Value) (meth : Method) (c : Code) (D : va_G) (cx : Nat → ClassId) (ad : Nat → Nat) (A : Nat → Prop) (y : MethodName) (cc : ByteArray) (nL : Nat) (ret : Option FieldType) : Prop :=
  p.tables.exec = Jvm.exec ∧ c.code = cc ∧ c.maxLocals = nL ∧ s.vm.findClass y.cls = some m.cls ∧ (∀ w ∈ lw_good, w.before args s = true) ∧ meth.sig.returnType = ret ∧ meth.locks = false ∧ meth.name = y.name ∧ va_K D vwCl (tyL cx) s ∧ (∀ q, s.heap.size ≤ q → A q) ∧ Stt ad A s s.heap ∧ Nst s
def Iv (D : va_G) (cx : Nat → ClassId) (ad : Nat → Nat) (A : Nat → Prop) (mc ms : Nat) (g0 : vG) (s : State) (H : Heap) (locs : List Loc) (G : vG) (M : vM) : Prop :=
  va_P D vwCl (wW cx ad G M) H ∧ va_D A (wW cx ad G M) ∧ va_S A s.heap H locs ∧ (g0.1 ≤ G.1 ∧ H.size = s.heap.size + (G.1 - g0.1) ∧ g0.2.1 ≤ G.2.1 ∧ G.1 ≤ g0.1 + mc ∧ G.2.1 ≤ g0.2.1 + ms) ∧ (mc = 0 → G = g0) ∧ (mc ≠ 0 → ∀ j, G.1 + j < 1000 → ad (G.1 + j) = H.size + j)
def Rs (p : Program) (l : Launch) (e : Env) (s : State) (m : MethodId) (args : Array Value) (below : List Frame) (meth : Method) (c : Code) (D : va_G) (cx : Nat → ClassId) (ad : Nat → Nat) (A : Nat → Prop) (nL lev mc ms : Nat) (g0 : vG) (H : Heap) (locs : List Loc) (G : vG) (g : JFrame) (out : vJ ⊕ vR) : Prop := match out with
  | .inl (pc', L', st', G', M') => ∀ Q : State → Prop, (∀ (H' : Heap) (locs' : List Loc) (ls' : Array Slot), Iv D cx ad A mc ms g0 s H' locs' G' M' → lR ad L' ls' nL → W p l e (rmL lev mc ms) s m args below meth c H' locs' (G'.1 - g0.1) (G'.2.1 - g0.2.1) Q (F0 m pc' ls' (st'.map (cvA ad)))) → W p l e (rmL lev mc ms) s m args below meth c H locs (G.1 - g0.1) (G.2.1 - g0.2.1) Q g
  | .inr (v, G', M') => W p l e (rmL lev mc ms) s m args below meth c H locs (G.1 - g0.1) (G.2.1 - g0.2.1) (MQ below (PoC D cx ad A mc ms g0 v G' M') args s mc ms A) g
/-- the machine follows the fragment d from pc on -/
def Snd (y : MethodName) (cc : ByteArray) (nL : Nat) (ret : Option FieldType) (lev mc ms : Nat) (g0 : vG) (pc : Nat) (d : vD) : Prop :=
  ∀ (p : Program) (l : Launch) (e : Env) (s : State) (m : MethodId) (args : Array Value) (below : List Frame) (meth : Method) (c : Code) (D : va_G) (cx : Nat → ClassId) (ad : Nat → Nat) (A : Nat → Prop), Fx p s m args meth c D cx ad A y cc nL ret →
    ∀ (H : Heap) (locs : List Loc) (ls : Array Slot) (L : vL) (st : List Value) (G : vG) (M : vM), Iv D cx ad A mc ms g0 s H locs G M → lR ad L ls nL →
      ∀ out, d L st G M = some out → Rs p l e s m args below meth c D cx ad A nL lev mc ms g0 H locs G (F0 m pc ls (st.map (cvA ad))) out
-- the operations
def op_con (x : Int32) (k : vD) : vD := fun L st G M => k L (.int x :: st) G M
def op_ild (i : Nat) (k : vD) : vD := fun L st G M => match L.getD i none with
  | some (.int x) => k L (.int x :: st) G M
  | _ => none
def op_ald (i : Nat) (k : vD) : vD := fun L st G M => match L.getD i none with
  | some (.ref x) => k L (.ref x :: st) G M
  | _ => none
/-- a value of two slots stands just ahead -/
def lgb (L : vL) (i : Nat) : Bool := match i with
  | 0 => false
  | j + 1 => match L.getD j none with
    | some v => v.category == 2
    | none => false
def op_ist (i : Nat) (k : vD) : vD := fun L st G M => match st with
  | .int x :: r => if lgb L i then none else k (L.set i (some (.int x))) r G M
  | _ => none
def op_inc (i : Nat) (n : Int32) (k : vD) : vD := fun L st G M => match L.getD i none with
  | some (.int x) => if lgb L i then none else k (L.set i (some (.int (x + n)))) st G M
  | _ => none
def op_bin (f : Int32 → Int32 → Int32) (k : vD) : vD := fun L st G M => match st with
  | .int y :: .int x :: r => k L (.int (f x y) :: r) G M
  | _ => none
def op_div (f : Int32 → Int32 → Int32) (k : vD) : vD := fun L st G M => match st with
  | .int y :: .int x :: r => if y = 0 then none else k L (.int (f x y) :: r) G M
  | _ => none
def op_dup (k : vD) : vD := fun L st G M => match st with
  | v :: r => if v.category = 1 then k L (v :: v :: r) G M else none
  | _ => none
def op_dup2 (k : vD) : vD := fun L st G M => match st with
  | v :: w :: r => if v.category = 1 ∧ w.category = 1 then k L (v :: w :: v :: w :: r) G M else none
  | _ => none
def op_pop (k : vD) : vD := fun L st G M => match st with
  | v :: r => if v.category = 1 then k L r G M else none
  | _ => none
def op_ifeq (kt kf : vD) : vD := fun L st G M => match st with
  | .int x :: r => if x = 0 then kt L r G M else kf L r G M
  | _ => none
def op_ifne (kt kf : vD) : vD := fun L st G M => match st with
  | .int x :: r => if x = 0 then kf L r G M else kt L r G M
  | _ => none
def op_iflt (kt kf : vD) : vD := fun L st G M => match st with
  | .int x :: r => if x < 0 then kt L r G M else kf L r G M
  | _ => none
def op_ifge (kt kf : vD) : vD := fun L st G M => match st with
  | .int x :: r => if 0 ≤ x then kt L r G M else kf L r G M
  | _ => none
def op_ifgt (kt kf : vD) : vD := fun L st G M => match st with
  | .int x :: r => if 0 < x then kt L r G M else kf L r G M
  | _ => none
def op_ifle (kt kf : vD) : vD := fun L st G M => match st with
  | .int x :: r => if x ≤ 0 then kt L r G M else kf L r G M
  | _ => none
def op_iceq (kt kf : vD) : vD := fun L st G M => match st with
  | .int y :: .int x :: r => if x = y then kt L r G M else kf L r G M
  | _ => none
def op_icne (kt kf : vD) : vD := fun L st G M => match st with
  | .int y :: .int x :: r => if x = y then kf L r G M else kt L r G M
  | _ => none
def op_iclt (kt kf : vD) : vD := fun L st G M => match st with
  | .int y :: .int x :: r => if x < y then kt L r G M else kf L r G M
  | _ => none
def op_icge (kt kf : vD) : vD := fun L st G M => match st with
  | .int y :: .int x :: r => if y ≤ x then kt L r G M else kf L r G M
  | _ => none
def op_icgt (kt kf : vD) : vD := fun L st G M => match st with
  | .int y :: .int x :: r => if y < x then kt L r G M else kf L r G M
  | _ => none
def op_icle (kt kf : vD) : vD := fun L st G M => match st with
  | .int y :: .int x :: r => if x ≤ y then kt L r G M else kf L r G M
  | _ => none
def op_jmp (pc : Nat) : vD := fun L st G M => some (.inl (pc, L, st, G, M))
def op_seq (pj : Nat) (a b : vD) : vD := fun L st G M => match a L st G M with
  | some (.inl (p, L', st', G', M')) => if p = pj then b L' st' G' M' else some (.inl (p, L', st', G', M'))
  | o => o
def op_loop (ph : Nat) (b : vD) : Nat → vD
  | 0 => fun _ _ _ _ => none
  | n + 1 => fun L st G M => match b L st G M with
    | some (.inl (p, L', st', G', M')) => if p = ph then op_loop ph b n L' st' G' M' else some (.inl (p, L', st', G', M'))
    | o => o
/-- forget locals: keep those of which the list says true -/
def op_kil (ks : List Bool) (k : vD) : vD := fun L st G M => k (List.zipWith (fun b v => if b then v else none) ks L) st G M
def op_ret : vD := fun _ st G M => match st with
  | [.int x] => some (.inr (some (.int x), G, M))
  | _ => none
def op_zret : vD := fun _ st G M => match st with
  | [.int x] => if x = 0 ∨ x = 1 then some (.inr (some (.int x), G, M)) else none
  | _ => none
def op_vret : vD := fun _ st G M => match st with
  | [] => some (.inr (none, G, M))
  | _ => none
def op_aret : vD := fun _ st G M => match st with
  | [.ref x] => some (.inr (some (.ref x), G, M))
  | _ => none
/-- the object is there and of that kind -/
def gAt (G : vG) (a c : Nat) : Bool := decide (a < G.1) && (gC G a == c)
def op_gfi (c j : Nat) (k : vD) : vD := fun L st G M => match st with
  | .ref a :: r => if gAt G a c then k L (.int (M a j) :: r) G M else none
  | _ => none
def op_gfr (c j : Nat) (k : vD) : vD := fun L st G M => match st with
  | .ref a :: r => if gAt G a c then (match gR G a j with
    | some b => k L (.ref b :: r) G M
    | none => none) else none
  | _ => none
def op_pfi (c j : Nat) (k : vD) : vD := fun L st G M => match st with
  | .int x :: .ref a :: r => if gAt G a c then k L r G (mset M a j x) else none
  | _ => none
/-- the index is within -/
def inB (i : Int32) (n : Nat) : Bool := decide (0 ≤ i) && decide (i.toNatClampNeg < n)
def op_ial (k : vD) : vD := fun L st G M => match st with
  | .int i :: .ref a :: r => if gAt G a 100 && inB i (gL G a) then k L (.int (M a i.toNatClampNeg) :: r) G M else none
  | _ => none
def op_ias (k : vD) : vD := fun L st G M => match st with
  | .int x :: .int i :: .ref a :: r => if gAt G a 100 && inB i (gL G a) then k L r G (mset M a i.toNatClampNeg x) else none
  | _ => none
def op_aal (t : Nat) (k : vD) : vD := fun L st G M => match st with
  | .int i :: .ref a :: r => if gAt G a (100 + t) && inB i (gL G a) then (match gR G a i.toNatClampNeg with
    | some b => k L (.ref b :: r) G M
    | none => none) else none
  | _ => none
def op_gst (t : Nat) (k : vD) : vD := fun L st G M => k L (.ref (1000 + t) :: st) G M
def op_sal (t : Nat) (k : vD) : vD := fun L st G M => match st with
  | .int i :: .ref a :: r => if a = 1000 + t ∧ inB i 6 = true then k L (.int (sV t i.toNatClampNeg) :: r) G M else none
  | _ => none
def op_cal (n : Nat) (f : vF) (k : vD) : vD := fun L st G M => if n ≤ st.length ∧ st.length ≤ n + 4 then (match f (st.take n).reverse G M with
  | some (some v, G', M') => k L (v :: st.drop n) G' M'
  | some (none, G', M') => k L (st.drop n) G' M'
  | none => none) else none
def op_calV (c n : Nat) (f : vF) (k : vD) : vD := fun L st G M => match st.drop n with
  | .ref a :: r => if gAt G a c ∧ r.length ≤ 4 then (match f (.ref a :: (st.take n).reverse) G M with
    | some (some v, G', M') => k L (v :: r) G' M'
    | some (none, G', M') => k L r G' M'
    | none => none) else none
  | _ => none
def op_acp (k : vD) : vD := fun L st G M => match st with
  | .int n :: .int dp :: .ref d :: .int sp :: .ref a :: r => if gAt G a 100 && gAt G d 100 && decide (0 ≤ n) && decide (0 ≤ dp) && decide (0 ≤ sp) && decide (sp.toNatClampNeg + n.toNatClampNeg ≤ gL G a) && decide (dp.toNatClampNeg + n.toNatClampNeg ≤ gL G d) && decide (r.length ≤ 4) then k L r G (mcpy M a d sp.toNatClampNeg dp.toNatClampNeg n.toNatClampNeg) else none
  | _ => none
def en (as : List Value) (nL : Nat) : vL := as.map some ++ List.replicate (nL - as.length) none
def runD (d : vD) (nL : Nat) : vF := fun as G M => if as.length ≤ nL ∧ as.all (fun v => v.category == 1) = true then (match d (en as nL) [] G M with
  | some (.inr r) => some r
  | _ => none) else none
