/-! ===== the law's own method: fragments that read the script (abstract reference 2000) ===== -/
def op_scl (xs : Nat → Int32) (Ls : Nat) (k : vD) : vD := fun L st G M => match st with
  | .int i :: .ref a :: r => if a = 2000 ∧ inB i Ls = true then k L (.int (xs i.toNatClampNeg) :: r) G M else none
  | _ => none
def op_sln (Ls : Nat) (k : vD) : vD := fun L st G M => match st with
  | .ref a :: r => if a = 2000 then k L (.int (nI Ls) :: r) G M else none
  | _ => none
def op_ast (i : Nat) (k : vD) : vD := fun L st G M => match st with
  | .ref x :: r => if lgb L i then none else k (L.set i (some (.ref x))) r G M
  | _ => none
def Scr (xs : Nat → Int32) (Ls : Nat) (ad : Nat → Nat) (A : Nat → Prop) (s : State) : Prop := va_X (ad 2000) Ls xs s s.heap ∧ ad 2000 < s.heap.size ∧ ¬ A (ad 2000)
def SnT (xs : Nat → Int32) (Ls : Nat) (y : MethodName) (cc : ByteArray) (nL : Nat) (ret : Option FieldType) (lev mc ms : Nat) (g0 : vG) (pc : Nat) (d : vD) : Prop :=
  ∀ (p : Program) (l : Launch) (e : Env) (s : State) (m : MethodId) (args : Array Value) (below : List Frame) (meth : Method) (c : Code) (D : va_G) (cx : Nat → ClassId) (ad : Nat → Nat) (A : Nat → Prop), Fx p s m args meth c D cx ad A y cc nL ret → Scr xs Ls ad A s →
    ∀ (H : Heap) (locs : List Loc) (ls : Array Slot) (L : vL) (st : List Value) (G : vG) (M : vM), Iv D cx ad A mc ms g0 s H locs G M → lR ad L ls nL →
      ∀ out, d L st G M = some out → Rs p l e s m args below meth c D cx ad A nL lev mc ms g0 H locs G (F0 m pc ls (st.map (cvA ad))) out
section SNT
variable {p : Program} {l : Launch} {e : Env} {s : State} {m : MethodId} {args : Array Value} {below : List Frame} {meth : Method} {c : Code} {D : va_G} {cx : Nat → ClassId} {ad : Nat → Nat} {A : Nat → Prop}
variable {xs : Nat → Int32} {Ls : Nat} {y : MethodName} {cc : ByteArray} {nL : Nat} {ret : Option FieldType} {lev mc ms : Nat} {g0 : vG} {pc pc' pt : Nat} {k kt kf : vD}
theorem Rs.goT (hk : SnT xs Ls y cc nL ret lev mc ms g0 pc' k) (F : Fx p s m args meth c D cx ad A y cc nL ret) (X : Scr xs Ls ad A s) {H : Heap} {locs : List Loc} {G : vG} {L2 : vL} {st2 : List Value} {G2 : vG} {M2 : vM} {out : vJ ⊕ vR} (ho : k L2 st2 G2 M2 = some out) {g : JFrame}
    (hW : ∀ Q : State → Prop, (∀ (H2 : Heap) (locs2 : List Loc) (ls2 : Array Slot), Iv D cx ad A mc ms g0 s H2 locs2 G2 M2 → lR ad L2 ls2 nL → W p l e (rmL lev mc ms) s m args below meth c H2 locs2 (G2.1 - g0.1) (G2.2.1 - g0.2.1) Q (F0 m pc' ls2 (st2.map (cvA ad)))) → W p l e (rmL lev mc ms) s m args below meth c H locs (G.1 - g0.1) (G.2.1 - g0.2.1) Q g) :
    Rs p l e s m args below meth c D cx ad A nL lev mc ms g0 H locs G g out := by
  match out, ho with
  | .inl (pc2, L', st', G', M'), ho => exact fun Q hQ => hW Q (fun H2 locs2 ls2 hI2 hL2 => hk p l e s m args below meth c D cx ad A F X H2 locs2 ls2 L2 st2 G2 M2 hI2 hL2 _ ho Q hQ)
  | .inr (v, G', M'), ho => exact hW _ (fun H2 locs2 ls2 hI2 hL2 => hk p l e s m args below meth c D cx ad A F X H2 locs2 ls2 L2 st2 G2 M2 hI2 hL2 _ ho)
theorem l_of (h : Snd y cc nL ret lev mc ms g0 pc k) : SnT xs Ls y cc nL ret lev mc ms g0 pc k := fun p l e s m args below meth c D cx ad A F _ => h p l e s m args below meth c D cx ad A F
theorem l_seq {a b : vD} {pj : Nat} (ha : SnT xs Ls y cc nL ret lev mc ms g0 pc a) (hb : SnT xs Ls y cc nL ret lev mc ms g0 pj b) : SnT xs Ls y cc nL ret lev mc ms g0 pc (op_seq pj a b) := by
  intro p l e s m args below meth c D cx ad A F X H locs ls L st G M hI hL out ho
  have h1 := ha p l e s m args below meth c D cx ad A F X H locs ls L st G M hI hL
  unfold op_seq at ho
  split at ho
  · next p' L' st' G' M' he =>
    split at ho
    · next hj =>
      subst hj
      exact Rs.goT hb F X ho (fun Q kk => h1 _ he Q kk)
    · cases ho
      exact h1 _ he
  · exact h1 _ ho
theorem l_loop {b : vD} (hb : SnT xs Ls y cc nL ret lev mc ms g0 pc b) (n : Nat) : SnT xs Ls y cc nL ret lev mc ms g0 pc (op_loop pc b n) := by
  induction n with
  | zero =>
    intro p l e s m args below meth c D cx ad A F X H locs ls L st G M hI hL out ho
    cases ho
  | succ n ih =>
    intro p l e s m args below meth c D cx ad A F X H locs ls L st G M hI hL out ho
    have h1 := hb p l e s m args below meth c D cx ad A F X H locs ls L st G M hI hL
    unfold op_loop at ho
    split at ho
    · next p' L' st' G' M' he =>
      split at ho
      · next hj =>
        subst hj
        exact Rs.goT ih F X ho (fun Q kk => h1 _ he Q kk)
      · cases ho
        exact h1 _ he
    · exact h1 _ ho
theorem l_scl (hd : decode cc pc = .ok (.iaload, 1)) (hp : pc + 1 = pc') (hk : SnT xs Ls y cc nL ret lev mc ms g0 pc' k) : SnT xs Ls y cc nL ret lev mc ms g0 pc (op_scl xs Ls k) := by
  subst hp
  intro p l e s m args below meth c D cx ad A F X H locs ls L st G M hI hL out ho
  obtain ⟨hx, hb, -⟩ := id F
  unfold op_scl at ho
  split at ho
  · next i a r =>
    split at ho
    · next hg =>
      obtain ⟨rfl, hi⟩ := hg
      exact Rs.goT (G2 := G) hk F X ho (fun Q kk => va_sld hx hb X.1 X.2.1 X.2.2 hI.2.2.1 (inB_ok hi).1 hd (kk H locs ls hI hL))
    · cases ho
  · cases ho
theorem l_sln (hd : decode cc pc = .ok (.arraylength, 1)) (hp : pc + 1 = pc') (hk : SnT xs Ls y cc nL ret lev mc ms g0 pc' k) : SnT xs Ls y cc nL ret lev mc ms g0 pc (op_sln Ls k) := by
  subst hp
  intro p l e s m args below meth c D cx ad A F X H locs ls L st G M hI hL out ho
  obtain ⟨hx, hb, -⟩ := id F
  unfold op_sln at ho
  split at ho
  · next a r =>
    split at ho
    · next hg =>
      subst hg
      exact Rs.goT (G2 := G) hk F X ho (fun Q kk => va_slen hx hb X.1 X.2.1 X.2.2 hI.2.2.1 hd (kk H locs ls hI hL))
    · cases ho
  · cases ho
def SnTL (xs : Nat → Int32) (Ls : Nat) (y : MethodName) (cc : ByteArray) (nL : Nat) (ret : Option FieldType) (lev mc ms : Nat) (g0 : vG) : List Nat → List vD → Prop
  | t :: ts, k :: ks => SnT xs Ls y cc nL ret lev mc ms g0 t k ∧ SnTL xs Ls y cc nL ret lev mc ms g0 ts ks
  | [], [] => True
  | _, _ => False
theorem SnTL_at : ∀ {ts : List Nat} {ks : List vD}, SnTL xs Ls y cc nL ret lev mc ms g0 ts ks → ts.length = ks.length ∧ ∀ j, j < ks.length → SnT xs Ls y cc nL ret lev mc ms g0 (ts.getD j 0) (ks.getD j (fun _ _ _ _ => none))
  | [], [], _ => ⟨rfl, fun j hj => absurd hj (Nat.not_lt_zero j)⟩
  | t :: ts, k :: ks, h => by
    obtain ⟨h1, h2⟩ := SnTL_at h.2
    refine ⟨by simp [h1], fun j hj => ?_⟩
    cases j with
    | zero => exact h.1
    | succ j => exact h2 j (by simpa using hj)
  | t :: ts, [], h => h.elim
  | [], k :: ks, h => h.elim
theorem l_tsw {ks : List vD} {kd : vD} {ts : List Nat} {dflt hi : Int} {offs : Array Int} {len td : Nat} (hd : decode cc pc = .ok (.tableswitch dflt 0 hi offs, len)) (hh : hi + 1 = ts.length) (ho : ∀ j, j < ts.length → offs[j]? = some ((ts.getD j 0 : Nat) - (pc : Int))) (htd : (pc : Int) + dflt = (td : Int)) (hks : SnTL xs Ls y cc nL ret lev mc ms g0 ts ks) (hkd : SnT xs Ls y cc nL ret lev mc ms g0 td kd) : SnT xs Ls y cc nL ret lev mc ms g0 pc (op_tsw ks kd) := by
  intro p l e s m args below meth c D cx ad A F X H locs ls L st G M hI hL out hot
  obtain ⟨hx, hb, -⟩ := id F
  obtain ⟨hlen, hat⟩ := SnTL_at hks
  unfold op_tsw at hot
  split at hot
  · next x r =>
    split at hot
    · next hc =>
      have hj : x.toInt.toNat < ks.length := by omega
      exact Rs.goT (G2 := G) (hat _ hj) F X hot (fun Q kk => lv_tableIn hx hb hd (by omega) (by omega) (by rw [Int.sub_zero]; exact ho _ (by omega)) (by omega) (kk H locs ls hI hL))
    · next hc =>
      exact Rs.goT (G2 := G) hkd F X hot (fun Q kk => lv_tableOut hx hb hd (by omega) htd (kk H locs ls hI hL))
  · cases hot
theorem s_astn {i : Nat} {j : Fin 4} (hd : decode cc pc = .ok (.astore_n j, 1)) (hi : (j : Nat) = i) (hn : i < nL) (hp : pc + 1 = pc') (hk : Snd y cc nL ret lev mc ms g0 pc' k) : Snd y cc nL ret lev mc ms g0 pc (op_ast i k) := by
  subst hp
  intro p l e s m args below meth c D cx ad A F H locs ls L st G M hI hL out ho
  obtain ⟨hx, hb, -⟩ := id F
  unfold op_ast at ho
  split at ho
  · next x r =>
    split at ho
    · cases ho
    · next hg => exact Rs.go (G2 := G) hk F ho (fun Q kk => lv_astore_n (x := ad x) hx hb hd hi (lR_has hL) hn rfl (fun ls' h' => kk H locs ls' hI (lR_set1 (v := .ref x) (by simpa using hg) h')))
  · cases ho
/-- a smaller room is enough -/
theorem W_room {R R' : Room} {H : Heap} {locs : List Loc} {cells slots : Nat} {Q : State → Prop} {g : JFrame} (h : R'.frames ≤ R.frames ∧ R'.cells ≤ R.cells ∧ R'.slots ≤ R.slots ∧ R'.locals ≤ R.locals) (kk : W p l e R' s m args below meth c H locs cells slots Q g) : W p l e R s m args below meth c H locs cells slots Q g := by
  intro T hT X
  obtain ⟨h1, h2, h3, h4⟩ := h
  have r1 := State.hasRoom_stack X.room
  have r2 := State.hasRoom_plain X.room
  have r3 := State.hasRoom_real X.room
  have r4 := State.hasRoom_heap X.room
  have r5 : s.slotsTrue = true := by
    have h := X.room
    simp only [State.hasRoom, Bool.and_eq_true] at h
    exact h.2
  exact kk T hT ⟨X.admits, X.cas, X.clock, X.frames, State.hasRoom_of r2 (by omega) (by omega) (by omega) (by omega) r5 (by omega), X.hears, X.method, X.code, X.here, X.tail, X.warmed, X.limits, X.bytes, X.same⟩
end SNT
theorem wp_scl {xs : Nat → Int32} {Ls : Nat} {k : vD} {L : vL} {r : List Value} {G : vG} {M : vM} {Q : vJ ⊕ vR → Prop} {i : Int32} : wp (op_scl xs Ls k) L (.int i :: .ref 2000 :: r) G M Q ↔ inB i Ls = true ∧ wp k L (.int (xs i.toNatClampNeg) :: r) G M Q := by
  by_cases h : inB i Ls = true <;> simp [wp, op_scl, h]
theorem wp_sln {Ls : Nat} {k : vD} {L : vL} {r : List Value} {G : vG} {M : vM} {Q : vJ ⊕ vR → Prop} : wp (op_sln Ls k) L (.ref 2000 :: r) G M Q ↔ wp k L (.int (nI Ls) :: r) G M Q := by simp [wp, op_sln]
