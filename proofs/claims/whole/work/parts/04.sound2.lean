/-! ===== the machine follows the operations, 2: numbers, branches, joins, loops, returns ===== -/
section SND2
variable {p : Program} {l : Launch} {e : Env} {s : State} {m : MethodId} {args : Array Value} {below : List Frame} {meth : Method} {c : Code} {D : va_G} {cx : Nat → ClassId} {ad : Nat → Nat} {A : Nat → Prop}
variable {y : MethodName} {cc : ByteArray} {nL : Nat} {ret : Option FieldType} {lev mc ms : Nat} {g0 : vG} {pc pc' pt : Nat} {k kt kf : vD}
theorem s_inc {i : Nat} {n : Int} {x : Int32} (hd : decode cc pc = .ok (.iinc i n, 3)) (hv : Int32.ofInt n = x) (hn : i < nL) (hp : pc + 3 = pc') (hk : Snd y cc nL ret lev mc ms g0 pc' k) : Snd y cc nL ret lev mc ms g0 pc (op_inc i x k) := by
  subst hp
  intro p l e s m args below meth c D cx ad A F H locs ls L st G M hI hL out ho
  obtain ⟨hx, hb, -⟩ := id F
  unfold op_inc at ho
  split at ho
  · next z hz =>
    split at ho
    · cases ho
    · next hg =>
      have hm : (i, Value.int z) ∈ prs ad L := by
        have h1 : L[i]? = some (some (.int z)) := by
          rw [List.getD_eq_getElem?_getD] at hz
          cases hL : L[i]? with
          | none => rw [hL] at hz; cases hz
          | some w => rw [hL] at hz; exact congrArg some hz
        exact prs_in (ad := ad) h1
      obtain ⟨j, hj⟩ := List.getElem?_of_mem hm
      exact Rs.go (G2 := G) hk F ho (fun Q kk => lv_iinc (v := z + x) hx hb hd (lR_has hL) hj (by rw [hv]) hn rfl (fun ls' h' => kk H locs ls' hI (lR_set1 (v := .int (z + x)) (by simpa using hg) h')))
  · cases ho
def f_add : Int32 → Int32 → Int32 := fun x y => x + y
theorem s_add (hd : decode cc pc = .ok (.iadd, 1)) (hp : pc + 1 = pc') (hk : Snd y cc nL ret lev mc ms g0 pc' k) : Snd y cc nL ret lev mc ms g0 pc (op_bin f_add k) := by
  subst hp
  intro p l e s m args below meth c D cx ad A F H locs ls L st G M hI hL out ho
  obtain ⟨hx, hb, -⟩ := id F
  unfold op_bin at ho
  split at ho
  · exact Rs.go (G2 := G) hk F ho (fun Q kk => lv_iadd hx hb hd (kk H locs ls hI hL))
  · cases ho
def f_sub : Int32 → Int32 → Int32 := fun x y => x - y
theorem s_sub (hd : decode cc pc = .ok (.isub, 1)) (hp : pc + 1 = pc') (hk : Snd y cc nL ret lev mc ms g0 pc' k) : Snd y cc nL ret lev mc ms g0 pc (op_bin f_sub k) := by
  subst hp
  intro p l e s m args below meth c D cx ad A F H locs ls L st G M hI hL out ho
  obtain ⟨hx, hb, -⟩ := id F
  unfold op_bin at ho
  split at ho
  · exact Rs.go (G2 := G) hk F ho (fun Q kk => lv_isub hx hb hd (kk H locs ls hI hL))
  · cases ho
def f_mul : Int32 → Int32 → Int32 := fun x y => x * y
theorem s_mul (hd : decode cc pc = .ok (.imul, 1)) (hp : pc + 1 = pc') (hk : Snd y cc nL ret lev mc ms g0 pc' k) : Snd y cc nL ret lev mc ms g0 pc (op_bin f_mul k) := by
  subst hp
  intro p l e s m args below meth c D cx ad A F H locs ls L st G M hI hL out ho
  obtain ⟨hx, hb, -⟩ := id F
  unfold op_bin at ho
  split at ho
  · exact Rs.go (G2 := G) hk F ho (fun Q kk => lv_imul hx hb hd (kk H locs ls hI hL))
  · cases ho
def f_and : Int32 → Int32 → Int32 := fun x y => x &&& y
theorem s_and (hd : decode cc pc = .ok (.iand, 1)) (hp : pc + 1 = pc') (hk : Snd y cc nL ret lev mc ms g0 pc' k) : Snd y cc nL ret lev mc ms g0 pc (op_bin f_and k) := by
  subst hp
  intro p l e s m args below meth c D cx ad A F H locs ls L st G M hI hL out ho
  obtain ⟨hx, hb, -⟩ := id F
  unfold op_bin at ho
  split at ho
  · exact Rs.go (G2 := G) hk F ho (fun Q kk => lv_iand hx hb hd (kk H locs ls hI hL))
  · cases ho
def f_or : Int32 → Int32 → Int32 := fun x y => x ||| y
theorem s_or (hd : decode cc pc = .ok (.ior, 1)) (hp : pc + 1 = pc') (hk : Snd y cc nL ret lev mc ms g0 pc' k) : Snd y cc nL ret lev mc ms g0 pc (op_bin f_or k) := by
  subst hp
  intro p l e s m args below meth c D cx ad A F H locs ls L st G M hI hL out ho
  obtain ⟨hx, hb, -⟩ := id F
  unfold op_bin at ho
  split at ho
  · exact Rs.go (G2 := G) hk F ho (fun Q kk => lv_ior hx hb hd (kk H locs ls hI hL))
  · cases ho
def f_xor : Int32 → Int32 → Int32 := fun x y => x ^^^ y
theorem s_xor (hd : decode cc pc = .ok (.ixor, 1)) (hp : pc + 1 = pc') (hk : Snd y cc nL ret lev mc ms g0 pc' k) : Snd y cc nL ret lev mc ms g0 pc (op_bin f_xor k) := by
  subst hp
  intro p l e s m args below meth c D cx ad A F H locs ls L st G M hI hL out ho
  obtain ⟨hx, hb, -⟩ := id F
  unfold op_bin at ho
  split at ho
  · exact Rs.go (G2 := G) hk F ho (fun Q kk => lv_ixor hx hb hd (kk H locs ls hI hL))
  · cases ho
def f_shl : Int32 → Int32 → Int32 := fun x y => x <<< (y &&& 31)
theorem s_shl (hd : decode cc pc = .ok (.ishl, 1)) (hp : pc + 1 = pc') (hk : Snd y cc nL ret lev mc ms g0 pc' k) : Snd y cc nL ret lev mc ms g0 pc (op_bin f_shl k) := by
  subst hp
  intro p l e s m args below meth c D cx ad A F H locs ls L st G M hI hL out ho
  obtain ⟨hx, hb, -⟩ := id F
  unfold op_bin at ho
  split at ho
  · exact Rs.go (G2 := G) hk F ho (fun Q kk => lv_ishl hx hb hd (kk H locs ls hI hL))
  · cases ho
def f_shr : Int32 → Int32 → Int32 := fun x y => x >>> (y &&& 31)
theorem s_shr (hd : decode cc pc = .ok (.ishr, 1)) (hp : pc + 1 = pc') (hk : Snd y cc nL ret lev mc ms g0 pc' k) : Snd y cc nL ret lev mc ms g0 pc (op_bin f_shr k) := by
  subst hp
  intro p l e s m args below meth c D cx ad A F H locs ls L st G M hI hL out ho
  obtain ⟨hx, hb, -⟩ := id F
  unfold op_bin at ho
  split at ho
  · exact Rs.go (G2 := G) hk F ho (fun Q kk => lv_ishr hx hb hd (kk H locs ls hI hL))
  · cases ho
def f_ushr : Int32 → Int32 → Int32 := fun x y => (x.toUInt32 >>> (y.toUInt32 &&& Int32.toUInt32 31)).toInt32
theorem s_ushr (hd : decode cc pc = .ok (.iushr, 1)) (hp : pc + 1 = pc') (hk : Snd y cc nL ret lev mc ms g0 pc' k) : Snd y cc nL ret lev mc ms g0 pc (op_bin f_ushr k) := by
  subst hp
  intro p l e s m args below meth c D cx ad A F H locs ls L st G M hI hL out ho
  obtain ⟨hx, hb, -⟩ := id F
  unfold op_bin at ho
  split at ho
  · exact Rs.go (G2 := G) hk F ho (fun Q kk => lv_iushr hx hb hd rfl (kk H locs ls hI hL))
  · cases ho
def f_div : Int32 → Int32 → Int32 := fun x y => x / y
theorem s_div (hd : decode cc pc = .ok (.idiv, 1)) (hp : pc + 1 = pc') (hk : Snd y cc nL ret lev mc ms g0 pc' k) : Snd y cc nL ret lev mc ms g0 pc (op_div f_div k) := by
  subst hp
  intro p l e s m args below meth c D cx ad A F H locs ls L st G M hI hL out ho
  obtain ⟨hx, hb, -⟩ := id F
  unfold op_div at ho
  split at ho
  · split at ho
    · cases ho
    · next hne => exact Rs.go (G2 := G) hk F ho (fun Q kk => lv_idiv hx hb hd hne (kk H locs ls hI hL))
  · cases ho
def f_rem : Int32 → Int32 → Int32 := fun x y => x - x / y * y
theorem s_rem (hd : decode cc pc = .ok (.irem, 1)) (hp : pc + 1 = pc') (hk : Snd y cc nL ret lev mc ms g0 pc' k) : Snd y cc nL ret lev mc ms g0 pc (op_div f_rem k) := by
  subst hp
  intro p l e s m args below meth c D cx ad A F H locs ls L st G M hI hL out ho
  obtain ⟨hx, hb, -⟩ := id F
  unfold op_div at ho
  split at ho
  · split at ho
    · cases ho
    · next hne => exact Rs.go (G2 := G) hk F ho (fun Q kk => lv_irem hx hb hd hne (kk H locs ls hI hL))
  · cases ho
theorem s_dup (hd : decode cc pc = .ok (.dup, 1)) (hp : pc + 1 = pc') (hk : Snd y cc nL ret lev mc ms g0 pc' k) : Snd y cc nL ret lev mc ms g0 pc (op_dup k) := by
  subst hp
  intro p l e s m args below meth c D cx ad A F H locs ls L st G M hI hL out ho
  obtain ⟨hx, hb, -⟩ := id F
  unfold op_dup at ho
  split at ho
  · next v r =>
    split at ho
    · next hc => exact Rs.go (G2 := G) hk F ho (fun Q kk => lv_dup hx hb hd (by rw [cvA_cat]; exact hc) (kk H locs ls hI hL))
    · cases ho
  · cases ho
theorem s_dup2 (hd : decode cc pc = .ok (.dup2, 1)) (hp : pc + 1 = pc') (hk : Snd y cc nL ret lev mc ms g0 pc' k) : Snd y cc nL ret lev mc ms g0 pc (op_dup2 k) := by
  subst hp
  intro p l e s m args below meth c D cx ad A F H locs ls L st G M hI hL out ho
  obtain ⟨hx, hb, -⟩ := id F
  unfold op_dup2 at ho
  split at ho
  · next v w r =>
    split at ho
    · next hc => exact Rs.go (G2 := G) hk F ho (fun Q kk => lv_dup2_11 hx hb hd (by rw [cvA_cat]; exact hc.1) (by rw [cvA_cat]; exact hc.2) (kk H locs ls hI hL))
    · cases ho
  · cases ho
theorem s_pop (hd : decode cc pc = .ok (.pop, 1)) (hp : pc + 1 = pc') (hk : Snd y cc nL ret lev mc ms g0 pc' k) : Snd y cc nL ret lev mc ms g0 pc (op_pop k) := by
  subst hp
  intro p l e s m args below meth c D cx ad A F H locs ls L st G M hI hL out ho
  obtain ⟨hx, hb, -⟩ := id F
  unfold op_pop at ho
  split at ho
  · next v r =>
    split at ho
    · next hc => exact Rs.go (G2 := G) hk F ho (fun Q kk => lv_pop hx hb hd (by rw [cvA_cat]; exact hc) (kk H locs ls hI hL))
    · cases ho
  · cases ho
theorem s_ifeq {off : Int} (hd : decode cc pc = .ok (.ifCond .eq off, 3)) (ht : (pc : Int) + off = (pt : Int)) (hp : pc + 3 = pc') (hkt : Snd y cc nL ret lev mc ms g0 pt kt) (hkf : Snd y cc nL ret lev mc ms g0 pc' kf) : Snd y cc nL ret lev mc ms g0 pc (op_ifeq kt kf) := by
  subst hp
  intro p l e s m args below meth c D cx ad A F H locs ls L st G M hI hL out ho
  obtain ⟨hx, hb, -⟩ := id F
  unfold op_ifeq at ho
  split at ho
  · split at ho
    · next hc => exact Rs.go (G2 := G) hkt F ho (fun Q kk => lv_if_eq hx hb hd ht (fun _ => kk H locs ls hI hL) (fun h => absurd hc h))
    · next hc => exact Rs.go (G2 := G) hkf F ho (fun Q kk => lv_if_eq hx hb hd ht (fun h => absurd h hc) (fun _ => kk H locs ls hI hL))
  · cases ho
theorem s_iceq {off : Int} (hd : decode cc pc = .ok (.if_icmp .eq off, 3)) (ht : (pc : Int) + off = (pt : Int)) (hp : pc + 3 = pc') (hkt : Snd y cc nL ret lev mc ms g0 pt kt) (hkf : Snd y cc nL ret lev mc ms g0 pc' kf) : Snd y cc nL ret lev mc ms g0 pc (op_iceq kt kf) := by
  subst hp
  intro p l e s m args below meth c D cx ad A F H locs ls L st G M hI hL out ho
  obtain ⟨hx, hb, -⟩ := id F
  unfold op_iceq at ho
  split at ho
  · split at ho
    · next hc => exact Rs.go (G2 := G) hkt F ho (fun Q kk => lv_icmp_eq hx hb hd ht (fun _ => kk H locs ls hI hL) (fun h => absurd hc h))
    · next hc => exact Rs.go (G2 := G) hkf F ho (fun Q kk => lv_icmp_eq hx hb hd ht (fun h => absurd h hc) (fun _ => kk H locs ls hI hL))
  · cases ho
theorem s_ifne {off : Int} (hd : decode cc pc = .ok (.ifCond .ne off, 3)) (ht : (pc : Int) + off = (pt : Int)) (hp : pc + 3 = pc') (hkt : Snd y cc nL ret lev mc ms g0 pt kt) (hkf : Snd y cc nL ret lev mc ms g0 pc' kf) : Snd y cc nL ret lev mc ms g0 pc (op_ifne kt kf) := by
  subst hp
  intro p l e s m args below meth c D cx ad A F H locs ls L st G M hI hL out ho
  obtain ⟨hx, hb, -⟩ := id F
  unfold op_ifne at ho
  split at ho
  · split at ho
    · next hc => exact Rs.go (G2 := G) hkf F ho (fun Q kk => lv_if_ne hx hb hd ht (fun h => absurd hc h) (fun _ => kk H locs ls hI hL))
    · next hc => exact Rs.go (G2 := G) hkt F ho (fun Q kk => lv_if_ne hx hb hd ht (fun _ => kk H locs ls hI hL) (fun h => absurd h hc))
  · cases ho
theorem s_icne {off : Int} (hd : decode cc pc = .ok (.if_icmp .ne off, 3)) (ht : (pc : Int) + off = (pt : Int)) (hp : pc + 3 = pc') (hkt : Snd y cc nL ret lev mc ms g0 pt kt) (hkf : Snd y cc nL ret lev mc ms g0 pc' kf) : Snd y cc nL ret lev mc ms g0 pc (op_icne kt kf) := by
  subst hp
  intro p l e s m args below meth c D cx ad A F H locs ls L st G M hI hL out ho
  obtain ⟨hx, hb, -⟩ := id F
  unfold op_icne at ho
  split at ho
  · split at ho
    · next hc => exact Rs.go (G2 := G) hkf F ho (fun Q kk => lv_icmp_ne hx hb hd ht (fun h => absurd hc h) (fun _ => kk H locs ls hI hL))
    · next hc => exact Rs.go (G2 := G) hkt F ho (fun Q kk => lv_icmp_ne hx hb hd ht (fun _ => kk H locs ls hI hL) (fun h => absurd h hc))
  · cases ho
theorem s_iflt {off : Int} (hd : decode cc pc = .ok (.ifCond .lt off, 3)) (ht : (pc : Int) + off = (pt : Int)) (hp : pc + 3 = pc') (hkt : Snd y cc nL ret lev mc ms g0 pt kt) (hkf : Snd y cc nL ret lev mc ms g0 pc' kf) : Snd y cc nL ret lev mc ms g0 pc (op_iflt kt kf) := by
  subst hp
  intro p l e s m args below meth c D cx ad A F H locs ls L st G M hI hL out ho
  obtain ⟨hx, hb, -⟩ := id F
  unfold op_iflt at ho
  split at ho
  · split at ho
    · next hc => exact Rs.go (G2 := G) hkt F ho (fun Q kk => lv_if_lt hx hb hd ht (fun _ => kk H locs ls hI hL) (fun h => absurd hc h))
    · next hc => exact Rs.go (G2 := G) hkf F ho (fun Q kk => lv_if_lt hx hb hd ht (fun h => absurd h hc) (fun _ => kk H locs ls hI hL))
  · cases ho
theorem s_iclt {off : Int} (hd : decode cc pc = .ok (.if_icmp .lt off, 3)) (ht : (pc : Int) + off = (pt : Int)) (hp : pc + 3 = pc') (hkt : Snd y cc nL ret lev mc ms g0 pt kt) (hkf : Snd y cc nL ret lev mc ms g0 pc' kf) : Snd y cc nL ret lev mc ms g0 pc (op_iclt kt kf) := by
  subst hp
  intro p l e s m args below meth c D cx ad A F H locs ls L st G M hI hL out ho
  obtain ⟨hx, hb, -⟩ := id F
  unfold op_iclt at ho
  split at ho
  · split at ho
    · next hc => exact Rs.go (G2 := G) hkt F ho (fun Q kk => lv_icmp_lt hx hb hd ht (fun _ => kk H locs ls hI hL) (fun h => absurd hc h))
    · next hc => exact Rs.go (G2 := G) hkf F ho (fun Q kk => lv_icmp_lt hx hb hd ht (fun h => absurd h hc) (fun _ => kk H locs ls hI hL))
  · cases ho
theorem s_ifge {off : Int} (hd : decode cc pc = .ok (.ifCond .ge off, 3)) (ht : (pc : Int) + off = (pt : Int)) (hp : pc + 3 = pc') (hkt : Snd y cc nL ret lev mc ms g0 pt kt) (hkf : Snd y cc nL ret lev mc ms g0 pc' kf) : Snd y cc nL ret lev mc ms g0 pc (op_ifge kt kf) := by
  subst hp
  intro p l e s m args below meth c D cx ad A F H locs ls L st G M hI hL out ho
  obtain ⟨hx, hb, -⟩ := id F
  unfold op_ifge at ho
  split at ho
  · split at ho
    · next hc => exact Rs.go (G2 := G) hkt F ho (fun Q kk => lv_if_ge hx hb hd ht (fun _ => kk H locs ls hI hL) (fun h => absurd hc h))
    · next hc => exact Rs.go (G2 := G) hkf F ho (fun Q kk => lv_if_ge hx hb hd ht (fun h => absurd h hc) (fun _ => kk H locs ls hI hL))
  · cases ho
theorem s_icge {off : Int} (hd : decode cc pc = .ok (.if_icmp .ge off, 3)) (ht : (pc : Int) + off = (pt : Int)) (hp : pc + 3 = pc') (hkt : Snd y cc nL ret lev mc ms g0 pt kt) (hkf : Snd y cc nL ret lev mc ms g0 pc' kf) : Snd y cc nL ret lev mc ms g0 pc (op_icge kt kf) := by
  subst hp
  intro p l e s m args below meth c D cx ad A F H locs ls L st G M hI hL out ho
  obtain ⟨hx, hb, -⟩ := id F
  unfold op_icge at ho
  split at ho
  · split at ho
    · next hc => exact Rs.go (G2 := G) hkt F ho (fun Q kk => lv_icmp_ge hx hb hd ht (fun _ => kk H locs ls hI hL) (fun h => absurd hc h))
    · next hc => exact Rs.go (G2 := G) hkf F ho (fun Q kk => lv_icmp_ge hx hb hd ht (fun h => absurd h hc) (fun _ => kk H locs ls hI hL))
  · cases ho
theorem s_ifgt {off : Int} (hd : decode cc pc = .ok (.ifCond .gt off, 3)) (ht : (pc : Int) + off = (pt : Int)) (hp : pc + 3 = pc') (hkt : Snd y cc nL ret lev mc ms g0 pt kt) (hkf : Snd y cc nL ret lev mc ms g0 pc' kf) : Snd y cc nL ret lev mc ms g0 pc (op_ifgt kt kf) := by
  subst hp
  intro p l e s m args below meth c D cx ad A F H locs ls L st G M hI hL out ho
  obtain ⟨hx, hb, -⟩ := id F
  unfold op_ifgt at ho
  split at ho
  · split at ho
    · next hc => exact Rs.go (G2 := G) hkt F ho (fun Q kk => lv_if_gt hx hb hd ht (fun _ => kk H locs ls hI hL) (fun h => absurd hc h))
    · next hc => exact Rs.go (G2 := G) hkf F ho (fun Q kk => lv_if_gt hx hb hd ht (fun h => absurd h hc) (fun _ => kk H locs ls hI hL))
  · cases ho
theorem s_icgt {off : Int} (hd : decode cc pc = .ok (.if_icmp .gt off, 3)) (ht : (pc : Int) + off = (pt : Int)) (hp : pc + 3 = pc') (hkt : Snd y cc nL ret lev mc ms g0 pt kt) (hkf : Snd y cc nL ret lev mc ms g0 pc' kf) : Snd y cc nL ret lev mc ms g0 pc (op_icgt kt kf) := by
  subst hp
  intro p l e s m args below meth c D cx ad A F H locs ls L st G M hI hL out ho
  obtain ⟨hx, hb, -⟩ := id F
  unfold op_icgt at ho
  split at ho
  · split at ho
    · next hc => exact Rs.go (G2 := G) hkt F ho (fun Q kk => lv_icmp_gt hx hb hd ht (fun _ => kk H locs ls hI hL) (fun h => absurd hc h))
    · next hc => exact Rs.go (G2 := G) hkf F ho (fun Q kk => lv_icmp_gt hx hb hd ht (fun h => absurd h hc) (fun _ => kk H locs ls hI hL))
  · cases ho
theorem s_ifle {off : Int} (hd : decode cc pc = .ok (.ifCond .le off, 3)) (ht : (pc : Int) + off = (pt : Int)) (hp : pc + 3 = pc') (hkt : Snd y cc nL ret lev mc ms g0 pt kt) (hkf : Snd y cc nL ret lev mc ms g0 pc' kf) : Snd y cc nL ret lev mc ms g0 pc (op_ifle kt kf) := by
  subst hp
  intro p l e s m args below meth c D cx ad A F H locs ls L st G M hI hL out ho
  obtain ⟨hx, hb, -⟩ := id F
  unfold op_ifle at ho
  split at ho
  · split at ho
    · next hc => exact Rs.go (G2 := G) hkt F ho (fun Q kk => lv_if_le hx hb hd ht (fun _ => kk H locs ls hI hL) (fun h => absurd hc h))
    · next hc => exact Rs.go (G2 := G) hkf F ho (fun Q kk => lv_if_le hx hb hd ht (fun h => absurd h hc) (fun _ => kk H locs ls hI hL))
  · cases ho
theorem s_icle {off : Int} (hd : decode cc pc = .ok (.if_icmp .le off, 3)) (ht : (pc : Int) + off = (pt : Int)) (hp : pc + 3 = pc') (hkt : Snd y cc nL ret lev mc ms g0 pt kt) (hkf : Snd y cc nL ret lev mc ms g0 pc' kf) : Snd y cc nL ret lev mc ms g0 pc (op_icle kt kf) := by
  subst hp
  intro p l e s m args below meth c D cx ad A F H locs ls L st G M hI hL out ho
  obtain ⟨hx, hb, -⟩ := id F
  unfold op_icle at ho
  split at ho
  · split at ho
    · next hc => exact Rs.go (G2 := G) hkt F ho (fun Q kk => lv_icmp_le hx hb hd ht (fun _ => kk H locs ls hI hL) (fun h => absurd hc h))
    · next hc => exact Rs.go (G2 := G) hkf F ho (fun Q kk => lv_icmp_le hx hb hd ht (fun h => absurd h hc) (fun _ => kk H locs ls hI hL))
  · cases ho
theorem s_goto {off : Int} (hd : decode cc pc = .ok (.goto off, 3)) (ht : (pc : Int) + off = (pt : Int)) (hk : Snd y cc nL ret lev mc ms g0 pt k) : Snd y cc nL ret lev mc ms g0 pc k := by
  intro p l e s m args below meth c D cx ad A F H locs ls L st G M hI hL out ho
  obtain ⟨hx, hb, -⟩ := id F
  exact Rs.go (G2 := G) hk F ho (fun Q kk => lv_goto hx hb hd ht (kk H locs ls hI hL))
theorem s_jmp : Snd y cc nL ret lev mc ms g0 pc (op_jmp pc) := by
  intro p l e s m args below meth c D cx ad A F H locs ls L st G M hI hL out ho
  cases ho
  exact fun Q hQ => hQ H locs ls hI hL
theorem s_seq {a b : vD} {pj : Nat} (ha : Snd y cc nL ret lev mc ms g0 pc a) (hb : Snd y cc nL ret lev mc ms g0 pj b) : Snd y cc nL ret lev mc ms g0 pc (op_seq pj a b) := by
  intro p l e s m args below meth c D cx ad A F H locs ls L st G M hI hL out ho
  have h1 := ha p l e s m args below meth c D cx ad A F H locs ls L st G M hI hL
  unfold op_seq at ho
  split at ho
  · next p' L' st' G' M' he =>
    split at ho
    · next hj =>
      subst hj
      exact Rs.go hb F ho (fun Q kk => h1 _ he Q kk)
    · cases ho
      exact h1 _ he
  · exact h1 _ ho
theorem s_loop {b : vD} (hb : Snd y cc nL ret lev mc ms g0 pc b) (n : Nat) : Snd y cc nL ret lev mc ms g0 pc (op_loop pc b n) := by
  induction n with
  | zero =>
    intro p l e s m args below meth c D cx ad A F H locs ls L st G M hI hL out ho
    cases ho
  | succ n ih =>
    intro p l e s m args below meth c D cx ad A F H locs ls L st G M hI hL out ho
    have h1 := hb p l e s m args below meth c D cx ad A F H locs ls L st G M hI hL
    unfold op_loop at ho
    split at ho
    · next p' L' st' G' M' he =>
      split at ho
      · next hj =>
        subst hj
        exact Rs.go ih F ho (fun Q kk => h1 _ he Q kk)
      · cases ho
        exact h1 _ he
    · exact h1 _ ho
theorem s_kil {ks : List Bool} (hk : Snd y cc nL ret lev mc ms g0 pc k) : Snd y cc nL ret lev mc ms g0 pc (op_kil ks k) := by
  intro p l e s m args below meth c D cx ad A F H locs ls L st G M hI hL out ho
  refine hk p l e s m args below meth c D cx ad A F H locs ls _ st G M hI ⟨hL.1, hL.2.1, fun i v hi => ?_⟩ out ho
  rw [List.getElem?_zipWith] at hi
  split at hi
  · next b w hb hw =>
    cases b
    · simp at hi
    · simp only [if_true, Option.some.injEq] at hi
      subst hi
      exact hL.2.2 i v hw
  · cases hi
theorem Iv.end0 {H : Heap} {locs : List Loc} {G : vG} {M : vM} {v : Option Value} (h : Iv D cx ad A mc ms g0 s H locs G M) (hmc : mc = 0) (hms : ms = 0) {t : State} (ht : t.heap = H) : PoC D cx ad A mc ms g0 v G M args s (.returned (v.map (cvA ad))) t := by
  obtain ⟨hP, hD, hS, ⟨h1, h2, h3, h4, h5⟩, h6, h7⟩ := h
  have hG := h6 hmc
  subst hG hmc hms
  exact ⟨rfl, ⟨rfl, rfl, fun _ => rfl⟩, by rw [ht]; exact hP, hD, by rw [ht, h2]; omega, hS.F ht⟩
theorem s_zret {ty : FieldType} (hd : decode cc pc = .ok (.ireturn, 1)) (hr : ret = some ty) (hn : ∀ x : Int32, x = 0 ∨ x = 1 → narrow ty (.int x) = .int x) (hmc : mc = 0) (hms : ms = 0) : Snd y cc nL ret lev mc ms g0 pc op_zret := by
  intro p l e s m args below meth c D cx ad A F H locs ls L st G M hI hL out ho
  obtain ⟨hx, hb, -, -, -, hret, hlk, -⟩ := id F
  unfold op_zret at ho
  split at ho
  · next x =>
    split at ho
    · next hc =>
      cases ho
      have hG : G = g0 := hI.2.2.2.2.1 hmc
      have e1 : G.1 - g0.1 = mc := by rw [hG, hmc]; omega
      have e2 : G.2.1 - g0.2.1 = ms := by rw [hG, hms]; omega
      show W _ _ _ _ _ _ _ _ _ _ _ _ _ _ _ _
      rw [e1, e2]
      exact W.zret hx hb (hret.trans hr) (hn x hc) (fun t ht _ => hI.end0 (v := some (.int x)) hmc hms ht) hI.2.2.1.2.2 hd hlk
    · cases ho
  · cases ho
theorem s_iret (hd : decode cc pc = .ok (.ireturn, 1)) (hr : ret = some .int) (hmc : mc = 0) (hms : ms = 0) : Snd y cc nL ret lev mc ms g0 pc op_ret := by
  intro p l e s m args below meth c D cx ad A F H locs ls L st G M hI hL out ho
  obtain ⟨hx, hb, -, -, -, hret, hlk, -⟩ := id F
  unfold op_ret at ho
  split at ho
  · next x =>
    cases ho
    have hG : G = g0 := hI.2.2.2.2.1 hmc
    have e1 : G.1 - g0.1 = mc := by rw [hG, hmc]; omega
    have e2 : G.2.1 - g0.2.1 = ms := by rw [hG, hms]; omega
    show W _ _ _ _ _ _ _ _ _ _ _ _ _ _ _ _
    rw [e1, e2]
    exact W.iret hx hb (hret.trans hr) (fun t ht _ => hI.end0 (v := some (.int x)) hmc hms ht) hI.2.2.1.2.2 hd hlk
  · cases ho
theorem s_vret (hd : decode cc pc = .ok (.return_, 1)) (hr : ret = none) (hmc : mc = 0) (hms : ms = 0) : Snd y cc nL ret lev mc ms g0 pc op_vret := by
  intro p l e s m args below meth c D cx ad A F H locs ls L st G M hI hL out ho
  obtain ⟨hx, hb, -, -, -, hret, hlk, -⟩ := id F
  unfold op_vret at ho
  split at ho
  · cases ho
    have hG : G = g0 := hI.2.2.2.2.1 hmc
    have e1 : G.1 - g0.1 = mc := by rw [hG, hmc]; omega
    have e2 : G.2.1 - g0.2.1 = ms := by rw [hG, hms]; omega
    show W _ _ _ _ _ _ _ _ _ _ _ _ _ _ _ _
    rw [e1, e2]
    exact W.vret hx hb (hret.trans hr) (fun t ht _ => hI.end0 (v := none) hmc hms ht) hI.2.2.1.2.2 hd hlk
  · cases ho
theorem s_aret {C : String} (hd : decode cc pc = .ok (.areturn, 1)) (hr : ret = some (.object C)) (hmc : mc = 0) (hms : ms = 0) : Snd y cc nL ret lev mc ms g0 pc op_aret := by
  intro p l e s m args below meth c D cx ad A F H locs ls L st G M hI hL out ho
  obtain ⟨hx, hb, -, -, -, hret, hlk, -⟩ := id F
  unfold op_aret at ho
  split at ho
  · next x =>
    cases ho
    have hG : G = g0 := hI.2.2.2.2.1 hmc
    have e1 : G.1 - g0.1 = mc := by rw [hG, hmc]; omega
    have e2 : G.2.1 - g0.2.1 = ms := by rw [hG, hms]; omega
    show W _ _ _ _ _ _ _ _ _ _ _ _ _ _ _ _
    rw [e1, e2]
    exact W.aret hx hb (hret.trans hr) (Or.inl ⟨_, rfl⟩) (Or.inr ⟨_, rfl⟩) (fun t ht _ => hI.end0 (v := some (.ref x)) hmc hms ht) hI.2.2.1.2.2 hd hlk
  · cases ho
end SND2
