-- from the shape that the constructors made to the shape as it is written; the first state
theorem arrV_c {c : ClassId} {n : Nat} {f g : Nat → Value} (h : ∀ j, j < n → f j = g j) : arrV c n f = arrV c n g := by
  unfold arrV
  have : (fun j : Fin n => f j.val) = fun j : Fin n => g j.val := funext fun j => h j.1 j.2
  rw [this]
def isG (G : vG) : Prop := (G.1 = 202 ∧ G.2.1 = 9621) ∧ (∀ a, a < 202 → gC G a = gC gA a) ∧ (∀ a, a < 202 → gL G a = gL gA a) ∧ ∀ a, a < 202 → ∀ k, k < 18 → gR G a k = gR gA a k
theorem isG_B : isG gB := ⟨gB_n, gB_C, gB_L, gB_R⟩
theorem at_gA {G : vG} (hG : isG G) {D : va_G} {cx : Nat → ClassId} {ad : Nat → Nat} {M : vM} {H : Heap} {a : Nat} (ha : a < 202) (h : va_at D vwCl (ad a, wE cx ad G M a) H) : va_at D vwCl (ad a, wE cx ad gA M a) H := by
  have e1 := hG.2.1 a ha
  have e2 := hG.2.2.1 a ha
  have e3 := hG.2.2.2 a ha
  unfold wE at h ⊢
  rw [e1, e2] at h
  by_cases c1 : gC gA a < 100
  · rw [if_pos c1] at h ⊢
    have : fO ad gA M (gC gA a) a = fO ad G M (gC gA a) a := by
      unfold fO
      refine List.map_congr_left (fun k hk => ?_)
      rw [e3 k (by have := nF_le _ c1; have := List.mem_range.mp hk; omega)]
    rw [this]
    exact h
  · rw [if_neg c1] at h ⊢
    by_cases c2 : gC gA a = 100
    · rw [if_pos c2] at h ⊢
      exact h
    · rw [if_neg c2] at h ⊢
      have hs := gA_small a ha (by omega)
      have h : H[ad a]? = some (arrV (cx (gC gA a - 100)) (gL gA a) (fun j => va_rf ((gR G a j).map ad))) := h
      show H[ad a]? = some (arrV (cx (gC gA a - 100)) (gL gA a) (fun j => va_rf ((gR gA a j).map ad)))
      rw [h, arrV_c (fun j hj => by rw [e3 j (by omega)])]
theorem Iv_gA {G : vG} (hG : isG G) {D : va_G} {cx : Nat → ClassId} {ad : Nat → Nat} {A : Nat → Prop} {mc ms : Nat} {g0 : vG} {s : State} {H : Heap} {locs : List Loc} {M : vM} (h : Iv D cx ad A mc ms g0 s H locs G M) (hmc : mc ≠ 0) : Iv D cx ad A mc ms g0 s H locs gA M := by
  obtain ⟨hP, hD, hS, hn, -, h7⟩ := h
  obtain ⟨n1, n2⟩ := hG.1
  have g1 : gA.1 = 202 := rfl
  have g2 : gA.2.1 = 9621 := rfl
  rw [n1, n2] at hn
  rw [n1] at h7
  refine ⟨fun k q hq => ?_, ⟨fun i j p q hi hj hpq => ?_, fun k q hq => ?_⟩, hS, ?_, fun hz => absurd hz hmc, ?_⟩
  · obtain ⟨hk, rfl⟩ := wW_lt hq
    exact at_gA hG hk (hP k _ (wW_at (by rw [n1]; exact hk)))
  · obtain ⟨h1, rfl⟩ := wW_lt hi
    obtain ⟨h2, rfl⟩ := wW_lt hj
    exact hD.1 i j (ad i, wE cx ad G M i) (ad j, wE cx ad G M j) (wW_at (by rw [n1]; exact h1)) (wW_at (by rw [n1]; exact h2)) hpq
  · obtain ⟨hk, rfl⟩ := wW_lt hq
    exact hD.2 k (ad k, wE cx ad G M k) (wW_at (by rw [n1]; exact hk))
  · rw [g1, g2]; exact hn
  · rw [g1]; exact h7
def S00 : vS := (6, (fun _ => 0), (0, (fun _ => none), fun _ _ => none), (0, (fun _ => none), fun _ _ => none))
def Z00 : vZ := zM S00 0 (fun _ => S00) (fun _ => none) 0 (fun _ => (0, 0, 0)) 0
theorem Z00_ok : zOK Z00 := by
  refine ⟨⟨⟨by decide, by decide⟩, fun k hk => Nat.zero_le _, ⟨by decide, fun j hj => absurd hj (Nat.not_lt_zero j)⟩, ⟨by decide, fun j hj => absurd hj (Nat.not_lt_zero j)⟩, fun s hs => absurd hs (Nat.not_lt_zero s)⟩, by decide, fun i hi => absurd hi (Nat.not_lt_zero i), fun i _ x hx => (by cases hx), by decide, fun j hj => absurd hj (Nat.not_lt_zero j), by decide⟩
def isM (M : vM) : Prop := (M 1 0 = 6 ∧ (∀ k, k < 6 → M 2 k = 0) ∧ M 3 1 = 0 ∧ M 6 1 = 0 ∧ M 3 0 = 6 ∧ M 6 0 = 8 ∧ M 9 0 = 0 ∧ M 9 1 = 0 ∧ M 172 0 = 0 ∧ M 181 0 = 0 ∧ M 139 0 = 0 ∧ M 0 7 = 0) ∧ M 191 0 = 0 ∧ M 191 1 = 0 ∧ M 191 2 = 6 ∧ (∀ k, k < 6 → M 191 (3 + k) = 0) ∧ M 190 1 = 0 ∧ M 190 2 = 0 ∧ M 190 8 = 0 ∧ M 190 3 = 0
theorem isM_B : isM mB := ⟨mB_num, mB_num2⟩
theorem rC_first {M : vM} (h : isM M) : rC M Z00 := by
  obtain ⟨a1, a2, a3, a4, a5, a6, a7, a8, a9, a10, a11, a12⟩ := h.1
  refine ⟨⟨a1, fun k hk => a2 k hk, ⟨a3, fun j hj => absurd hj (Nat.not_lt_zero j)⟩, ⟨a4, fun j hj => absurd hj (Nat.not_lt_zero j)⟩⟩, ⟨a5, a6⟩, ⟨a7, 0, by decide, a8, fun i hi => absurd hi (Nat.not_lt_zero i)⟩, fun i hi => ?_, ⟨a11, fun j hj => absurd hj (Nat.not_lt_zero j)⟩, a12⟩
  show M (172 + 9 * i) 0 = 0
  rcases (show i = 0 ∨ i = 1 by omega) with rfl | rfl
  · exact a9
  · exact a10
theorem rX_first {M : vM} (h : isM M) : rX M Z00 := by
  obtain ⟨a1, a2, a3, a4, a5, a6, a7, a8⟩ := h.2
  exact ⟨⟨a1, a2, a3, fun k hk => a4 k hk, fun j hj => absurd hj (Nat.not_lt_zero j), fun j hj => absurd hj (Nat.not_lt_zero j)⟩, ⟨a5, fun i hi => absurd hi (Nat.not_lt_zero i)⟩, ⟨a6, fun i _ x hx => (by cases hx)⟩, ⟨a7, fun j hj => absurd hj (Nat.not_lt_zero j)⟩, a8⟩
theorem rX_frX {M M' : vM} {Z : vZ} (h : rX M Z) (hf : frX M M') : rX M' Z := by
  obtain ⟨h1, h2, h3, h4, h5⟩ := h
  have e0 := hf 190 (by decide)
  have e1 := hf 191 (by decide)
  refine ⟨w0_fr h1 e1, ⟨by rw [e0]; exact h2.1, fun i hi => ?_⟩, ⟨by rw [e0]; exact h3.1, fun i hi x hx => ⟨by rw [hf 192 (by decide)]; exact (h3.2 i hi x hx).1, ?_⟩⟩, ⟨by rw [e0]; exact h4.1, fun j hj => by rw [hf 193 (by decide), hf 194 (by decide), hf 195 (by decide)]; exact h4.2 j hj⟩, by rw [e0]; exact h5⟩
  · have := h2.2 i hi
    unfold wSh at this ⊢
    rw [e1]
    exact this
  · have := (h3.2 i hi x hx).2
    unfold wSh at this ⊢
    rw [e1]
    exact this
theorem rC_frL {M M' : vM} {Z : vZ} (h : rC M Z) (hf : frL M M') : rC M' Z := by
  obtain ⟨h1, ⟨h2, h2'⟩, h3, h4, h5, h6⟩ := h
  exact ⟨rS1_fr h1 (fun a ha => hf a (by omega)), ⟨by rw [hf 3 (by decide)]; exact h2, by rw [hf 6 (by decide)]; exact h2'⟩, cH_fr h3 (fun a a1 a2 => hf a (by omega)), cI_fr h4 (fun a a1 a2 => hf a (by omega)), cB_fr h5 (fun a a1 a2 => hf a (by omega)), by rw [hf 0 (by decide)]; exact h6⟩
