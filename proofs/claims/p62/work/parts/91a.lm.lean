/-! ===== p62: the law's answers at a place; isAbove by places ===== -/
theorem no_ne {x : Nat} (hx : x ≤ 99) : ¬ nI x = -30000 := fun h => nI_pos (n := x) (by omega) (by rw [h]; decide)
theorem keyL_yes {T : TreeS} {t : Tr} {i : Nat} (e : t.fi i < i) : keyL T t i = nI (kN T t (t.lp i)) := by unfold keyL; rw [if_pos e]
theorem keyL_no {T : TreeS} {t : Tr} {i : Nat} (e : ¬ t.fi i < i) : keyL T t i = -30000 := by unfold keyL; rw [if_neg e]
theorem keyR_yes {T : TreeS} {t : Tr} {i : Nat} (e : i < t.la i) : keyR T t i = nI (kN T t (t.rp i)) := by unfold keyR; rw [if_pos e]
theorem keyR_no {T : TreeS} {t : Tr} {i : Nat} (e : ¬ i < t.la i) : keyR T t i = -30000 := by unfold keyR; rw [if_neg e]
theorem nINeg {x : Nat} (hx : x ≤ 99) : (-30000 : Int32) < nI x := Int32.lt_of_lt_of_le (show (-30000 : Int32) < 0 by decide) (nI_pos' (by omega))
theorem keyL_lt {T : TreeS} {t : Tr} (h : WF T t) {i : Nat} (hi : i < t.size) : keyL T t i < nI (kN T t i) := by
  have k1 := (kN_ok h hi).2
  by_cases e : t.fi i < i
  · have := kN_lt h (lp_lt hi e) hi
    rw [keyL_yes e]
    exact nI_lt this (by omega)
  · rw [keyL_no e]; exact nINeg k1
theorem ab_val {a b : Nat} (ha : a ≤ 99) (hb : b ≤ 99) : (0 < nI a - nI b ↔ b < a) ∧ (nI a - nI b = 0 ↔ a = b) := by
  rcases Nat.lt_trichotomy a b with h | h | h
  · have h1 := pk_sneg (a := a) (b := b) (by omega) h
    exact ⟨⟨fun h9 => absurd h9 (Int32.not_lt.mpr (Int32.le_of_lt h1)), fun h9 => by omega⟩, ⟨fun h9 => absurd h1 (by rw [h9]; decide), fun h9 => by omega⟩⟩
  · subst h
    rw [pk_sub (Nat.le_refl _), Nat.sub_self]
    exact ⟨⟨fun h9 => absurd h9 (by decide), fun h9 => by omega⟩, ⟨fun _ => rfl, fun _ => rfl⟩⟩
  · rw [pk_sub (by omega)]
    exact ⟨⟨fun _ => h, fun _ => nI_lt (a := 0) (by omega) (by omega)⟩, ⟨fun h9 => absurd h9 (nI_ne0 (by omega) (by omega)), fun h9 => by omega⟩⟩
theorem ab_if {T : TreeS} {t : Tr} (h : WF T t) {i j : Nat} (hi : i < t.size) (hj : j < t.size) : (if abv T (t.sl i) (t.sl j) then (1 : Int32) else 0) = if 0 < nI (qN T t i) - nI (qN T t j) then 1 else if nI (qN T t i) - nI (qN T t j) = 0 ∧ nI (kN T t i) < nI (kN T t j) then 1 else 0 := by
  have q1 := (qN_ok h hi).2
  have q2 := (qN_ok h hj).2
  have k1 := (kN_ok h hi).2
  have k2 := (kN_ok h hj).2
  obtain ⟨v1, v2⟩ := ab_val q1 q2
  have hab := abvN h hi hj
  by_cases e1 : qN T t j < qN T t i
  · rw [if_pos (hab.mpr (Or.inl e1)), if_pos (v1.mpr e1)]
  · rw [if_neg (c := 0 < nI (qN T t i) - nI (qN T t j)) (fun h9 => e1 (v1.mp h9))]
    by_cases e2 : qN T t i = qN T t j ∧ i < j
    · rw [if_pos (hab.mpr (Or.inr e2)), if_pos ⟨v2.mpr e2.1, nI_lt (kN_lt h e2.2 hj) (by omega)⟩]
    · rw [if_neg (fun h9 => (hab.mp h9).elim e1 e2), if_neg]
      rintro ⟨h8, h9⟩
      refine e2 ⟨v2.mp h8, ?_⟩
      rw [← kN_lt_iff h hi hj]
      rcases Nat.lt_or_ge (kN T t i) (kN T t j) with q | q
      · exact q
      · exact absurd h9 (nI_nlt q (by omega))
theorem hh_parentOf {T : MainS} {t : Tr} (h : WF T.1.1 t) {p i : Nat} (hp : p < t.size) (hc : t.ch p i) : h_parentOf T (nI (kN T.1.1 t i)) = some (nI (kN T.1.1 t p), T) := by
  unfold h_parentOf
  rw [a_parentOf h hp hc]; rfl
theorem hh_parentOf0 {T : MainS} {t : Tr} (h : WF T.1.1 t) (h0 : 0 < t.size) : h_parentOf T (nI (kN T.1.1 t t.rt0)) = some (-30000, T) := by
  unfold h_parentOf
  rw [a_parentOf0 h h0]; rfl
/-- the parent of a point, as the law has it -/
theorem keyP_ex {T : MainS} {t : Tr} (h : WF T.1.1 t) {i : Nat} (hi : i < t.size) : ∃ P : Int32, h_parentOf T (nI (kN T.1.1 t i)) = some (P, T) ∧ ((i = t.rt0 ∧ P = -30000 ∧ t.dep i = 0) ∨ ∃ p, p < t.size ∧ t.ch p i ∧ P = nI (kN T.1.1 t p) ∧ i ≠ t.rt0) := by
  rcases ch_ex i hi with ⟨e1, e2⟩ | ⟨p, hp, hc⟩
  · refine ⟨-30000, ?_, Or.inl ⟨e1, rfl, e2⟩⟩
    rw [e1]
    exact hh_parentOf0 h (by omega)
  · refine ⟨_, hh_parentOf h hp hc, Or.inr ⟨p, hp, hc, rfl, fun e => ?_⟩⟩
    have h1 := (ch_st hp hc).2.1
    have h2 := (root_pl (t := t) (by omega)).2.2.2.1
    rw [e] at h1
    have h3 : t.dep t.rt0 = 0 := h2
    omega
section LW2
variable {p : Program} {l : Launch} {e : Env} {s : State} {m : MethodId} {args : Array Value} {below : List Frame} {meth : Method} {c : Code} {H : Heap} {locs : List Loc} {cells slots : Nat} {Q : State → Prop} {A : Nat → Prop}
variable {cc : ByteArray} {nL : Nat} {g : pq_g} {ad av : Nat → Nat} {sb L : Nat} {xs : Nat → Int32} {E : va_W} {a : Nat → Nat} {T : MainS} {rest : List Value} {pc : Nat} {ls : Array Slot} {R : Room}
theorem mAb (C0 : lwC p l s m args c cc nL A g ad av [] sb L xs) (M0 : lwM g a T E A s H locs) {t : Tr} (hw : WF T.1.1 t) {i j : Nat} (hi : i < t.size) (hj : j < t.size) (hls : ls.size = nL) (hr : (rest.map fun v => v.category).sum ≤ 8) (hdg : decode cc pc = .ok (.invokestatic 194, 3)) (hR : 9 ≤ R.frames ∧ 600 ≤ R.locals) (hf : cells + 2 ≤ R.cells ∧ slots + 12 ≤ R.slots)
    (kk : ∀ (H1 : Heap) (locs1 : List Loc), lwM g a T E A s H1 locs1 → W p l e R s m args below meth c H1 locs1 (cells + 2) (slots + 12) Q (F0 m (pc + 3) ls (.int (if abv T.1.1 (t.sl i) (t.sl j) then 1 else 0) :: rest))) : W p l e R s m args below meth c H locs cells slots Q (F0 m pc ls (.int (nI (kN T.1.1 t j)) :: .int (nI (kN T.1.1 t i)) :: .ref (a 0) :: rest)) := by
  refine mS C0 M0 (c_L_isAbove l g ad av [] sb L xs a T _ _ _ _ C0.2.2.2.2 (a_priorityOf hw hi) (a_priorityOf hw hj) _ (ab_if hw hi hj)) mS_no vs_L_194 (As := [.ref (a 0), .int (nI (kN T.1.1 t i)), .int (nI (kN T.1.1 t j))]) (rest := rest) rfl rfl hls hr hdg ⟨by omega, by omega⟩ hf (fun v H1 locs1 hv _ hE hS1 => ?_)
  obtain ⟨rfl, hP1⟩ := hv
  exact kk H1 locs1 ⟨va_P.app hP1 hE, M0.2.1, hS1⟩
theorem mSo (C0 : lwC p l s m args c cc nL A g ad av [] sb L xs) (M0 : lwM g a T E A s H locs) {j n : Nat} (hL : L < 2 ^ 31) (hj : j < 2 ^ 31) (hn : 0 < n) (hn2 : n < 2 ^ 31) (hls : ls.size = nL) (hr : (rest.map fun v => v.category).sum ≤ 8) (hdg : decode cc pc = .ok (.invokestatic 90, 3)) (hR : 9 ≤ R.frames ∧ 600 ≤ R.locals) (hf : cells ≤ R.cells ∧ slots ≤ R.slots)
    (kk : ∀ (H1 : Heap) (locs1 : List Loc), lwM g a T E A s H1 locs1 → W p l e R s m args below meth c H1 locs1 cells slots Q (F0 m (pc + 3) ls (.int (nI (lsome xs L j n)) :: rest))) : W p l e R s m args below meth c H locs cells slots Q (F0 m pc ls (.int (nI n) :: .int (nI j) :: .ref sb :: rest)) :=
  mS0 C0 M0 (c_L_some l g ad av [] sb L xs j n hL hj hn hn2) vs_L_90 (As := [.ref sb, .int (nI j), .int (nI n)]) (rest := rest) rfl rfl hls hr hdg ⟨by omega, by omega⟩ hf kk
end LW2
theorem lsome_lt {xs : Nat → Int32} {L j n : Nat} (hn : 0 < n) : lsome xs L j n < n := Nat.mod_lt _ hn
