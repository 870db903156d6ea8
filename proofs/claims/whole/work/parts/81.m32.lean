/-! ===== mathematics, 32: each kind of command ===== -/
theorem cq_at {ns cm : Nat → Int32} {k n : Nat} (c4 : ∀ j, j < n → (fun j => ns (5 * k + j)) j = (fun j => cm (6 * k + 1 + j)) j ∧ ∃ v : Nat, v ≤ 99 ∧ (fun j => cm (6 * k + 1 + j)) j = nI v) (j : Nat) (hj : j < n) : ∃ v : Nat, v ≤ 99 ∧ ns (5 * k + j) = nI v ∧ cm (6 * k + (j + 1)) = nI v := by
  obtain ⟨e, v, b, f⟩ := c4 j hj
  refine ⟨v, b, e.trans f, ?_⟩
  rw [show 6 * k + (j + 1) = 6 * k + 1 + j by omega]
  exact f
/-- the reference's step, by kind -/
def doR (X : ModS) (kd q0 q1 q2 q3 q4 : Int32) : Option (Int32 × ModS) := (if kd = 100 then f_X7_deletes X q0 else if kd = 105 then f_X7_inserts X q0 q1 else if kd = 109 then f_X7_moves X q0 q1 else if kd = 112 then f_X7_prefers X q0 q1 else if kd = 114 then f_X7_clears X q0 q1 else if kd = 119 then f_X7_sets X q0 q1 q2 q3 q4 else f_X7_removes X q0)
theorem st_105 {D : DataS} {X : ModS} {a : Nat → Int32} {t : Tr} (x1 res : Int32) (hD : DR D a t) {v0 v1 : Nat} (b0 : v0 ≤ 99) (b1 : v1 ≤ 99) (q2 q3 q4 r2 r3 r4 : Int32) : stepR D X a x1 res (faD D (nI 105) (nI v0) (nI v1) q2 q4) (reD D (nI 105) (nI v0) (nI v1) q2 q3 q4) (coD D (nI 105) (nI v0) (nI v1) q2 q3 q4) (doR (mk X x1 a res) (nI 105) (nI v0) (nI v1) r2 r3 r4) := by
  show stepR D X a x1 res (some 0) (f_X1_reasonAgainstInsert D (nI v0) (nI v1)) ((f_X1_insertPoint D (nI v0) (nI v1)).bind fun q => some q.2) (f_X7_inserts (mk X x1 a res) (nI v0) (nI v1))
  rcases insR (M := mk X x1 a res) hD b0 b1 with ⟨r, d, a', res', g1, g2, g3, g4, g5⟩ | ⟨g2, m, D', a', t', g3, g4, g5, g6⟩
  · exact Or.inr (Or.inl ⟨r, d, a', res', rfl, g2, g1, g4, g5⟩)
  · exact Or.inr (Or.inr ⟨D', a', m, t', rfl, g2, by rw [g3]; rfl, g4, g5, g6⟩)
theorem st_100 {D : DataS} {X : ModS} {a : Nat → Int32} {t : Tr} (x1 res : Int32) (hD : DR D a t) (q0 q1 q2 q3 q4 r1 r2 r3 r4 : Int32) : stepR D X a x1 res (faD D (nI 100) q0 q1 q2 q4) (reD D (nI 100) q0 q1 q2 q3 q4) (coD D (nI 100) q0 q1 q2 q3 q4) (doR (mk X x1 a res) (nI 100) q0 r1 r2 r3 r4) := by
  show stepR D X a x1 res ((f_X4_slotOf D.1 q0).bind fun q => if q = 0 then some 1 else some 0) (some 0) ((f_X4_slotOf D.1 q0).bind fun q => (f_X1_deletePoint D q).bind fun q => some q.2) (f_X7_deletes (mk X x1 a res) q0)
  rcases delR (M := mk X x1 a res) (K := q0) hD with ⟨g1, g2⟩ | ⟨s, s0, g1, m, D', a', t', g3, g4, g5, g6⟩
  · exact Or.inl ⟨1, 4, by rw [g1]; rfl, by decide, Or.inr (Or.inr rfl), g2⟩
  · exact Or.inr (Or.inr ⟨D', a', m, t', by rw [g1, Option.bind_some, if_neg s0], rfl, by rw [g1, Option.bind_some, g3]; rfl, g4, g5, g6⟩)
theorem st_112 {D : DataS} {X : ModS} {a : Nat → Int32} {t : Tr} (x1 res : Int32) (hD : DR D a t) {v1 : Nat} (b1 : v1 ≤ 99) (q0 q2 q3 q4 r2 r3 r4 : Int32) : stepR D X a x1 res (faD D (nI 112) q0 (nI v1) q2 q4) (reD D (nI 112) q0 (nI v1) q2 q3 q4) (coD D (nI 112) q0 (nI v1) q2 q3 q4) (doR (mk X x1 a res) (nI 112) q0 (nI v1) r2 r3 r4) := by
  show stepR D X a x1 res ((f_X4_slotOf D.1 q0).bind fun q => if q = 0 then some 1 else some 0) ((f_X4_slotOf D.1 q0).bind fun q => f_X1_reasonAgainstPriority D q (nI v1)) ((f_X4_slotOf D.1 q0).bind fun q => (f_X1_setPriority D q (nI v1)).bind fun q => some q.2) (f_X7_prefers (mk X x1 a res) q0 (nI v1))
  rcases priR (M := mk X x1 a res) (K := q0) hD b1 with ⟨g1, g2⟩ | ⟨s, s0, g1, ⟨r, d, a', res', g0, g2, g3, g4, g5⟩ | ⟨g2, m, D', a', t', g3, g4, g5, g6⟩⟩
  · exact Or.inl ⟨1, 4, by rw [g1]; rfl, by decide, Or.inr (Or.inr rfl), g2⟩
  · exact Or.inr (Or.inl ⟨r, d, a', res', by rw [g1, Option.bind_some, if_neg s0], by rw [g1, Option.bind_some, g2], g0, g4, g5⟩)
  · exact Or.inr (Or.inr ⟨D', a', m, t', by rw [g1, Option.bind_some, if_neg s0], by rw [g1, Option.bind_some, g2], by rw [g1, Option.bind_some, g3]; rfl, g4, g5, g6⟩)
theorem st_109 {D : DataS} {X : ModS} {a : Nat → Int32} {t : Tr} (x1 res : Int32) (hD : DR D a t) {v1 : Nat} (b1 : v1 ≤ 99) (q0 q2 q3 q4 r2 r3 r4 : Int32) : stepR D X a x1 res (faD D (nI 109) q0 (nI v1) q2 q4) (reD D (nI 109) q0 (nI v1) q2 q3 q4) (coD D (nI 109) q0 (nI v1) q2 q3 q4) (doR (mk X x1 a res) (nI 109) q0 (nI v1) r2 r3 r4) := by
  show stepR D X a x1 res ((f_X4_slotOf D.1 q0).bind fun q => if q = 0 then some 1 else some 0) ((f_X4_slotOf D.1 q0).bind fun q => f_X1_reasonAgainstMove D q (nI v1)) ((f_X4_slotOf D.1 q0).bind fun q => (f_X1_movePoint D q (nI v1)).bind fun q => some q.2) (f_X7_moves (mk X x1 a res) q0 (nI v1))
  rcases movR (M := mk X x1 a res) (K := q0) hD b1 with ⟨g1, g2⟩ | ⟨s, s0, g1, ⟨r, d, q, a', res', g0, g2, gq, g3, g4, g5⟩ | ⟨g2, m, D', a', t', g3, g4, g5, g6⟩⟩
  · exact Or.inl ⟨1, 4, by rw [g1]; rfl, by decide, Or.inr (Or.inr rfl), g2⟩
  · exact Or.inr (Or.inl ⟨r, d, a', res', by rw [g1, Option.bind_some, if_neg s0], by rw [g1, Option.bind_some, g2], g0, g4, g5⟩)
  · exact Or.inr (Or.inr ⟨D', a', m, t', by rw [g1, Option.bind_some, if_neg s0], by rw [g1, Option.bind_some, g2], by rw [g1, Option.bind_some, g3]; rfl, g4, g5, g6⟩)
theorem st_114 {D : DataS} {X : ModS} {a : Nat → Int32} {t : Tr} (x1 res : Int32) (hD : DR D a t) {v0 v1 : Nat} (b0 : v0 ≤ 99) (b1 : v1 ≤ 99) (q2 q3 q4 r2 r3 r4 : Int32) : stepR D X a x1 res (faD D (nI 114) (nI v0) (nI v1) q2 q4) (reD D (nI 114) (nI v0) (nI v1) q2 q3 q4) (coD D (nI 114) (nI v0) (nI v1) q2 q3 q4) (doR (mk X x1 a res) (nI 114) (nI v0) (nI v1) r2 r3 r4) := by
  show stepR D X a x1 res (if nI v0 ≤ nI v1 then some 0 else some 1) (some 0) ((f_X4_removeRange D.1 (nI v0) (nI v1)).bind fun q => some (q.2, D.2.1, D.2.2)) (f_X7_clears (mk X x1 a res) (nI v0) (nI v1))
  by_cases e : v0 ≤ v1
  · obtain ⟨m, T', a', t', g3, g4, g5, g6⟩ := clrR (M := mk X x1 a res) hD e b1
    exact Or.inr (Or.inr ⟨(T', D.2.1, D.2.2), a', m, t', if_pos (nI_le e (by omega)), rfl, by rw [g3]; rfl, g4, g5, g6⟩)
  · refine Or.inl ⟨1, 2, if_neg (nI_ge (by omega) (by omega)), by decide, Or.inr (Or.inl rfl), ?_⟩
    unfold f_X7_clears f_X7_isRange
    rw [isNumR b0, Option.bind_some, if_neg n10, isNumR b1, Option.bind_some, if_neg n10, if_pos (show nI v1 < nI v0 from nI_lt (by omega) (by omega)), Option.bind_some, if_pos rfl]
theorem w_no {v : Nat} (h : ¬ v < 4) (hv : v ≤ 99) : nI v < 0 ∨ 3 < nI v := Or.inr (nI_lt (a := 3) (by omega) (by omega))
theorem st_120 {D : DataS} {X : ModS} {a : Nat → Int32} {t : Tr} (x1 res : Int32) (hD : DR D a t) {v0 : Nat} (b0 : v0 ≤ 99) (q1 q2 q3 q4 r1 r2 r3 r4 : Int32) : stepR D X a x1 res (faD D (nI 120) (nI v0) q1 q2 q4) (reD D (nI 120) (nI v0) q1 q2 q3 q4) (coD D (nI 120) (nI v0) q1 q2 q3 q4) (doR (mk X x1 a res) (nI 120) (nI v0) r1 r2 r3 r4) := by
  show stepR D X a x1 res ((f_X6_isWindow (nI v0)).bind fun q => if q = 0 then some 1 else (f_X5_isOpen D.2.1 (nI v0)).bind fun q => if q = 0 then some 1 else some 0) (some 0) ((f_X5_close D.2.1 (nI v0)).bind fun q => some (D.1, q, D.2.2)) (f_X7_removes (mk X x1 a res) (nI v0))
  by_cases e : v0 < 4
  · rcases remR (M := mk X x1 a res) hD e with ⟨g1, g2⟩ | ⟨g1, W', m, a', g3, g3b, g4, g5, g6⟩
    · exact Or.inl ⟨1, 4, by rw [isWinC e, Option.bind_some, if_neg n10, g1]; rfl, by decide, Or.inr (Or.inr rfl), g2⟩
    · exact Or.inr (Or.inr ⟨(D.1, W', D.2.2), a', m, t, by rw [isWinC e, Option.bind_some, if_neg n10, g1]; rfl, rfl, by rw [g3]; rfl, g4, g5, g6⟩)
  · refine Or.inl ⟨1, 1, by rw [isWinC_no (w_no e b0)]; rfl, by decide, Or.inl rfl, ?_⟩
    unfold f_X7_removes
    rw [isWinR_no (w_no e b0), Option.bind_some, if_pos rfl]
theorem st_119 {D : DataS} {X : ModS} {a : Nat → Int32} {t : Tr} (x1 res : Int32) (hD : DR D a t) {v0 v1 v2 v3 v4 : Nat} (b0 : v0 ≤ 99) (b1 : v1 ≤ 99) (b2 : v2 ≤ 99) (b3 : v3 ≤ 99) : stepR D X a x1 res (faD D (nI 119) (nI v0) (nI v1) (nI v2) (nI v4)) (reD D (nI 119) (nI v0) (nI v1) (nI v2) (nI v3) (nI v4)) (coD D (nI 119) (nI v0) (nI v1) (nI v2) (nI v3) (nI v4)) (doR (mk X x1 a res) (nI 119) (nI v0) (nI v1) (nI v2) (nI v3) (nI v4)) := by
  show stepR D X a x1 res ((f_X6_isWindow (nI v0)).bind fun q => if q = 0 then some 1 else if nI v2 < nI v1 then some 1 else (f_X6_isLimit (nI v4)).bind fun q => if q = 0 then some 1 else some 0) (f_X1_reasonAgainstWindow D (nI v1) (nI v2) (nI v3) (nI v4)) ((f_X5_open D.2.1 (nI v0) (nI v1) (nI v2) (nI v3) (nI v4)).bind fun q => some (D.1, q, D.2.2)) (f_X7_sets (mk X x1 a res) (nI v0) (nI v1) (nI v2) (nI v3) (nI v4))
  by_cases e : v0 < 4
  · by_cases e2 : v1 ≤ v2
    · rcases lim_cases (nI v4) with ⟨li, m1, m2, h4⟩ | hn
      · rw [h4]
        have hfa : ((f_X6_isWindow (nI v0)).bind fun q => if q = 0 then some (1 : Int32) else if nI v2 < nI v1 then some 1 else (f_X6_isLimit (nI li)).bind fun q => if q = 0 then some 1 else some 0) = some 0 := by
          rw [isWinC e, Option.bind_some, if_neg n10, if_neg (nI_nlt e2 (by omega)), isLim_ok m1 m2]; rfl
        rcases setR (M := mk X x1 a res) hD e e2 b2 b3 m1 m2 with ⟨g2, a', res', g4, g5⟩ | ⟨g2, W', m, a', g3, g3b, g4, g5, g6⟩
        · exact Or.inr (Or.inl ⟨3, nI v0, a', res', hfa, g2, by decide, g4, g5⟩)
        · exact Or.inr (Or.inr ⟨(D.1, W', D.2.2), a', m, t, hfa, g2, by rw [g3]; rfl, g4, g5, g6⟩)
      · refine Or.inl ⟨1, 2, by rw [isWinC e, Option.bind_some, if_neg n10, if_neg (nI_nlt e2 (by omega)), isLim_no hn]; rfl, by decide, Or.inr (Or.inl rfl), ?_⟩
        unfold f_X7_sets f_X7_isRange
        rw [isWinR e, Option.bind_some, if_neg n10, isNumR b1, Option.bind_some, if_neg n10, isNumR b2, Option.bind_some, if_neg n10, if_neg (nI_nlt e2 (by omega)), Option.bind_some, if_neg n10, isNumR b3, Option.bind_some, if_neg n10, inR_ok, Option.bind_some, if_neg (show ¬ ((1 : Int32) ≤ nI v4 ∧ nI v4 ≤ 24) from fun h9 => hn.elim (fun h8 => Int32.not_le.mpr h8 h9.1) (fun h8 => Int32.not_le.mpr h8 h9.2)), if_pos rfl]
    · refine Or.inl ⟨1, 2, by rw [isWinC e, Option.bind_some, if_neg n10, if_pos (nI_lt (by omega) (by omega))], by decide, Or.inr (Or.inl rfl), ?_⟩
      unfold f_X7_sets f_X7_isRange
      rw [isWinR e, Option.bind_some, if_neg n10, isNumR b1, Option.bind_some, if_neg n10, isNumR b2, Option.bind_some, if_neg n10, if_pos (show nI v2 < nI v1 from nI_lt (by omega) (by omega)), Option.bind_some, if_pos rfl]
  · refine Or.inl ⟨1, 1, by rw [isWinC_no (w_no e b0)]; rfl, by decide, Or.inl rfl, ?_⟩
    unfold f_X7_sets
    rw [isWinR_no (w_no e b0), Option.bind_some, if_pos rfl]
theorem step_ok {D : DataS} {X : ModS} {a : Nat → Int32} {t : Tr} {k : Nat} {ks ns cm : Nat → Int32} (x1 res : Int32) (hD : DR D a t) (hk : k < 20) (hcm : X.2.2.2.2.2.2.2.2.2.2.2.2.2.2.2.1 = cm) (hc : CC ks ns cm k) : stepR D X a x1 res (faD D (ks k) (ns (5 * k)) (ns (5 * k + 1)) (ns (5 * k + 2)) (ns (5 * k + 4))) (reD D (ks k) (ns (5 * k)) (ns (5 * k + 1)) (ns (5 * k + 2)) (ns (5 * k + 3)) (ns (5 * k + 4))) (coD D (ks k) (ns (5 * k)) (ns (5 * k + 1)) (ns (5 * k + 2)) (ns (5 * k + 3)) (ns (5 * k + 4))) (f_X7_does (mk X x1 a res) (nI (6 * k))) := by
  obtain ⟨kd, c1, c2, n, c3, c4⟩ := hc
  have hd : f_X7_does (mk X x1 a res) (nI (6 * k)) = doR (mk X x1 a res) (cm (6 * k)) (cm (6 * k + 1)) (cm (6 * k + 2)) (cm (6 * k + 3)) (cm (6 * k + 4)) (cm (6 * k + 5)) := does_eq (X := mk X x1 a res) hcm hk
  rw [hd, c1, c2]
  have p0 : ∀ h : 0 < n, ∃ v : Nat, v ≤ 99 ∧ ns (5 * k) = nI v ∧ cm (6 * k + 1) = nI v := fun h => cq_at c4 0 h
  have p1 : ∀ h : 1 < n, ∃ v : Nat, v ≤ 99 ∧ ns (5 * k + 1) = nI v ∧ cm (6 * k + 2) = nI v := fun h => cq_at c4 1 h
  rcases c3 with ⟨rfl, rfl⟩ | ⟨rfl, rfl⟩ | ⟨rfl, rfl⟩ | ⟨rfl, rfl⟩ | ⟨rfl, rfl⟩ | ⟨rfl, rfl⟩ | ⟨rfl, rfl⟩
  · obtain ⟨v0, b0, n0, m0⟩ := p0 (by omega)
    obtain ⟨v1, b1, n1, m1⟩ := p1 (by omega)
    rw [n0, n1, m0, m1]
    exact st_105 x1 res hD b0 b1 _ _ _ _ _ _
  · obtain ⟨v0, b0, n0, m0⟩ := p0 (by omega)
    obtain ⟨v1, b1, n1, m1⟩ := p1 (by omega)
    rw [n0, n1, m0, m1]
    exact st_112 x1 res hD b1 _ _ _ _ _ _ _
  · obtain ⟨v0, b0, n0, m0⟩ := p0 (by omega)
    obtain ⟨v1, b1, n1, m1⟩ := p1 (by omega)
    rw [n0, n1, m0, m1]
    exact st_109 x1 res hD b1 _ _ _ _ _ _ _
  · obtain ⟨v0, b0, n0, m0⟩ := p0 (by omega)
    obtain ⟨v1, b1, n1, m1⟩ := p1 (by omega)
    rw [n0, n1, m0, m1]
    exact st_114 x1 res hD b0 b1 _ _ _ _ _ _
  · obtain ⟨v0, b0, n0, m0⟩ := p0 (by omega)
    rw [n0, m0]
    exact st_100 x1 res hD _ _ _ _ _ _ _ _ _
  · obtain ⟨v0, b0, n0, m0⟩ := p0 (by omega)
    rw [n0, m0]
    exact st_120 x1 res hD b0 _ _ _ _ _ _ _ _
  · obtain ⟨v0, b0, n0, m0⟩ := p0 (by omega)
    obtain ⟨v1, b1, n1, m1⟩ := p1 (by omega)
    obtain ⟨v2, b2, n2, m2⟩ := cq_at c4 2 (by omega)
    obtain ⟨v3, b3, n3, m3⟩ := cq_at c4 3 (by omega)
    obtain ⟨v4, b4, n4, m4⟩ := cq_at c4 4 (by omega)
    rw [n0, n1, n2, n3, n4, m0, m1, show cm (6 * k + 3) = nI v2 from m2, show cm (6 * k + 4) = nI v3 from m3, show cm (6 * k + 5) = nI v4 from m4]
    exact st_119 x1 res hD b0 b1 b2 b3
