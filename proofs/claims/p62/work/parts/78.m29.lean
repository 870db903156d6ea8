/-! ===== mathematics, 29: the changes ===== -/
theorem PR.chg {T : MainS} {M : ModS} (h : PR T M) {D' : DataS} {a : Nat → Int32} {m x1 : Int32} {t' : Tr} (hD : DR D' a t') (hf : ∀ j, 70 ≤ j → a j = cpA M.2.1 0 10 70 j) (p1 p2 p3 p4 : Int32) : ∃ (H' : HistS) (M1 : ModS), f_X2_push T.2.2.2.2.1 T.1 = some H' ∧ f_X7_ends (mset (x1, M.2) a m M.2.2.2.2.2.1 M.2.2.2.2.2.2.1 M.2.2.2.2.2.2.2.1) 0 p1 p2 p3 p4 = some (m, M1) ∧ M1.1 = 0 ∧ PR (D', T.2.1, T.2.2.1, T.2.2.2.1, H', T.2.2.2.2.2) M1 := by
  obtain ⟨⟨t, h1⟩, h2, h3, h4, h5, h6, h7⟩ := h
  obtain ⟨H', c, e1, e2, e3, e4⟩ := push_ok h2 (b := a) (O := T.1) (t := t) (h1.congr (fun j hj => by rw [hf _ (by omega)]; exact begun_hi hj)) (fun j j1 j2 => by rw [hf _ j1]; exact begun_lo j2)
  refine ⟨H', _, e1, ends_ok (M := mset (x1, M.2) a m M.2.2.2.2.2.1 M.2.2.2.2.2.2.1 M.2.2.2.2.2.2.2.1) (c := c) e2 e3, rfl, ⟨t', ?_⟩, e4, ⟨h3.1, ?_⟩, h4, h5, h6, h7⟩
  · refine hD.congr (fun j hj => ?_)
    show cpA (if c = 8 then dnA a 8 else a) 10 (if c = 8 then 8 else c + 1) 70 j = a j
    rw [cpA_out (by split <;> omega)]
    split
    · unfold dnA; rw [if_neg (by omega)]
    · rfl
  · rcases h3.2 with h3 | ⟨h3, t2, ht2⟩
    · exact Or.inl h3
    · refine Or.inr ⟨h3, t2, ht2.congr (fun j hj => ?_)⟩
      show cpA (if c = 8 then dnA a 8 else a) 10 (if c = 8 then 8 else c + 1) 70 (630 + j) = M.2.1 (630 + j)
      have e5 : a (630 + j) = M.2.1 (630 + j) := by rw [hf _ (by omega)]; exact begun_lo (by omega)
      rw [cpA_out (by split <;> omega)]
      split
      · unfold dnA; rw [if_neg (by omega)]; exact e5
      · exact e5
theorem PR.bad {T : MainS} {M : ModS} (h : PR T M) {a : Nat → Int32} (hf : ∀ j, 70 ≤ j → a j = cpA M.2.1 0 10 70 j) {r d c w e u res p x1 by_ p1 p2 p3 p4 : Int32} (hR : RR r d c w e u) (hb : (by_ = 1 ∧ p1 = p) ∨ (by_ = 2 ∧ p2 = p) ∨ (by_ = 3 ∧ p3 = p) ∨ (by_ = 4 ∧ p4 = p)) (hp : p ≠ 0) : ∃ M1 : ModS, f_X7_ends (mset (x1, M.2) a res w e u) by_ p1 p2 p3 p4 = some (0, M1) ∧ M1.1 = p ∧ PR (T.1, T.2.1, T.2.2.1, T.2.2.2.1, T.2.2.2.2.1, T.2.2.2.2.2.1, T.2.2.2.2.2.2.1, T.2.2.2.2.2.2.2.1, r, d, c) M1 := by
  obtain ⟨⟨t, h1⟩, h2, h3, h4, h5, h6, -⟩ := h
  have hlo : ∀ j, j < 70 → cpA a 10 0 70 j = M.2.1 j := fun j hj => by
    have := cpA_in (a := a) (f := 10) (t := 0) hj
    rw [Nat.mul_zero, Nat.zero_add] at this
    rw [this, hf _ (by omega)]
    exact begun_hi hj
  have hhi : ∀ j, 70 ≤ j → j < 700 → cpA a 10 0 70 j = M.2.1 j := fun j j1 j2 => by
    rw [cpA_out (by omega), hf _ j1]; exact begun_lo j2
  exact ⟨_, ends_bad (M := mset (x1, M.2) a res w e u) hb hp, rfl, ⟨t, h1.congr hlo⟩, h2.congr hhi, h3.congr hhi, h4, h5, h6, hR⟩
abbrev mb (M : ModS) : ModS := (M.1, cpA M.2.1 0 10 70, M.2.2)
theorem PR.bad0 {T : MainS} {M : ModS} (h : PR T M) {p by_ p1 p2 p3 p4 : Int32} (hb : (by_ = 1 ∧ p1 = p) ∨ (by_ = 2 ∧ p2 = p) ∨ (by_ = 3 ∧ p3 = p) ∨ (by_ = 4 ∧ p4 = p)) (hp : p ≠ 0) : ∃ M1 : ModS, f_X7_ends (mb M) by_ p1 p2 p3 p4 = some (0, M1) ∧ M1.1 = p ∧ PR T M1 :=
  h.bad (a := cpA M.2.1 0 10 70) (x1 := M.1) (res := M.2.2.2.2.1) (fun _ _ => rfl) h.2.2.2.2.2.2 hb hp
theorem PR.begun {T : MainS} {M : ModS} (h : PR T M) : ∃ t, DR T.1 (mb M).2.1 t := by
  obtain ⟨⟨t, hD⟩, -⟩ := h
  exact ⟨t, hD.congr (fun j hj => begun_lo (by omega))⟩
/-! the class's reasons are 1, 2 and 3 -/
theorem bd_ne {α : Type} {o : Option α} {f : α → Option Int32} {x r : Int32} (hf : ∀ a, f a = some r → r ≠ x) (h : o.bind f = some r) : r ≠ x := by
  match o, h with
  | none, h => cases h
  | some a, h => exact hf a h
theorem sm_ne {y r x : Int32} (hy : y ≠ x) (h : some y = some r) : r ≠ x := by
  rw [← Option.some.inj h]; exact hy
theorem insN4 {D : DataS} {k p r : Int32} (h : f_X1_reasonAgainstInsert D k p = some r) : r ≠ 4 := by
  unfold f_X1_reasonAgainstInsert at h
  refine bd_ne (fun q h => ?_) h
  split at h
  · refine bd_ne (fun q h => ?_) h
    split at h
    · refine bd_ne (fun q h => ?_) h
      split at h
      · exact sm_ne (by decide) h
      · exact sm_ne (by decide) h
    · exact sm_ne (by decide) h
  · exact sm_ne (by decide) h
theorem priN4 {D : DataS} {k p r : Int32} (h : f_X1_reasonAgainstPriority D k p = some r) : r ≠ 4 := by
  unfold f_X1_reasonAgainstPriority at h
  refine bd_ne (fun q h => ?_) h
  refine bd_ne (fun q h => ?_) h
  split at h
  · exact sm_ne (by decide) h
  · exact sm_ne (by decide) h
theorem movN4 {D : DataS} {k p r : Int32} (h : f_X1_reasonAgainstMove D k p = some r) : r ≠ 4 := by
  unfold f_X1_reasonAgainstMove at h
  refine bd_ne (fun q h => ?_) h
  split at h
  · refine bd_ne (fun q h => ?_) h
    refine bd_ne (fun q h => ?_) h
    split at h
    · exact sm_ne (by decide) h
    · exact sm_ne (by decide) h
  · exact sm_ne (by decide) h
theorem RR.rej {r d : Int32} (h : r ≠ 4) : RR r d 0 r d 0 := ⟨rfl, rfl, rfl, fun h9 => absurd h9 h, fun h9 => absurd rfl h9⟩
theorem reqPt {T : MainS} {K s : Int32} (g : f_X4_slotOf T.1.1 K = some s) : f_X6_requirePoint T K = if s = 0 then some (.inl NSE, T) else some (.inr s, T) := by
  unfold f_X6_requirePoint
  rw [g, Option.bind_some]
/-- a refused change -/
theorem QQ.bad {names : List String} {fC : Option ((String ⊕ Int32) × MainS)} {T : MainS} {M0 M1 : ModS} {E : String} {by_ p1 p2 p3 p4 p : Int32} (h1 : fC = some (.inl E, T)) (he : f_X7_ends M0 by_ p1 p2 p3 p4 = some (0, M1)) (h2 : M1.1 = p) (h3 : PR T M1) (h4 : pq_cd names (α := Int32) (.inl E) = some p) (h5 : p ≠ 0) : QQ names fC ((some (by_, M0)).bind fun q4 => (f_X7_ends q4.2 q4.1 p1 p2 p3 p4).bind fun q6 => some (q6.1, q6.2)) := by
  refine QQ.thr (E := E) (b := 0) (M := M1) h1 ?_ h3 (by rw [h2]; exact h4) (by rw [h2]; exact h5)
  rw [Option.bind_some]
  show (f_X7_ends M0 by_ p1 p2 p3 p4).bind _ = _
  rw [he]; rfl
/-- .. and one that came to be -/
theorem QQ.chg {names : List String} {fC : Option ((String ⊕ Int32) × MainS)} {T : MainS} {M0 M1 : ModS} {m p1 p2 p3 p4 : Int32} (h1 : fC = some (.inr m, T)) (he : f_X7_ends M0 0 p1 p2 p3 p4 = some (m, M1)) (h2 : M1.1 = 0) (h3 : PR T M1) : QQ names fC ((some ((0 : Int32), M0)).bind fun q4 => (f_X7_ends q4.2 q4.1 p1 p2 p3 p4).bind fun q6 => some (q6.1, q6.2)) := by
  refine QQ.ret (b := m) (M := M1) h1 ?_ h3 h2
  rw [Option.bind_some]
  show (f_X7_ends M0 0 p1 p2 p3 p4).bind _ = _
  rw [he]; rfl
theorem ma_insert : pq_Ma_insert PR := by
  intro T M p1 p2 h
  obtain ⟨t, hD⟩ := h.begun
  show QQ [IAE, UOE] _ _
  unfold f_X6_insert f_X7_insert
  rw [beginsR, Option.bind_some]
  obtain ⟨Mb, b1, b2, b3⟩ := h.bad0 (by_ := 2) (p := 1) (p1 := 0) (p2 := 1) (p3 := 2) (p4 := 0) (Or.inr (Or.inl ⟨rfl, rfl⟩)) (by decide)
  rcases num_cases p1 with ⟨kk, hk, rfl⟩ | hn
  · rcases num_cases p2 with ⟨pp, hp, rfl⟩ | hn2
    · rw [reqN_ok hk, reqN_ok hp, tu_r, tu_r]
      rcases insR (M := mb M) hD hk hp with ⟨r, d, a, res, g1, g2, g3, g4, g5⟩ | ⟨g2, m, D', a, t', g3, g4, g5, g6⟩
      · obtain ⟨M1, e1, e2, e3⟩ := h.bad (x1 := M.1) (res := res) (by_ := 3) (p := 2) (p1 := 0) (p2 := 1) (p3 := 2) (p4 := 0) g5 (RR.rej (d := d) (insN4 g2)) (Or.inr (Or.inr (Or.inl ⟨rfl, rfl⟩))) (by decide)
        rw [g2, Option.bind_some, if_neg g1, g3, Option.bind_some, g4]
        exact QQ.bad (E := UOE) rfl e1 e2 e3 (pcd_2 _ (by decide)) (by decide)
      · obtain ⟨H', M1, e0, e1, e2, e3⟩ := h.chg (x1 := M.1) (m := m) g6 g5 0 1 2 0
        rw [g2, Option.bind_some, if_pos rfl, e0, Option.bind_some, g3, Option.bind_some, g4]
        exact QQ.chg rfl e1 e2 e3
    · rw [reqN_ok hk, reqN_no hn2, tu_r, show f_X7_inserts (mb M) (nI kk) p2 = some (2, mb M) from by unfold f_X7_inserts; rw [isNumR hk, isNumR_no hn2, Option.bind_some, Option.bind_some, if_neg n10, if_pos rfl]]
      exact QQ.bad (E := IAE) (T := T) rfl b1 b2 b3 (pcd_1 _ _) (by decide)
  · rw [reqN_no hn, show f_X7_inserts (mb M) p1 p2 = some (2, mb M) from by unfold f_X7_inserts; rw [isNumR_no hn, Option.bind_some, if_pos rfl]]
    exact QQ.bad (E := IAE) (T := T) rfl b1 b2 b3 (pcd_1 _ _) (by decide)
theorem ma_delete : pq_Ma_delete PR := by
  intro T M p1 h
  obtain ⟨t, hD⟩ := h.begun
  show QQ [NSE] _ _
  unfold f_X6_delete f_X7_delete
  rw [beginsR, Option.bind_some]
  rcases delR (M := mb M) (K := p1) hD with ⟨g1, g2⟩ | ⟨s, s0, g1, m, D', a, t', g3, g4, g5, g6⟩
  · obtain ⟨M1, e1, e2, e3⟩ := h.bad0 (by_ := 4) (p := 1) (p1 := 0) (p2 := 0) (p3 := 0) (p4 := 1) (Or.inr (Or.inr (Or.inr ⟨rfl, rfl⟩))) (by decide)
    rw [reqPt g1, if_pos rfl, g2]
    exact QQ.bad (E := NSE) (T := T) rfl e1 e2 e3 (pcd_1 _ _) (by decide)
  · obtain ⟨H', M1, e0, e1, e2, e3⟩ := h.chg (x1 := M.1) (m := m) g6 g5 0 0 0 1
    rw [reqPt g1, if_neg s0, tr_r, e0, Option.bind_some, g3, Option.bind_some, g4]
    exact QQ.chg rfl e1 e2 e3
theorem ma_changePriority : pq_Ma_changePriority PR := by
  intro T M p1 p2 h
  obtain ⟨t, hD⟩ := h.begun
  show QQ [NSE, IAE, UOE] _ _
  unfold f_X6_changePriority f_X7_changePriority
  rw [beginsR, Option.bind_some]
  obtain ⟨Mm, c1, c2, c3⟩ := h.bad0 (by_ := 4) (p := 1) (p1 := 0) (p2 := 2) (p3 := 3) (p4 := 1) (Or.inr (Or.inr (Or.inr ⟨rfl, rfl⟩))) (by decide)
  rcases num_cases p2 with ⟨pp, hp, rfl⟩ | hn
  · rcases priR (M := mb M) (K := p1) hD hp with ⟨g1, g2⟩ | ⟨s, s0, g1, ⟨r, d, a, res, g0, g2, g3, g4, g5⟩ | ⟨g2, m, D', a, t', g3, g4, g5, g6⟩⟩
    · rw [reqPt g1, if_pos rfl, g2]
      exact QQ.bad (E := NSE) (T := T) rfl c1 c2 c3 (pcd_1 _ _) (by decide)
    · obtain ⟨M1, e1, e2, e3⟩ := h.bad (x1 := M.1) (res := res) (by_ := 3) (p := 3) (p1 := 0) (p2 := 2) (p3 := 3) (p4 := 1) g5 (RR.rej (d := d) (priN4 g2)) (Or.inr (Or.inr (Or.inl ⟨rfl, rfl⟩))) (by decide)
      rw [reqPt g1, if_neg s0, tr_r, reqN_ok hp, tu_r, g2, Option.bind_some, if_neg g0, g3, Option.bind_some, g4]
      exact QQ.bad (E := UOE) rfl e1 e2 e3 (pcd_3 _ (by decide) (by decide)) (by decide)
    · obtain ⟨H', M1, e0, e1, e2, e3⟩ := h.chg (x1 := M.1) (m := m) g6 g5 0 2 3 1
      rw [reqPt g1, if_neg s0, tr_r, reqN_ok hp, tu_r, g2, Option.bind_some, if_pos rfl, e0, Option.bind_some, g3, Option.bind_some, g4]
      exact QQ.chg rfl e1 e2 e3
  · rcases key_cases (T := T.1.1) t p1 with ⟨i, hi, e⟩ | hmiss
    · obtain ⟨Mb, b1, b2, b3⟩ := h.bad0 (by_ := 2) (p := 2) (p1 := 0) (p2 := 2) (p3 := 3) (p4 := 1) (Or.inr (Or.inl ⟨rfl, rfl⟩)) (by decide)
      rw [reqP_hit hD.1 hi e, tr_r, reqN_no hn, show f_X7_prefers (mb M) p1 p2 = some (2, mb M) from by unfold f_X7_prefers; rw [findR_hit hD.1 hD.mr hi e, Option.bind_some, if_pos (nI_pos' (by have := hD.1.le; omega)), isNumR_no hn, Option.bind_some, if_pos rfl]]
      exact QQ.bad (E := IAE) (T := T) rfl b1 b2 b3 (pcd_2 _ (by decide)) (by decide)
    · rw [reqP_miss hD.1 hmiss, show f_X7_prefers (mb M) p1 p2 = some (4, mb M) from by unfold f_X7_prefers; rw [findR_miss hD.1 hD.mr hmiss, Option.bind_some, if_neg neg1le]]
      exact QQ.bad (E := NSE) (T := T) rfl c1 c2 c3 (pcd_1 _ _) (by decide)
theorem ma_moveKey : pq_Ma_moveKey PR := by
  intro T M p1 p2 h
  obtain ⟨t, hD⟩ := h.begun
  show QQ [NSE, IAE, UOE] _ _
  unfold f_X6_moveKey f_X7_moveKey
  rw [beginsR, Option.bind_some]
  obtain ⟨Mm, c1, c2, c3⟩ := h.bad0 (by_ := 4) (p := 1) (p1 := 0) (p2 := 2) (p3 := 3) (p4 := 1) (Or.inr (Or.inr (Or.inr ⟨rfl, rfl⟩))) (by decide)
  rcases num_cases p2 with ⟨pp, hp, rfl⟩ | hn
  · rcases movR (M := mb M) (K := p1) hD hp with ⟨g1, g2⟩ | ⟨s, s0, g1, ⟨r, d, q, a, res, g0, g2, gq, g3, g4, g5⟩ | ⟨g2, m, D', a, t', g3, g4, g5, g6⟩⟩
    · rw [reqPt g1, if_pos rfl, g2]
      exact QQ.bad (E := NSE) (T := T) rfl c1 c2 c3 (pcd_1 _ _) (by decide)
    · obtain ⟨M1, e1, e2, e3⟩ := h.bad (x1 := M.1) (res := res) (by_ := 3) (p := 3) (p1 := 0) (p2 := 2) (p3 := 3) (p4 := 1) g5 (RR.rej (d := d) (movN4 g2)) (Or.inr (Or.inr (Or.inl ⟨rfl, rfl⟩))) (by decide)
      rw [reqPt g1, if_neg s0, tr_r, reqN_ok hp, tu_r, g2, Option.bind_some, if_neg g0, gq, Option.bind_some, g3, Option.bind_some, g4]
      exact QQ.bad (E := UOE) rfl e1 e2 e3 (pcd_3 _ (by decide) (by decide)) (by decide)
    · obtain ⟨H', M1, e0, e1, e2, e3⟩ := h.chg (x1 := M.1) (m := m) g6 g5 0 2 3 1
      rw [reqPt g1, if_neg s0, tr_r, reqN_ok hp, tu_r, g2, Option.bind_some, if_pos rfl, e0, Option.bind_some, g3, Option.bind_some, g4]
      exact QQ.chg rfl e1 e2 e3
  · rcases key_cases (T := T.1.1) t p1 with ⟨i, hi, e⟩ | hmiss
    · obtain ⟨Mb, b1, b2, b3⟩ := h.bad0 (by_ := 2) (p := 2) (p1 := 0) (p2 := 2) (p3 := 3) (p4 := 1) (Or.inr (Or.inl ⟨rfl, rfl⟩)) (by decide)
      rw [reqP_hit hD.1 hi e, tr_r, reqN_no hn, show f_X7_moves (mb M) p1 p2 = some (2, mb M) from by unfold f_X7_moves; rw [findR_hit hD.1 hD.mr hi e, Option.bind_some, if_pos (nI_pos' (by have := hD.1.le; omega)), isNumR_no hn, Option.bind_some, if_pos rfl]]
      exact QQ.bad (E := IAE) (T := T) rfl b1 b2 b3 (pcd_2 _ (by decide)) (by decide)
    · rw [reqP_miss hD.1 hmiss, show f_X7_moves (mb M) p1 p2 = some (4, mb M) from by unfold f_X7_moves; rw [findR_miss hD.1 hD.mr hmiss, Option.bind_some, if_neg neg1le]]
      exact QQ.bad (E := NSE) (T := T) rfl c1 c2 c3 (pcd_1 _ _) (by decide)
theorem ma_deleteRange : pq_Ma_deleteRange PR := by
  intro T M p1 p2 h
  obtain ⟨t, hD⟩ := h.begun
  show QQ [IAE] _ _
  unfold f_X6_deleteRange f_X7_deleteRange
  rw [beginsR, Option.bind_some]
  rcases range_cases p1 p2 with ⟨lo, hi, l1, l2, rfl, rfl, c1, c2⟩ | ⟨c1, c2⟩
  · obtain ⟨m, T', a, t', g3, g4, g5, g6⟩ := clrR (M := mb M) hD l1 l2
    obtain ⟨H', M1, e0, e1, e2, e3⟩ := h.chg (x1 := M.1) (m := m) g6 g5 0 1 0 0
    rw [c1, tu_r, e0, Option.bind_some, g3, Option.bind_some, g4]
    exact QQ.chg rfl e1 e2 e3
  · obtain ⟨Mb, b1, b2, b3⟩ := h.bad0 (by_ := 2) (p := 1) (p1 := 0) (p2 := 1) (p3 := 0) (p4 := 0) (Or.inr (Or.inl ⟨rfl, rfl⟩)) (by decide)
    rw [c1, show f_X7_clears (mb M) p1 p2 = some (2, mb M) from by unfold f_X7_clears; rw [c2, Option.bind_some, if_pos rfl]]
    exact QQ.bad (E := IAE) (T := T) rfl b1 b2 b3 (pcd_1 _ _) (by decide)
theorem isLim_ok {k : Nat} (h1 : 1 ≤ k) (h2 : k ≤ 24) : f_X6_isLimit (nI k) = some 1 := by
  unfold f_X6_isLimit
  rw [if_neg (show ¬ nI k < 1 from nI_nlt (b := 1) (by omega) (by omega)), if_neg (show ¬ (24 : Int32) < nI k from nI_nlt (a := 24) (by omega) (by omega))]
theorem isLim_no {x : Int32} (h : x < 1 ∨ 24 < x) : f_X6_isLimit x = some 0 := by
  unfold f_X6_isLimit
  by_cases e : x < 1
  · rw [if_pos e]
  · rw [if_neg e, if_pos (h.resolve_left e)]
theorem ma_setWindow : pq_Ma_setWindow PR := by
  intro T M p1 p2 p3 p4 p5 h
  obtain ⟨t, hD⟩ := h.begun
  show QQ [IOB, IAE, UOE] _ _
  unfold f_X6_setWindow f_X7_setWindow
  rw [beginsR, Option.bind_some]
  obtain ⟨Mb, b1, b2, b3⟩ := h.bad0 (by_ := 2) (p := 2) (p1 := 1) (p2 := 2) (p3 := 3) (p4 := 0) (Or.inr (Or.inl ⟨rfl, rfl⟩)) (by decide)
  rcases win_cases p1 with ⟨w, hw, rfl⟩ | hn
  · rcases range_cases p2 p3 with ⟨lo, hi, l1, l2, rfl, rfl, c1, c2⟩ | ⟨c1, c2⟩
    · rcases num_cases p4 with ⟨pp, hp, rfl⟩ | hn
      · rcases lim_cases p5 with ⟨li, m1, m2, rfl⟩ | hn
        · rw [reqW_ok hw, tu_r, c1, tu_r, reqN_ok hp, tu_r, isLim_ok m1 m2, Option.bind_some, if_neg n10]
          rcases setR (M := mb M) hD hw l1 l2 hp m1 m2 with ⟨g2, a, res, g4, g5⟩ | ⟨g2, W', m, a, g3, g3b, g4, g5, g6⟩
          · obtain ⟨M1, e1, e2, e3⟩ := h.bad (x1 := M.1) (res := res) (by_ := 3) (p := 3) (p1 := 1) (p2 := 2) (p3 := 3) (p4 := 0) g5 (RR.rej (r := 3) (d := nI w) (by decide)) (Or.inr (Or.inr (Or.inl ⟨rfl, rfl⟩))) (by decide)
            rw [g2, Option.bind_some, if_neg (show ¬ (3 : Int32) = 0 by decide), g4]
            exact QQ.bad (E := UOE) rfl e1 e2 e3 (pcd_3 _ (by decide) (by decide)) (by decide)
          · obtain ⟨H', M1, e0, e1, e2, e3⟩ := h.chg (x1 := M.1) (m := m) g6 g5 1 2 3 0
            rw [g2, Option.bind_some, if_pos rfl, e0, Option.bind_some, g3, Option.bind_some, g3b, Option.bind_some, g4]
            exact QQ.chg rfl e1 e2 e3
        · rw [reqW_ok hw, tu_r, c1, tu_r, reqN_ok hp, tu_r, isLim_no hn, Option.bind_some, if_pos rfl, show f_X7_sets (mb M) (nI w) (nI lo) (nI hi) (nI pp) p5 = some (2, mb M) from by
            unfold f_X7_sets
            rw [isWinR hw, Option.bind_some, if_neg n10, c2, Option.bind_some, if_neg n10, isNumR hp, Option.bind_some, if_neg n10, inR_ok, Option.bind_some, if_neg (show ¬ ((1 : Int32) ≤ p5 ∧ p5 ≤ 24) from fun h9 => hn.elim (fun h8 => Int32.not_le.mpr h8 h9.1) (fun h8 => Int32.not_le.mpr h8 h9.2)), if_pos rfl]]
          exact QQ.bad (E := IAE) (T := T) rfl b1 b2 b3 (pcd_2 _ (by decide)) (by decide)
      · rw [reqW_ok hw, tu_r, c1, tu_r, reqN_no hn, show f_X7_sets (mb M) (nI w) (nI lo) (nI hi) p4 p5 = some (2, mb M) from by
          unfold f_X7_sets
          rw [isWinR hw, Option.bind_some, if_neg n10, c2, Option.bind_some, if_neg n10, isNumR_no hn, Option.bind_some, if_pos rfl]]
        exact QQ.bad (E := IAE) (T := T) rfl b1 b2 b3 (pcd_2 _ (by decide)) (by decide)
    · rw [reqW_ok hw, tu_r, c1, show f_X7_sets (mb M) (nI w) p2 p3 p4 p5 = some (2, mb M) from by
        unfold f_X7_sets
        rw [isWinR hw, Option.bind_some, if_neg n10, c2, Option.bind_some, if_pos rfl]]
      exact QQ.bad (E := IAE) (T := T) rfl b1 b2 b3 (pcd_2 _ (by decide)) (by decide)
  · obtain ⟨Mc, c1, c2, c3⟩ := h.bad0 (by_ := 1) (p := 1) (p1 := 1) (p2 := 2) (p3 := 3) (p4 := 0) (Or.inl ⟨rfl, rfl⟩) (by decide)
    rw [reqW_no hn, show f_X7_sets (mb M) p1 p2 p3 p4 p5 = some (1, mb M) from by unfold f_X7_sets; rw [isWinR_no hn, Option.bind_some, if_pos rfl]]
    exact QQ.bad (E := IOB) (T := T) rfl c1 c2 c3 (pcd_1 _ _) (by decide)
theorem ma_removeWindow : pq_Ma_removeWindow PR := by
  intro T M p1 h
  obtain ⟨t, hD⟩ := h.begun
  show QQ [IOB, NSE] _ _
  unfold f_X6_removeWindow f_X7_removeWindow f_X6_requireOpenWindow
  rw [beginsR, Option.bind_some]
  rcases win_cases p1 with ⟨w, hw, rfl⟩ | hn
  · rw [reqW_ok hw, tu_r]
    rcases remR (M := mb M) hD hw with ⟨g1, g2⟩ | ⟨g1, W', m, a, g3, g3b, g4, g5, g6⟩
    · obtain ⟨M1, e1, e2, e3⟩ := h.bad0 (by_ := 4) (p := 2) (p1 := 1) (p2 := 0) (p3 := 0) (p4 := 2) (Or.inr (Or.inr (Or.inr ⟨rfl, rfl⟩))) (by decide)
      rw [g1, Option.bind_some, if_pos rfl, g2]
      exact QQ.bad (E := NSE) (T := T) rfl e1 e2 e3 (pcd_2 _ (by decide)) (by decide)
    · obtain ⟨H', M1, e0, e1, e2, e3⟩ := h.chg (x1 := M.1) (m := m) g6 g5 1 0 0 2
      rw [g1, Option.bind_some, if_neg n10, tr_r, g3b, Option.bind_some, e0, Option.bind_some, g3, Option.bind_some, g4]
      exact QQ.chg rfl e1 e2 e3
  · obtain ⟨Mc, c1, c2, c3⟩ := h.bad0 (by_ := 1) (p := 1) (p1 := 1) (p2 := 0) (p3 := 0) (p4 := 2) (Or.inl ⟨rfl, rfl⟩) (by decide)
    rw [reqW_no hn, show f_X7_removes (mb M) p1 = some (1, mb M) from by unfold f_X7_removes; rw [isWinR_no hn, Option.bind_some, if_pos rfl]]
    exact QQ.bad (E := IOB) (T := T) rfl c1 c2 c3 (pcd_1 _ _) (by decide)
