/-! ===== mathematics, 24: ranges, windows, totals, rejections ===== -/
theorem ma_countInRange : pq_Ma_countInRange PR := by
  intro T M p1 p2 h
  obtain ⟨t, hw, hM, -⟩ := h.now
  show QQ [IAE] _ _
  unfold f_X6_countInRange f_X7_countInRange
  rcases range_cases p1 p2 with ⟨lo, hi, l1, l2, rfl, rfl, c1, c2⟩ | ⟨c1, c2⟩
  · have hle : nI lo ≤ nI hi := nI_le l1 (by omega)
    have hh : nI hi ≤ 1000 := nI_le (b := 1000) (by omega) (by omega)
    rw [c1, tu_r, c2, Option.bind_some, isFine_1, Option.bind_some, if_neg n10, belowR (M := (0, M.2)) hw hM, belowR (M := (0, M.2)) hw hM, Option.bind_some, Option.bind_some, plt_succ hh, nI_sub (cnt_mono hle _)]
    refine QQ.ret (T := T) (M := (0, M.2)) (b := nI (cnt T.1.1 (ple (nI hi)) t.slots - cnt T.1.1 (plt (nI lo)) t.slots)) ?_ rfl h rfl
    show (f_X4_countBetween T.1.1 (nI lo) (nI hi)).bind _ = _
    rw [countBetween_ok hw hle hh]; rfl
  · rw [c1, c2, Option.bind_some, isFine_0]
    exact QQ.thr (E := IAE) (b := 0) (M := (1, M.2)) rfl rfl h (pcd_1 _ _) e10
theorem ma_countInRangeByScan : pq_Ma_countInRangeByScan PR := by
  intro T M p1 p2 h
  obtain ⟨t, hw, hM, -⟩ := h.now
  show QQ [IAE] _ _
  unfold f_X6_countInRangeByScan f_X7_countInRangeByScan f_X7_countInRange
  rcases range_cases p1 p2 with ⟨lo, hi, l1, l2, rfl, rfl, c1, c2⟩ | ⟨c1, c2⟩
  · have hle : nI lo ≤ nI hi := nI_le l1 (by omega)
    have hh : nI hi ≤ 1000 := nI_le (b := 1000) (by omega) (by omega)
    rw [c1, tu_r, c2, Option.bind_some, isFine_1, Option.bind_some, if_neg n10, belowR (M := (0, M.2)) hw hM, belowR (M := (0, M.2)) hw hM, Option.bind_some, Option.bind_some, plt_succ hh, nI_sub (cnt_mono hle _)]
    refine QQ.ret (T := T) (M := (0, M.2)) (b := nI (cnt T.1.1 (ple (nI hi)) t.slots - cnt T.1.1 (plt (nI lo)) t.slots)) ?_ rfl h rfl
    show (f_X4_scanAbove T.1.1 (nI lo) (nI hi) 0).bind _ = _
    rw [scanAbove_ok hw.1, sum_wA_range hw hle]; rfl
  · rw [c1, c2, Option.bind_some, isFine_0]
    exact QQ.thr (E := IAE) (b := 0) (M := (1, M.2)) rfl rfl h (pcd_1 _ _) e10
/-- the reference's top of a range -/
theorem topInRangeR {M : ModS} {T : TreeS} {t : Tr} (h : WF T t) (hM : MR M T t) {lo hi : Nat} (l1 : lo ≤ hi) (l2 : hi ≤ 99) : f_X7_topInRange M (nI lo) (nI hi) = if cnt T (plt (nI lo)) t.slots < cnt T (ple (nI hi)) t.slots then some (T.1 (t.sl (t.tp (cnt T (plt (nI lo)) t.slots) (cnt T (ple (nI hi)) t.slots - 1))), (0, M.2)) else some (0, (2, M.2)) := by
  have h24 := h.le
  have hle : nI lo ≤ nI hi := nI_le l1 (by omega)
  have hh : nI hi ≤ 1000 := nI_le (b := 1000) (by omega) (by omega)
  have c2 := cnt_le (T := T) (p := ple (nI hi)) (t := t)
  have c3 := cnt_mono (T := T) hle t.slots
  unfold f_X7_topInRange
  rw [isRangeR l1 l2, Option.bind_some, if_neg n10, belowR h hM, belowR h hM, Option.bind_some, Option.bind_some, plt_succ hh]
  generalize cnt T (plt (nI lo)) t.slots = a at *
  generalize cnt T (ple (nI hi)) t.slots = b at *
  by_cases e : a < b
  · have ht := tp_in (t := t) a (b - 1) (by omega) (by omega)
    rw [if_pos e, show nI b - 1 = nI (b - 1) from nI_dec1 (by omega), topR_ok (h.th hM) h24 (by omega) (by omega), Option.bind_some]
    unfold f_X7_topInRange_c32
    rw [if_neg n10, if_pos (nI_pos' (by omega))]
    show (f_X7_key (0, M.2) _).bind _ = _
    rw [key_ok (M := (0, M.2)) (by omega), Option.bind_some]
    show some (mK M _, _) = _
    rw [(hM.at (by omega)).1]
  · rw [if_neg e, show a = b by omega, top_none (by omega) (nI_dec_lt b (by omega)), Option.bind_some]
    unfold f_X7_topInRange_c32
    rw [if_neg n10, if_neg neg1le]
theorem topInRangeR_no {M : ModS} {p1 p2 : Int32} (h : f_X7_isRange p1 p2 = some 0) : f_X7_topInRange M p1 p2 = some (0, (1, M.2)) := by
  unfold f_X7_topInRange
  rw [h, Option.bind_some, if_pos rfl]
  unfold f_X7_topInRange_c32
  rw [if_pos rfl]
theorem top_QQ {T : MainS} {M : ModS} (h : PR T M) {t : Tr} (hw : WF T.1.1 t) (hM : MR M T.1.1 t) {lo hi : Nat} (l1 : lo ≤ hi) (l2 : hi ≤ 99) {q : Int32} (hq : q = nI (if cnt T.1.1 (plt (nI lo)) t.slots < cnt T.1.1 (ple (nI hi)) t.slots then t.sl (t.tp (cnt T.1.1 (plt (nI lo)) t.slots) (cnt T.1.1 (ple (nI hi)) t.slots - 1)) else 0)) : QQ [IAE, NSE] (f_X6_keyInFound T q) (f_X7_topInRange M (nI lo) (nI hi)) := by
  rw [topInRangeR hw hM l1 l2, hq]
  have c2 := cnt_le (T := T.1.1) (p := ple (nI hi)) (t := t)
  by_cases e : cnt T.1.1 (plt (nI lo)) t.slots < cnt T.1.1 (ple (nI hi)) t.slots
  · have ht := tp_in (t := t) (cnt T.1.1 (plt (nI lo)) t.slots) (cnt T.1.1 (ple (nI hi)) t.slots - 1) (by omega) (by omega)
    rw [if_pos e, if_pos e]
    exact QQ.ret (M := (0, M.2)) (keyIn_ok hw (by omega)) rfl h rfl
  · rw [if_neg e, if_neg e]
    exact QQ.thr (M := (2, M.2)) (keyIn_no T) rfl h (pcd_2 _ (by decide)) e20
theorem ma_topInRange : pq_Ma_topInRange PR := by
  intro T M p1 p2 h
  obtain ⟨t, hw, hM, -⟩ := h.now
  show QQ [IAE, NSE] _ _
  unfold f_X6_topInRange
  rcases range_cases p1 p2 with ⟨lo, hi, l1, l2, rfl, rfl, c1, c2⟩ | ⟨c1, c2⟩
  · rw [c1, tu_r]
    show QQ _ ((f_X4_topSlot T.1.1 (nI lo) (nI hi)).bind fun q4 => pq_tr (f_X6_keyInFound T q4) fun q5 T7 => some (.inr q5, T7)) _
    rw [topSlot_ok hw (nI_le l1 (by omega)), Option.bind_some, tr_id]
    exact top_QQ h hw hM l1 l2 rfl
  · rw [c1]
    exact QQ.thr (E := IAE) (M := (1, M.2)) rfl (topInRangeR_no c2) h (pcd_1 _ _) e10
theorem ma_topInRangeByScan : pq_Ma_topInRangeByScan PR := by
  intro T M p1 p2 h
  obtain ⟨t, hw, hM, -⟩ := h.now
  show QQ [IAE, NSE] _ _
  unfold f_X6_topInRangeByScan f_X7_topInRangeByScan
  rw [bd_id]
  rcases range_cases p1 p2 with ⟨lo, hi, l1, l2, rfl, rfl, c1, c2⟩ | ⟨c1, c2⟩
  · rw [c1, tu_r]
    show QQ _ ((f_X4_scanTop T.1.1 (nI lo) (nI hi)).bind fun q4 => pq_tr (f_X6_keyInFound T q4) fun q5 T7 => some (.inr q5, T7)) _
    rw [scanTop_ok hw (nI_le l1 (by omega)), Option.bind_some, tr_id]
    exact top_QQ h hw hM l1 l2 rfl
  · rw [c1]
    exact QQ.thr (E := IAE) (M := (1, M.2)) rfl (topInRangeR_no c2) h (pcd_1 _ _) e10
theorem countAboveR {M : ModS} {T : TreeS} {t : Tr} (h : WF T t) (hM : MR M T t) {lo hi : Nat} (l1 : lo ≤ hi) (l2 : hi ≤ 99) {k : Nat} (hk : k ≤ 99) : f_X7_countAbove M (nI lo) (nI hi) (nI k) = some (nI (sumL (wA T (nI lo) (nI hi) (nI k)) t.slots), (0, M.2)) := by
  have h24 := h.le
  have hle : nI lo ≤ nI hi := nI_le l1 (by omega)
  have hh : nI hi ≤ 1000 := nI_le (b := 1000) (by omega) (by omega)
  have c2 := cnt_le (T := T) (p := ple (nI hi)) (t := t)
  have c3 := cnt_mono (T := T) hle t.slots
  have hr := range_sum h.2.1 hle (fun s => if nI k ≤ T.2.1 s then 1 else 0)
  unfold f_X7_countAbove
  rw [isRangeR l1 l2, Option.bind_some, if_neg n10, isNumR hk, Option.bind_some, if_neg n10, isFine_1, Option.bind_some, if_neg n10, belowR (M := (0, M.2)) h hM, Option.bind_some, show (0 : Int32) = nI 0 from rfl]
  have := countAbove_c39 (M := (0, M.2)) (p := nI k) h hM hh 200 (cnt T (plt (nI lo)) t.slots) 0 (by omega) (by omega)
  rw [Nat.zero_add, ← hr] at this
  exact this
theorem countAboveR_no {M : ModS} {p1 p2 p3 : Int32} (h : f_X7_isRange p1 p2 = some 0 ∨ (f_X7_isRange p1 p2 = some 1 ∧ f_X7_isNumber p3 = some 0)) : f_X7_countAbove M p1 p2 p3 = some (0, (1, M.2)) := by
  unfold f_X7_countAbove
  rcases h with h | ⟨h, h2⟩
  · rw [h, Option.bind_some, if_pos rfl, isFine_0, Option.bind_some, if_pos rfl]
  · rw [h, Option.bind_some, if_neg n10, h2, Option.bind_some, if_pos rfl, isFine_0, Option.bind_some, if_pos rfl]
theorem ma_countAbove : pq_Ma_countAbove PR := by
  intro T M p1 p2 p3 h
  obtain ⟨t, hw, hM, -⟩ := h.now
  show QQ [IAE] _ _
  unfold f_X6_countAbove
  rcases range_cases p1 p2 with ⟨lo, hi, l1, l2, rfl, rfl, c1, c2⟩ | ⟨c1, c2⟩
  · rcases num_cases p3 with ⟨k, k1, rfl⟩ | hn
    · rw [c1, tu_r]
      refine QQ.ret (T := T) ?_ (countAboveR hw hM l1 l2 k1) h rfl
      show pq_tu T (f_X6_requireNumber (nI k)) _ = _
      rw [reqN_ok k1, tu_r]
      show (f_X4_searchAbove T.1.1 (nI lo) (nI hi) (nI k)).bind _ = _
      rw [searchAbove_ok hw (nI_le l1 (by omega))]; rfl
    · rw [c1, tu_r]
      refine QQ.thr (E := IAE) (T := T) (M := (1, M.2)) ?_ (countAboveR_no (Or.inr ⟨c2, isNumR_no hn⟩)) h (pcd_1 _ _) e10
      show pq_tu T (f_X6_requireNumber p3) _ = _
      rw [reqN_no hn]; rfl
  · rw [c1]
    exact QQ.thr (E := IAE) (M := (1, M.2)) rfl (countAboveR_no (Or.inl c2)) h (pcd_1 _ _) e10
theorem ma_countAboveByScan : pq_Ma_countAboveByScan PR := by
  intro T M p1 p2 p3 h
  obtain ⟨t, hw, hM, -⟩ := h.now
  show QQ [IAE] _ _
  unfold f_X6_countAboveByScan f_X7_countAboveByScan
  rw [bd_id]
  rcases range_cases p1 p2 with ⟨lo, hi, l1, l2, rfl, rfl, c1, c2⟩ | ⟨c1, c2⟩
  · rcases num_cases p3 with ⟨k, k1, rfl⟩ | hn
    · rw [c1, tu_r]
      refine QQ.ret (T := T) ?_ (countAboveR hw hM l1 l2 k1) h rfl
      show pq_tu T (f_X6_requireNumber (nI k)) _ = _
      rw [reqN_ok k1, tu_r]
      show (f_X4_scanAbove T.1.1 (nI lo) (nI hi) (nI k)).bind _ = _
      rw [scanAbove_ok hw.1]; rfl
    · rw [c1, tu_r]
      refine QQ.thr (E := IAE) (T := T) (M := (1, M.2)) ?_ (countAboveR_no (Or.inr ⟨c2, isNumR_no hn⟩)) h (pcd_1 _ _) e10
      show pq_tu T (f_X6_requireNumber p3) _ = _
      rw [reqN_no hn]; rfl
  · rw [c1]
    exact QQ.thr (E := IAE) (M := (1, M.2)) rfl (countAboveR_no (Or.inl c2)) h (pcd_1 _ _) e10
theorem ma_sumInRange : pq_Ma_sumInRange PR := by
  intro T M p1 p2 h
  obtain ⟨t, hw, hM, -⟩ := h.now
  have h24 := hw.le
  show QQ [IAE] _ _
  unfold f_X6_sumInRange f_X7_sumInRange
  rcases range_cases p1 p2 with ⟨lo, hi, l1, l2, rfl, rfl, c1, c2⟩ | ⟨c1, c2⟩
  · have hle : nI lo ≤ nI hi := nI_le l1 (by omega)
    have hh : nI hi ≤ 1000 := nI_le (b := 1000) (by omega) (by omega)
    have d3 := cnt_mono (T := T.1.1) hle t.slots
    have d2 := cnt_le (T := T.1.1) (p := ple (nI hi)) (t := t)
    have hr := range_sum hw.2.1 hle (pn T.1.1)
    have := sumInRange_c23 (M := (0, M.2)) hw hM hh 200 (cnt T.1.1 (plt (nI lo)) t.slots) 0 (by omega) (by omega) (by omega)
    rw [Nat.zero_add, ← hr] at this
    rw [c1, tu_r, c2, Option.bind_some, isFine_1, Option.bind_some, if_neg n10, belowR (M := (0, M.2)) hw hM, Option.bind_some, show (0 : Int32) = nI 0 from rfl]
    refine QQ.ret (T := T) ?_ this h rfl
    show (f_X4_sumBetween T.1.1 (nI lo) (nI hi)).bind _ = _
    rw [sumBetween_ok hw.1 (fun s hs => (hw.2.2.2 s hs).2)]; rfl
  · rw [c1, c2, Option.bind_some, isFine_0]
    exact QQ.thr (E := IAE) (b := 0) (M := (1, M.2)) rfl rfl h (pcd_1 _ _) e10
/-! windows -/
theorem reqW_ok {w : Nat} (h : w < 4) : f_X6_requireWindow (nI w) = some (.inr (), ()) := by
  unfold f_X6_requireWindow
  rw [isWinC h, Option.bind_some, if_neg n10]
theorem reqW_no {x : Int32} (h : x < 0 ∨ 3 < x) : f_X6_requireWindow x = some (.inl IOB, ()) := by
  unfold f_X6_requireWindow
  rw [isWinC_no h, Option.bind_some, if_pos rfl]
theorem w0_ok {M : ModS} {w : Nat} (hw : w < 4) : f_X7_w M (nI w) 0 = some (M.2.1 (50 + 5 * w)) := w_ok (j := 0) hw (by omega)
/-- no such window, a window that isn't set, a window that is set -/
theorem open_cases {T : MainS} {M : ModS} {t : Tr} (hD : DR T.1 M.2.1 t) (p1 : Int32) :
    (f_X6_requireOpenWindow T p1 = some (.inl IOB, T) ∧ f_X7_isSet M p1 = some (0, (1, M.2))) ∨
    (f_X6_requireOpenWindow T p1 = some (.inl NSE, T) ∧ f_X7_isSet M p1 = some (0, (2, M.2))) ∨
    (∃ w, w < 4 ∧ p1 = nI w ∧ T.1.2.1.2.2.2 w ≠ 0 ∧ WR1 T.1.2.1 M.2.1 w ∧ f_X6_requireOpenWindow T p1 = some (.inr (), T) ∧ f_X7_isSet M p1 = some (1, (0, M.2))) := by
  unfold f_X6_requireOpenWindow f_X7_isSet
  rcases win_cases p1 with ⟨w, hw, rfl⟩ | hn
  · rw [reqW_ok hw, tu_r, isWinR hw, Option.bind_some, if_neg n10, w0_ok hw]
    have hW := hD.2.2.2.1 w hw
    rcases isOpen_ok hw hW with ⟨o1, o2, o3⟩ | ⟨o1, o2, o3⟩
    · refine Or.inr (Or.inl ⟨?_, ?_⟩)
      · show (f_X5_isOpen T.1.2.1 (nI w)).bind _ = _
        rw [o3, Option.bind_some, if_pos rfl]
      · rw [Option.bind_some, o2, if_pos rfl]
    · refine Or.inr (Or.inr ⟨w, hw, rfl, o1, hW, ?_, ?_⟩)
      · show (f_X5_isOpen T.1.2.1 (nI w)).bind _ = _
        rw [o3, Option.bind_some, if_neg n10]
      · rw [Option.bind_some, o2, if_neg n10]
  · rw [reqW_no hn, isWinR_no hn]
    exact Or.inl ⟨rfl, by rw [Option.bind_some, if_pos rfl]⟩
theorem ma_isWindowSet : pq_Ma_isWindowSet PR := by
  intro T M p1 h
  obtain ⟨t, hw, hM, hD⟩ := h.now
  show QQ [IOB] _ _
  unfold f_X6_isWindowSet f_X7_isWindowSet
  rcases win_cases p1 with ⟨w, hw4, rfl⟩ | hn
  · rw [reqW_ok hw4, tu_r, isWinR hw4, Option.bind_some, isFine_1, Option.bind_some, if_neg n10, w0_ok (M := (0, M.2)) hw4, Option.bind_some]
    show QQ _ ((f_X5_isOpen T.1.2.1 (nI w)).bind _) (if M.2.1 (50 + 5 * w) = 1 then _ else _)
    rcases isOpen_ok hw4 (hD.2.2.2.1 w hw4) with ⟨o1, o2, o3⟩ | ⟨o1, o2, o3⟩
    · rw [o3, o2, Option.bind_some, if_neg (show ¬ (0 : Int32) = 1 by decide), if_pos (show (0 : Int32) = 0 ∨ (0 : Int32) = 1 from Or.inl rfl)]
      exact QQ.ret (M := (0, M.2)) rfl rfl h rfl
    · rw [o3, o2, Option.bind_some, if_pos (show (1 : Int32) = 1 from rfl), if_pos (show (1 : Int32) = 0 ∨ (1 : Int32) = 1 from Or.inr rfl)]
      exact QQ.ret (M := (0, M.2)) rfl rfl h rfl
  · rw [reqW_no hn, isWinR_no hn, Option.bind_some, isFine_0]
    exact QQ.thr (E := IOB) (b := 0) (M := (1, M.2)) rfl rfl h (pcd_1 _ _) e10
theorem ma_pointsInWindow : pq_Ma_pointsInWindow PR := by
  intro T M p1 h
  obtain ⟨t, hw, hM, hD⟩ := h.now
  show QQ [IOB, NSE] _ _
  unfold f_X6_pointsInWindow f_X7_pointsInWindow
  rcases open_cases hD p1 with ⟨c1, c2⟩ | ⟨c1, c2⟩ | ⟨w, hw4, rfl, ho, hW, c1, c2⟩
  · rw [c1, c2]
    exact QQ.thr (E := IOB) (b := 0) (M := (1, M.2)) rfl rfl h (pcd_1 _ _) e10
  · rw [c1, c2]
    exact QQ.thr (E := NSE) (b := 0) (M := (2, M.2)) rfl rfl h (pcd_2 _ (by decide)) e20
  · rw [c1, tr_r, c2, Option.bind_some, if_neg n10, inWindow_set (M := (0, M.2)) (MR_iff.mp hM) (by rw [Tr.len]; exact hw.le) hw4 hW ho]
    refine QQ.ret (T := T) (M := (0, M.2)) ?_ rfl h rfl
    show (f_X1_countInWindow T.1 (nI w)).bind _ = _
    rw [countInWindow_ok hw hw4]; rfl
theorem ma_roomInWindow : pq_Ma_roomInWindow PR := by
  intro T M p1 h
  obtain ⟨t, hw, hM, hD⟩ := h.now
  show QQ [IOB, NSE] _ _
  unfold f_X6_roomInWindow f_X7_roomInWindow
  rcases open_cases hD p1 with ⟨c1, c2⟩ | ⟨c1, c2⟩ | ⟨w, hw4, rfl, ho, hW, c1, c2⟩
  · rw [c1, c2]
    exact QQ.thr (E := IOB) (b := 0) (M := (1, M.2)) rfl rfl h (pcd_1 _ _) e10
  · rw [c1, c2]
    exact QQ.thr (E := NSE) (b := 0) (M := (2, M.2)) rfl rfl h (pcd_2 _ (by decide)) e20
  · have hli : T.1.2.1.2.2.2 w = M.2.1 (50 + 5 * w + 4) := by
      rcases id hW with ⟨g1, -⟩ | ⟨lo, hi, p, li, g1, g2, g3, g4, g5, g6, g7, g8, g9, g10, g11, g12, g13, g14⟩
      · exact absurd g1 ho
      · rw [g9, g14]
    rw [c1, tr_r, c2, Option.bind_some, if_neg n10, show (4 : Int32) = nI 4 from rfl, w_ok (M := (0, M.2)) hw4 (by omega), Option.bind_some, inWindow_set (M := (0, M.2)) (MR_iff.mp hM) (by rw [Tr.len]; exact hw.le) hw4 hW ho, Option.bind_some]
    refine QQ.ret (T := T) (M := (0, M.2)) ?_ rfl h rfl
    rw [f_X5_limitIn, rdW hw4, Option.bind_some, countInWindow_ok hw hw4, hli]; rfl
/-- the places of the points in a window, counted from i on -/
theorem slotInWindow_c14 {D : DataS} {t : Tr} (h : WF D.1 t) {w : Nat} (hw : w < 4) {p : Int32} {M : ModS} (hM : MR M D.1 t) (hW : WR1 D.2.1 M.2.1 w) (ho : D.2.1.2.2.2 w ≠ 0) : ∀ (n i v : Nat), i ≤ t.size → t.size - i < n →
    (∃ j, j < t.size ∧ f_X1_slotInWindow_c14 n D (nI w) p (nI v) (nI t.size) (nI i) = some (nI (t.sl j)) ∧ f_X7_windowKeyAt_c15 n M (nI w) p (nI v) (nI i) = some (D.1.1 (t.sl j), M)) ∨ (f_X1_slotInWindow_c14 n D (nI w) p (nI v) (nI t.size) (nI i) = some 0 ∧ f_X7_windowKeyAt_c15 n M (nI w) p (nI v) (nI i) = some (0, (2, M.2)))
  | 0, i, v, _, hn => absurd hn (by omega)
  | n + 1, i, v, hi, hn => by
    have h24 := h.le
    rw [f_X1_slotInWindow_c14, f_X7_windowKeyAt_c15, hM.1]
    by_cases e : i = t.size
    · rw [if_pos (nI_le (by omega) (by omega)), if_pos (nI_le (by omega) (by omega))]
      exact Or.inr ⟨rfl, rfl⟩
    · have hs := (h.1.mem _ (sl_mem (t := t) (i := i) (by omega))).2
      rw [if_neg (nI_ge (by omega) (by omega)), if_neg (nI_ge (by omega) (by omega)), if_neg (nI_24 (by omega)), slotAt_ok h (by omega), Option.bind_some, f_X4_keyIn, f_X4_priorityIn, rd25 hs, rd25 hs, Option.bind_some, Option.bind_some, covers_ok hw, Option.bind_some, key_ok (by omega), pri_ok (by omega), Option.bind_some, Option.bind_some, (hM.at (by omega)).1, (hM.at (by omega)).2, isWithin_set hw hW ho, Option.bind_some, nI_1, nI_1]
      have hB := wB_le (D.2.1.1 w) (D.2.1.2.1 w) (D.2.1.2.2.1 w) (D.1.1 (t.sl i)) (D.1.2.1 (t.sl i))
      by_cases e1 : wB (D.2.1.1 w) (D.2.1.2.1 w) (D.2.1.2.2.1 w) (D.1.1 (t.sl i)) (D.1.2.1 (t.sl i)) = 0
      · rw [e1, if_pos (show nI 0 = 0 from rfl), if_pos (show nI 0 = 0 from rfl)]
        exact slotInWindow_c14 h hw hM hW ho n (i + 1) v (by omega) (by omega)
      · rw [if_neg (nI_ne0 (by omega) (by omega)), if_neg (nI_ne0 (by omega) (by omega))]
        by_cases e2 : nI v = p
        · rw [if_pos e2, if_pos e2, Option.bind_some]
          exact Or.inl ⟨i, by omega, rfl, rfl⟩
        · rw [if_neg e2, if_neg e2]
          exact slotInWindow_c14 h hw hM hW ho n (i + 1) (v + 1) (by omega) (by omega)
theorem ma_windowKeyAt : pq_Ma_windowKeyAt PR := by
  intro T M p1 p2 h
  obtain ⟨t, hw, hM, hD⟩ := h.now
  have h24 := hw.le
  show QQ [IOB, NSE] _ _
  unfold f_X6_windowKeyAt f_X7_windowKeyAt
  rcases open_cases hD p1 with ⟨c1, c2⟩ | ⟨c1, c2⟩ | ⟨w, hw4, rfl, ho, hW, c1, c2⟩
  · rw [c1, c2]
    exact QQ.thr (E := IOB) (b := 0) (M := (1, M.2)) rfl rfl h (pcd_1 _ _) e10
  · rw [c1, c2]
    exact QQ.thr (E := NSE) (b := 0) (M := (2, M.2)) rfl rfl h (pcd_2 _ (by decide)) e20
  · rw [c1, tr_r, c2, Option.bind_some, if_neg n10]
    show QQ _ ((f_X1_slotInWindow T.1 (nI w) p2).bind fun q5 => pq_tr (f_X6_keyInFound T q5) fun q6 T8 => some (.inr q6, T8)) _
    unfold f_X1_slotInWindow
    rw [pointCount_ok hw, Option.bind_some]
    rcases slotInWindow_c14 (p := p2) hw hw4 (M := (0, M.2)) hM hW ho 200 0 0 (by omega) (by omega) with ⟨j, j1, j2, j3⟩ | ⟨j2, j3⟩
    · rw [show (0 : Int32) = nI 0 from rfl, j2, Option.bind_some, tr_id]
      exact QQ.ret (keyIn_ok hw j1) j3 h rfl
    · rw [show (0 : Int32) = nI 0 from rfl, j2, Option.bind_some, tr_id]
      exact QQ.thr (E := NSE) (keyIn_no T) j3 h (pcd_2 _ (by decide)) e20
theorem canInsert_c49 {M : ModS} {D : DataS} {t : Tr} (hD : DR D M.2.1 t) (K P : Int32) {c : Nat → Nat} (hc : ∀ w, w < 4 → c w = wc D.2.1 D.1 t.slots w + wB (D.2.1.1 w) (D.2.1.2.1 w) (D.2.1.2.2.1 w) K P) : ∀ (n d w : Nat), w + d = 4 → d < n → f_X7_canInsert_c49 n M K P (nI w) = some (if ovf D.2.1 c d w = -1 then 1 else 0, M)
  | 0, d, w, _, hn => absurd hn (by omega)
  | n + 1, d, w, hd, hn => by
    have h24 := hD.1.le
    rw [f_X7_canInsert_c49]
    by_cases e : w = 4
    · rw [if_pos (show (4 : Int32) ≤ nI w from nI_le (a := 4) (by omega) (by omega)), show d = 0 by omega]; rfl
    · obtain ⟨d, rfl⟩ : ∃ d', d = d' + 1 := ⟨d - 1, by omega⟩
      have hw : w < 4 := by omega
      have hW := hD.2.2.2.1 w hw
      rw [if_neg (show ¬ (4 : Int32) ≤ nI w from nI_ge (b := 4) (by omega) (by omega)), nI_1, ovf, canInsert_c49 hD K P hc n d (w + 1) (by omega) (by omega)]
      have hl := wc_le (W := D.2.1) (T := D.1) (L := t.slots) (w := w)
      rw [Tr.len] at hl
      rcases isOpen_ok hw hW with ⟨o1, o2, -⟩ | ⟨o1, o2, -⟩
      · rw [isWithin_unset hw o2, Option.bind_some, if_pos rfl, if_neg (show ¬ (D.2.1.2.2.2 w ≠ 0 ∧ D.2.1.2.2.2 w < nI (c w)) from fun h9 => h9.1 o1)]
      · rw [isWithin_set hw hW o1, Option.bind_some, inWindow_set (MR_iff.mp hD.mr) (by rw [Tr.len]; exact h24) hw hW o1, Option.bind_some, show (4 : Int32) = nI 4 from rfl, w_ok hw (by omega), Option.bind_some]
        have hk := hD.2.2.2.2 w hw o1
        rcases id hW with ⟨g1, -⟩ | ⟨lo, hi, p, li, g1, g2, g3, g4, g5, g6, g7, g8, g9, g10, g11, g12, g13, g14⟩
        · exact absurd g1 o1
        · have hB := wB_le (D.2.1.1 w) (D.2.1.2.1 w) (D.2.1.2.2.1 w) K P
          have hcw := hc w hw
          rw [g9] at hk
          rw [nI_leI (by omega) (by omega)] at hk
          rw [g14, g9]
          by_cases e1 : wB (D.2.1.1 w) (D.2.1.2.1 w) (D.2.1.2.2.1 w) K P = 0
          · have hno : ¬ (nI li ≠ 0 ∧ nI li < nI (c w)) := by
              rintro ⟨-, h9⟩
              rw [nI_ltI (by omega) (by omega)] at h9
              omega
            rw [e1, if_pos (show nI 0 = 0 from rfl), if_neg hno]
          · rw [if_neg (show ¬ nI (wB (D.2.1.1 w) (D.2.1.2.1 w) (D.2.1.2.2.1 w) K P) = 0 from nI_ne0 (by omega) (by omega))]
            by_cases e2 : wc D.2.1 D.1 t.slots w = li
            · have hyes : nI li ≠ 0 ∧ nI li < nI (c w) := ⟨nI_ne0 (by omega) (by omega), nI_lt (by omega) (by omega)⟩
              rw [if_pos (show nI (wc D.2.1 D.1 t.slots w) = nI li by rw [e2]), if_pos hyes, if_neg (nI_neg1 (by omega))]
            · have hno : ¬ (nI li ≠ 0 ∧ nI li < nI (c w)) := by
                rintro ⟨-, h9⟩
                rw [nI_ltI (by omega) (by omega)] at h9
                omega
              rw [if_neg (show ¬ nI (wc D.2.1 D.1 t.slots w) = nI li from fun h9 => e2 ((nI_eq (by omega) (by omega)).mp h9)), if_neg hno]
theorem ma_canInsert : pq_Ma_canInsert PR := by
  intro T M p1 p2 h
  obtain ⟨t, hw, hM, hD⟩ := h.now
  have h24 := hw.le
  show QQ [IAE] _ _
  unfold f_X6_canInsert f_X7_canInsert
  rcases num_cases p1 with ⟨k, k1, rfl⟩ | hn
  · rcases num_cases p2 with ⟨p, q1, rfl⟩ | hn2
    · have hN : M.2.1 (0 : Int32).toNatClampNeg = nI t.size := hM.1
      rw [reqN_ok k1, tu_r, isNumR k1, isNumR q1, Option.bind_some, Option.bind_some, if_neg n10, if_neg n10, isFine_1, Option.bind_some, if_neg n10]
      show QQ _ (pq_tu T (f_X6_requireNumber (nI p)) _) (if M.2.1 (0 : Int32).toNatClampNeg = 24 then some (0, (0, M.2)) else (f_X7_find (0, M.2) (nI k)).bind fun q35 => if q35 < 0 then f_X7_canInsert_c49 200 (0, M.2) (nI k) (nI p) 0 else some (0, (0, M.2)))
      rw [reqN_ok q1, tu_r, hN]
      show QQ _ ((f_X1_reasonAgainstInsert T.1 (nI k) (nI p)).bind _) _
      unfold f_X1_reasonAgainstInsert
      rw [pointCount_ok hw, Option.bind_some]
      by_cases hsz : t.size = 24
      · rw [hsz, if_pos (show nI 24 = 24 from rfl), if_neg (by decide)]
        exact QQ.ret (M := (0, M.2)) rfl rfl h rfl
      · rw [if_pos (show nI t.size < 24 from nI_lt (b := 24) (by omega) (by omega)), if_neg (show ¬ nI t.size = 24 from fun h9 => hsz ((nI_eq (b := 24) (by omega) (by omega)).mp h9))]
        rcases key_cases (T := T.1.1) t (nI k) with ⟨i, hi, e⟩ | hm
        · rw [slotOf_hit hw hi e, findR_hit (M := (0, M.2)) hw hM hi e, Option.bind_some, Option.bind_some, if_neg (sl_pos hw hi), if_neg (nI_pos (by omega))]
          exact QQ.ret (M := (0, M.2)) rfl rfl h rfl
        · have hc := canInsert_c49 (M := (0, M.2)) hD (nI k) (nI p) (c := fun w => wc T.1.2.1 T.1.1 t.slots w + wB (T.1.2.1.1 w) (T.1.2.1.2.1 w) (T.1.2.1.2.2.1 w) (nI k) (nI p)) (fun _ _ => rfl) 200 4 0 rfl (by omega)
          have hf := firstFull_ok (D := T.1) (r := 0) (K := nI k) (P := nI p) hw hD.2.2.2.1 (Or.inl rfl) (c := fun w => wc T.1.2.1 T.1.1 t.slots w + wB (T.1.2.1.1 w) (T.1.2.1.2.1 w) (T.1.2.1.2.2.1 w) (nI k) (nI p)) (fun w hw => by rw [if_pos rfl, Nat.add_zero])
          have hc' : f_X7_canInsert_c49 200 (0, M.2) (nI k) (nI p) 0 = _ := hc
          have hf' : f_X1_firstFullWindow T.1 0 (nI k) (nI p) = _ := hf
          rw [slotOf_miss hw hm, findR_miss (M := (0, M.2)) hw hM hm, Option.bind_some, Option.bind_some, if_pos (show (0 : Int32) = 0 from rfl), if_pos neg1lt, hc', hf', Option.bind_some]
          by_cases e9 : ovf T.1.2.1 (fun w => wc T.1.2.1 T.1.1 t.slots w + wB (T.1.2.1.1 w) (T.1.2.1.2.1 w) (T.1.2.1.2.2.1 w) (nI k) (nI p)) 4 0 = -1
          · rw [if_pos e9, if_pos e9]
            exact QQ.ret (M := (0, M.2)) rfl rfl h rfl
          · rw [if_neg e9, if_neg e9]
            exact QQ.ret (M := (0, M.2)) rfl rfl h rfl
    · rw [reqN_ok k1, tu_r, isNumR k1, isNumR_no hn2, Option.bind_some, Option.bind_some, if_neg n10, if_pos rfl, isFine_0, Option.bind_some, if_pos rfl]
      refine QQ.thr (E := IAE) (b := 0) (M := (1, M.2)) (T := T) ?_ rfl h (pcd_1 _ _) e10
      show pq_tu T (f_X6_requireNumber p2) _ = _
      rw [reqN_no hn2]; rfl
  · rw [reqN_no hn, isNumR_no hn, Option.bind_some, if_pos rfl, isFine_0, Option.bind_some, if_pos rfl]
    exact QQ.thr (E := IAE) (b := 0) (M := (1, M.2)) rfl rfl h (pcd_1 _ _) e10
theorem ma_rotationCount : pq_Ma_rotationCount PR := by
  intro T M h
  obtain ⟨t, hw, hM, hD⟩ := h.now
  refine ⟨T.1.2.2, (0, M.2), rfl, ?_, h⟩
  unfold f_X7_rotationCount
  show some (M.2.1 1, _) = _
  rw [hD.2.2.1]
theorem ma_isConsistent : pq_Ma_isConsistent PR := by
  intro T M h
  obtain ⟨t, hw, hM, hD⟩ := h.now
  refine ⟨1, (0, M.2), ?_, rfl, h⟩
  unfold f_X6_isConsistent
  rw [isSound_ok hw, Option.bind_some, if_neg n10, bothWays_ok hw, Option.bind_some, if_neg n10, keepsLimits_ok hw hD.2.2.2.1 hD.2.2.2.2, Option.bind_some, if_neg n10]
theorem ma_syntaxErrorOffset : pq_Ma_syntaxErrorOffset PR := by
  intro T M h
  obtain ⟨-, -, -, -, -, ⟨e1, -⟩, -⟩ := id h
  show QQ [NSE] _ _
  unfold f_X6_syntaxErrorOffset f_X7_syntaxErrorOffset
  rw [e1]
  by_cases e : M.2.2.2.2.2.2.2.2.2.2.2.2.2.2.1 = -1
  · rw [if_pos e, if_pos e, isFine_0]
    exact QQ.thr (E := NSE) (b := 0) (M := (1, M.2)) rfl rfl h (pcd_1 _ _) e10
  · rw [if_neg e, if_neg e, isFine_1]
    exact QQ.ret (M := (0, M.2)) rfl rfl h rfl
theorem ma_rejectionReason : pq_Ma_rejectionReason PR := by
  intro T M h
  obtain ⟨-, -, -, -, -, -, e1, e2, e3, e4⟩ := id h
  show QQ [NSE] _ _
  unfold f_X6_rejectionReason f_X7_rejectionReason f_X6_requireRejection
  rw [e1]
  by_cases e : M.2.2.2.2.2.1 = 0
  · rw [if_pos e, if_pos e, isFine_0]
    exact QQ.thr (E := NSE) (b := 0) (M := (1, M.2)) rfl rfl h (pcd_1 _ _) e10
  · rw [if_neg e, if_neg e, isFine_1]
    refine QQ.ret (T := T) (M := (0, M.2)) (b := M.2.2.2.2.2.1) ?_ rfl h rfl
    show some (Sum.inr T.2.2.2.2.2.2.2.2.1, T) = _
    rw [e1]
theorem ma_rejectionDetail : pq_Ma_rejectionDetail PR := by
  intro T M h
  obtain ⟨-, -, -, -, -, -, e1, e2, e3, e4⟩ := id h
  show QQ [NSE] _ _
  unfold f_X6_rejectionDetail f_X7_rejectionDetail f_X6_requireRejection
  rw [e1]
  by_cases e : M.2.2.2.2.2.1 = 0
  · rw [if_pos e, if_pos e, isFine_0]
    exact QQ.thr (E := NSE) (b := 0) (M := (1, M.2)) rfl rfl h (pcd_1 _ _) e10
  · rw [if_neg e, if_neg e, isFine_1]
    refine QQ.ret (T := T) (M := (0, M.2)) (b := M.2.2.2.2.2.2.1) ?_ rfl h rfl
    show some (Sum.inr T.2.2.2.2.2.2.2.2.2.1, T) = _
    rw [e2]
theorem ma_causeReason : pq_Ma_causeReason PR := by
  intro T M h
  obtain ⟨-, -, -, -, -, -, e1, e2, e3, e4⟩ := id h
  show QQ [NSE] _ _
  unfold f_X6_causeReason f_X7_causeReason
  rw [e1]
  by_cases e : M.2.2.2.2.2.1 = 4
  · rw [if_pos e, if_neg (e4.mp e), isFine_1]
    refine QQ.ret (T := T) (M := (0, M.2)) (b := M.2.2.2.2.2.2.2.1) ?_ rfl h rfl
    rw [e3]
  · rw [if_neg e, if_pos (Classical.byContradiction fun h9 => e (e4.mpr h9)), isFine_0]
    exact QQ.thr (E := NSE) (b := 0) (M := (1, M.2)) rfl rfl h (pcd_1 _ _) e10
