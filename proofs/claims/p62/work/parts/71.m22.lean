/-! ===== mathematics, 22: questions, 1 ===== -/
/-- both sides answer alike -/
def QQ {α : Type} (names : List String) (fC : Option ((String ⊕ α) × MainS)) (fM : Option (α × ModS)) : Prop := ∃ (o : String ⊕ α) (T1 : MainS) (b : α) (M1 : ModS), fC = some (o, T1) ∧ fM = some (b, M1) ∧ PR T1 M1 ∧ pq_cd names o = some M1.1 ∧ (M1.1 = 0 → o = .inr b)
theorem QQ.ret {α : Type} {names : List String} {fC : Option ((String ⊕ α) × MainS)} {fM : Option (α × ModS)} {T : MainS} {M : ModS} {b : α} (h1 : fC = some (.inr b, T)) (h2 : fM = some (b, M)) (h3 : PR T M) (h0 : M.1 = 0) : QQ names fC fM := ⟨_, _, _, _, h1, h2, h3, by rw [h0]; rfl, fun _ => rfl⟩
theorem QQ.thr {α : Type} {names : List String} {fC : Option ((String ⊕ α) × MainS)} {fM : Option (α × ModS)} {T : MainS} {M : ModS} {E : String} {b : α} (h1 : fC = some (.inl E, T)) (h2 : fM = some (b, M)) (h3 : PR T M) (h4 : pq_cd names (α := α) (.inl E) = some M.1) (h5 : M.1 ≠ 0) : QQ names fC fM := ⟨_, _, _, _, h1, h2, h3, h4, fun h => absurd h h5⟩
theorem isFine_1 (M : ModS) : f_X7_isFine M 1 = some (1, (0, M.2)) := by
  rw [f_X7_isFine, if_neg n10, if_pos (Or.inr rfl)]
theorem isFine_0 (M : ModS) : f_X7_isFine M 0 = some (0, (1, M.2)) := by
  rw [f_X7_isFine, if_pos rfl, if_pos (Or.inl rfl)]
theorem tr_id {α : Type} (o : Option ((String ⊕ α) × MainS)) : (pq_tr o fun q T5 => some (.inr q, T5)) = o := by
  match o with
  | none => rfl
  | some (.inl E, s) => rfl
  | some (.inr a, s) => rfl
theorem bd_id {α β : Type} (o : Option (α × β)) : (o.bind fun q => some (q.1, q.2)) = o := by
  match o with
  | none => rfl
  | some (a, b) => rfl
theorem tr_r {α β σ : Type} (a : α) (s : σ) (k : α → σ → Option ((String ⊕ β) × σ)) : pq_tr (some (.inr a, s)) k = k a s := rfl
theorem tu_r {α β σ τ : Type} (s : σ) (a : α) (t : τ) (k : α → Option ((String ⊕ β) × σ)) : pq_tu s (some (.inr a, t)) k = k a := rfl
theorem nI_dec1 {a : Nat} (h : 1 ≤ a) : nI a - 1 = nI (a - 1) := by
  obtain ⟨b, rfl⟩ : ∃ b, a = b + 1 := ⟨a - 1, by omega⟩
  exact nI_pred b
theorem pcd_1 {α : Type} (E : String) (cs : List String) : pq_cd (α := α) (E :: cs) (.inl E) = some 1 := by
  show pq_cdF (E :: cs) 1 E = _
  rw [pq_cdF, if_pos rfl]
theorem pcd_2 {α : Type} {E E1 : String} (cs : List String) (h : E ≠ E1) : pq_cd (α := α) (E1 :: E :: cs) (.inl E) = some 2 := by
  show pq_cdF (E1 :: E :: cs) 1 E = _
  rw [pq_cdF, if_neg h, pq_cdF, if_pos rfl]; rfl
theorem pcd_3 {α : Type} {E E1 E2 : String} (cs : List String) (h : E ≠ E1) (h2 : E ≠ E2) : pq_cd (α := α) (E1 :: E2 :: E :: cs) (.inl E) = some 3 := by
  show pq_cdF (E1 :: E2 :: E :: cs) 1 E = _
  rw [pq_cdF, if_neg h, pq_cdF, if_neg h2, pq_cdF, if_pos rfl]; rfl
abbrev NSE : String := "java/util/NoSuchElementException"
abbrev IAE : String := "java/lang/IllegalArgumentException"
abbrev IOB : String := "java/lang/IndexOutOfBoundsException"
abbrev UOE : String := "java/lang/UnsupportedOperationException"
abbrev ISE : String := "java/lang/IllegalStateException"
theorem e10 : (1 : Int32) ≠ 0 := by decide
theorem e20 : (2 : Int32) ≠ 0 := by decide
theorem e30 : (3 : Int32) ≠ 0 := by decide
/-- the points of now -/
theorem PR.now {T : MainS} {M : ModS} (h : PR T M) : ∃ t, WF T.1.1 t ∧ MR M T.1.1 t ∧ DR T.1 M.2.1 t := by
  obtain ⟨⟨t, hD⟩, -⟩ := h
  exact ⟨t, hD.1, hD.mr, hD⟩
theorem keyOr_in {M : ModS} {T : TreeS} {t : Tr} (h : WF T t) (hM : MR M T t) {i : Nat} (hi : i < t.size) : f_X7_keyOr M (nI i) = some (T.1 (t.sl i), (0, M.2)) := by
  have h24 := h.le
  unfold f_X7_keyOr
  rw [hM.1, show t.size = (t.size - 1) + 1 by omega, nI_pred, inR_ok, Option.bind_some, if_pos (show (0 : Int32) ≤ nI i ∧ nI i ≤ nI (t.size - 1) from ⟨nI_pos' (by omega), nI_le (by omega) (by omega)⟩), isFine_1, Option.bind_some, if_neg n10, key_ok (by omega), Option.bind_some]
  show some (mK M i, _) = _
  rw [(hM.at hi).1]
theorem keyOr_out {M : ModS} {N : Nat} (hN : mNs M N) (h24 : N ≤ 24) {x : Int32} (hx : x < 0 ∨ nI N ≤ x) : f_X7_keyOr M x = some (0, (1, M.2)) := by
  unfold f_X7_keyOr
  rw [hN, inR_ok, Option.bind_some, if_neg, isFine_0, Option.bind_some, if_pos rfl]
  rintro ⟨h1, h2⟩
  rcases hx with hx | hx
  · exact Int32.not_le.mpr hx h1
  · exact Int32.not_le.mpr (nI_dec_lt N (by omega)) (Int32.le_trans hx h2)
theorem keyIn_ok {T : MainS} {t : Tr} (h : WF T.1.1 t) {i : Nat} (hi : i < t.size) : f_X6_keyInFound T (nI (t.sl i)) = some (.inr (T.1.1.1 (t.sl i)), T) := by
  unfold f_X6_keyInFound
  rw [if_neg (sl_pos h hi), f_X4_keyIn, rd25 (h.1.mem _ (sl_mem hi)).2]; rfl
theorem keyIn_no (T : MainS) : f_X6_keyInFound T 0 = some (.inl NSE, T) := by
  unfold f_X6_keyInFound
  rw [if_pos rfl]
/-- a place that may be none -/
theorem found_QQ {T : MainS} {M : ModS} (hP : PR T M) {t : Tr} (h : WF T.1.1 t) (hM : MR M T.1.1 t) {i : Nat} (hi : i < 2 ^ 31) : QQ [NSE] (f_X6_keyInFound T (nI (t.sl i))) (f_X7_keyOr M (nI i)) := by
  have h24 := h.le
  by_cases e : i < t.size
  · exact QQ.ret (keyIn_ok h e) (keyOr_in h hM e) hP rfl
  · refine QQ.thr (E := NSE) ?_ (keyOr_out hM.1 h24 (Or.inr (nI_le (by omega) hi))) hP (pcd_1 _ _) e10
    rw [sl_out (by omega)]; exact keyIn_no T
theorem none_QQ {T : MainS} {M : ModS} (hP : PR T M) {N : Nat} (hN : mNs M N) (h24 : N ≤ 24) {x : Int32} (hx : x < 0) : QQ [NSE] (f_X6_keyInFound T 0) (f_X7_keyOr M x) :=
  QQ.thr (keyIn_no T) (keyOr_out hN h24 (Or.inl hx)) hP (pcd_1 _ _) e10
theorem reqP_hit {T : MainS} {t : Tr} (h : WF T.1.1 t) {i : Nat} (hi : i < t.size) {K : Int32} (e : T.1.1.1 (t.sl i) = K) : f_X6_requirePoint T K = some (.inr (nI (t.sl i)), T) := by
  unfold f_X6_requirePoint
  rw [slotOf_hit h hi e, Option.bind_some, if_neg (sl_pos h hi)]
theorem reqP_miss {T : MainS} {t : Tr} (h : WF T.1.1 t) {K : Int32} (e : ∀ s ∈ t.slots, T.1.1.1 s ≠ K) : f_X6_requirePoint T K = some (.inl NSE, T) := by
  unfold f_X6_requirePoint
  rw [slotOf_miss h e, Option.bind_some, if_pos rfl]
theorem reqN_ok {k : Nat} (h : k ≤ 99) : f_X6_requireNumber (nI k) = some (.inr (), ()) := by
  unfold f_X6_requireNumber
  rw [isNumC h, Option.bind_some, if_neg n10]
theorem reqN_no {x : Int32} (h : x < 0 ∨ 99 < x) : f_X6_requireNumber x = some (.inl IAE, ()) := by
  unfold f_X6_requireNumber
  rw [isNumC_no h, Option.bind_some, if_pos rfl]
/-- a range of keys, or not -/
theorem range_cases (p1 p2 : Int32) : (∃ lo hi : Nat, lo ≤ hi ∧ hi ≤ 99 ∧ p1 = nI lo ∧ p2 = nI hi ∧ f_X6_requireRange p1 p2 = some (.inr (), ()) ∧ f_X7_isRange p1 p2 = some 1) ∨ (f_X6_requireRange p1 p2 = some (.inl IAE, ()) ∧ f_X7_isRange p1 p2 = some 0) := by
  unfold f_X6_requireRange f_X7_isRange
  rcases num_cases p1 with ⟨lo, l1, rfl⟩ | h1
  · rcases num_cases p2 with ⟨hi, h1, rfl⟩ | h2
    · rw [isNumC l1, isNumC h1, isNumR l1, isNumR h1, Option.bind_some, Option.bind_some, Option.bind_some, Option.bind_some, if_neg n10, if_neg n10, if_neg n10, if_neg n10]
      by_cases e : lo ≤ hi
      · rw [if_pos (nI_le e (by omega)), if_neg (nI_nlt e (by omega))]
        exact Or.inl ⟨lo, hi, e, h1, rfl, rfl, rfl, rfl⟩
      · rw [if_neg (nI_ge (by omega) (by omega)), if_pos (nI_lt (by omega) (by omega))]
        exact Or.inr ⟨rfl, rfl⟩
    · refine Or.inr ⟨?_, ?_⟩
      · rw [isNumC l1, Option.bind_some, if_neg n10, isNumC_no h2, Option.bind_some, if_pos rfl]
      · rw [isNumR l1, Option.bind_some, if_neg n10, isNumR_no h2, Option.bind_some, if_pos rfl]
  · refine Or.inr ⟨?_, ?_⟩
    · rw [isNumC_no h1, Option.bind_some, if_pos rfl]
    · rw [isNumR_no h1, Option.bind_some, if_pos rfl]
theorem ma_size : pq_Ma_size PR := by
  intro T M h
  obtain ⟨t, hw, hM, -⟩ := h.now
  refine ⟨nI t.size, (0, M.2), ?_, ?_, h⟩
  · unfold f_X6_size; rw [pointCount_ok hw]; rfl
  · unfold f_X7_size; rw [hM.1]
theorem ma_contains : pq_Ma_contains PR := by
  intro T M p1 h
  obtain ⟨t, hw, hM, -⟩ := h.now
  have h24 := hw.le
  rcases key_cases (T := T.1.1) t p1 with ⟨i, hi, e⟩ | hm
  · refine ⟨1, (0, M.2), ?_, ?_, h⟩
    · unfold f_X6_contains; rw [slotOf_hit hw hi e, Option.bind_some, if_neg (sl_pos hw hi)]
    · unfold f_X7_contains
      show (f_X7_find (0, M.2) p1).bind _ = _
      rw [findR_hit (M := (0, M.2)) hw hM hi e, Option.bind_some, if_neg (nI_pos (by omega))]
  · refine ⟨0, (0, M.2), ?_, ?_, h⟩
    · unfold f_X6_contains; rw [slotOf_miss hw hm, Option.bind_some, if_pos rfl]
    · unfold f_X7_contains
      show (f_X7_find (0, M.2) p1).bind _ = _
      rw [findR_miss (M := (0, M.2)) hw hM hm, Option.bind_some, if_pos neg1lt]
theorem ma_priorityOf : pq_Ma_priorityOf PR := by
  intro T M p1 h
  obtain ⟨t, hw, hM, -⟩ := h.now
  have h24 := hw.le
  show QQ [NSE] _ _
  unfold f_X6_priorityOf f_X7_priorityOf
  rcases key_cases (T := T.1.1) t p1 with ⟨i, hi, e⟩ | hm
  · rw [reqP_hit hw hi e, tr_r, findR_hit hw hM hi e, Option.bind_some, if_neg (nI_pos (by omega)), isFine_1, Option.bind_some, if_neg n10, pri_ok (by omega)]
    refine QQ.ret (T := T) (M := (0, M.2)) (b := T.1.1.2.1 (t.sl i)) ?_ ?_ h rfl
    · show (f_X4_priorityIn T.1.1 (nI (t.sl i))).bind _ = _
      rw [f_X4_priorityIn, rd25 (hw.1.mem _ (sl_mem hi)).2]; rfl
    · show some (mP M i, _) = _
      rw [(hM.at hi).2]
  · rw [reqP_miss hw hm, findR_miss hw hM hm, Option.bind_some, if_pos neg1lt, isFine_0]
    exact QQ.thr (E := NSE) (b := 0) (M := (1, M.2)) rfl rfl h (pcd_1 _ _) e10
theorem ma_lowestKey : pq_Ma_lowestKey PR := by
  intro T M h
  obtain ⟨t, hw, hM, -⟩ := h.now
  show QQ [NSE] _ _
  unfold f_X6_lowestKey f_X7_lowestKey
  rw [show (0 : Int32) = nI 0 from rfl, slotAt_ok hw (by omega), Option.bind_some, tr_id, bd_id]
  exact found_QQ h hw hM (by omega)
theorem ma_greatestKey : pq_Ma_greatestKey PR := by
  intro T M h
  obtain ⟨t, hw, hM, -⟩ := h.now
  have h24 := hw.le
  show QQ [NSE] _ _
  unfold f_X6_greatestKey f_X7_greatestKey
  rw [pointCount_ok hw, Option.bind_some, hM.1, bd_id]
  by_cases e : t.size = 0
  · rw [e, slotAt_neg (by decide), Option.bind_some, tr_id]
    exact none_QQ h hM.1 h24 (by decide)
  · rw [show t.size = (t.size - 1) + 1 by omega, nI_pred, slotAt_ok hw (by omega), Option.bind_some, tr_id]
    exact found_QQ h hw hM (by omega)
theorem ce_ge {T : TreeS} (x : Int32) (L : List Nat) : cnt T (plt x) L ≤ cnt T (ple x) L :=
  List.countP_mono_left (fun s _ hs => decide_eq_true (Int32.le_of_lt (of_decide_eq_true hs)))
theorem floorAtR {M : ModS} {T : TreeS} {t : Tr} (h : WF T t) (hM : MR M T t) (x : Int32) : f_X7_floorAt M x = some (nI (cnt T (ple x) t.slots) - 1) := by
  have h24 := h.le
  unfold f_X7_floorAt
  rw [belowR h hM, Option.bind_some, hM.1]
  have h1 := cnt_le (T := T) (p := plt x) (t := t)
  have h2 := cnt_le (T := T) (p := ple x) (t := t)
  have h3 := ce_ge (T := T) x t.slots
  by_cases e : cnt T (plt x) t.slots = t.size
  · rw [if_pos (nI_le (by omega) (by omega)), show cnt T (ple x) t.slots = cnt T (plt x) t.slots by omega]
  · rw [if_neg (nI_ge (by omega) (by omega)), key_ok (by omega), Option.bind_some, (hM.at (by omega)).1]
    rcases key_cases (T := T) t x with ⟨i, hi, ei⟩ | hm
    · obtain ⟨c1, c2⟩ := cnt_hit h.2.1 hi ei
      rw [c1, c2, if_pos ei, nI_pred]
    · rw [if_neg (hm _ (sl_mem (by omega))), cnt_miss h.2.1 hm]
theorem ma_floorKey : pq_Ma_floorKey PR := by
  intro T M p1 h
  obtain ⟨t, hw, hM, -⟩ := h.now
  have h24 := hw.le
  have h2 := cnt_le (T := T.1.1) (p := ple p1) (t := t)
  show QQ [NSE] _ _
  unfold f_X6_floorKey f_X7_floorKey
  rw [floorSlot_ok hw, Option.bind_some, tr_id, floorAtR hw hM, Option.bind_some, bd_id]
  by_cases e : cnt T.1.1 (ple p1) t.slots = 0
  · rw [if_pos e, e]
    exact none_QQ h hM.1 h24 (by decide)
  · rw [if_neg e, show nI (cnt T.1.1 (ple p1) t.slots) - 1 = nI (cnt T.1.1 (ple p1) t.slots - 1) from nI_dec1 (by omega)]
    exact found_QQ h hw hM (by omega)
theorem ma_ceilingKey : pq_Ma_ceilingKey PR := by
  intro T M p1 h
  obtain ⟨t, hw, hM, -⟩ := h.now
  have h24 := hw.le
  have h2 := cnt_le (T := T.1.1) (p := plt p1) (t := t)
  show QQ [NSE] _ _
  unfold f_X6_ceilingKey f_X7_ceilingKey
  rw [ceilingSlot_ok hw, Option.bind_some, tr_id, belowR hw hM, Option.bind_some, bd_id]
  exact found_QQ h hw hM (by omega)
theorem ma_rankOf : pq_Ma_rankOf PR := by
  intro T M p1 h
  obtain ⟨t, hw, hM, -⟩ := h.now
  refine ⟨nI (cnt T.1.1 (plt p1) t.slots), (0, M.2), ?_, ?_, h⟩
  · unfold f_X6_rankOf; rw [countBelow_ok hw]; rfl
  · unfold f_X7_rankOf
    show (f_X7_below (0, M.2) p1).bind _ = _
    rw [belowR (M := (0, M.2)) hw hM]; rfl
theorem ma_keyAt : pq_Ma_keyAt PR := by
  intro T M p1 h
  obtain ⟨t, hw, hM, -⟩ := h.now
  show QQ [NSE] _ _
  unfold f_X6_keyAt f_X7_keyAt
  rw [bd_id]
  by_cases e : p1 < 0
  · rw [slotAt_neg e, Option.bind_some, tr_id]
    exact none_QQ h hM.1 hw.le e
  · obtain ⟨j, hj, rfl⟩ := nI_of e
    rw [slotAt_ok hw hj, Option.bind_some, tr_id]
    exact found_QQ h hw hM hj
