/-! ===== mathematics, 13: the reference's rows and the class's tree ===== -/
def MA (M : ModS) (T : TreeS) (o : Nat) (L : List Nat) : Prop := ∀ i, i < L.length → mK M (o + i) = T.1 (L.getD i 0) ∧ mP M (o + i) = T.2.1 (L.getD i 0)
theorem MA_node {M : ModS} {T : TreeS} {o : Nat} {l r : Tr} {s : Nat} (h : MA M T o (Tr.node l s r).slots) : MA M T o l.slots ∧ (mK M (o + l.size) = T.1 s ∧ mP M (o + l.size) = T.2.1 s) ∧ MA M T (o + l.size + 1) r.slots := by
  have h' : ∀ i, i < l.size + 1 + r.size → mK M (o + i) = T.1 ((Tr.node l s r).sl i) ∧ mP M (o + i) = T.2.1 ((Tr.node l s r).sl i) := fun i hi => h i (by rw [Tr.len, Tr.size_node]; exact hi)
  refine ⟨fun i hi => ?_, ?_, fun i hi => ?_⟩
  · rw [Tr.len] at hi
    have := h' i (by omega)
    rw [sl_node, if_pos hi] at this
    exact this
  · have := h' l.size (by omega)
    rw [sl_node, if_neg (Nat.lt_irrefl _), if_pos rfl] at this
    exact this
  · rw [Tr.len] at hi
    have := h' (l.size + 1 + i) (by omega)
    rw [sl_node, if_neg (by omega), if_neg (by omega), show l.size + 1 + i - l.size - 1 = i by omega] at this
    rw [show o + l.size + 1 + i = o + (l.size + 1 + i) by omega]
    exact this
theorem th_of {M : ModS} {T : TreeS} {t : Tr} : ∀ (o q : Nat), trp T q t → srt T t.slots → hpx T 0 t → MA M T o t.slots → th M o t := by
  induction t using Tr.ind with
  | nil => intro o q _ _ _ _; trivial
  | node l s r hl hr =>
    intro o q ht hs hh hM
    obtain ⟨h1, h2, h3, h4⟩ := srt_node hs
    obtain ⟨hp1, hp2, hp3⟩ := hp0 ht hh
    obtain ⟨s1, -, sl, sr, tl, tr⟩ := ht
    obtain ⟨m1, m2, m3⟩ := MA_node hM
    rw [th_node]
    refine ⟨fun j j1 j2 j3 => ?_, hl o s tl h1 hp2 m1, hr _ s tr h2 hp3 m3⟩
    by_cases e : j < o + l.size
    · obtain ⟨i, rfl⟩ : ∃ i, j = o + i := ⟨j - o, by omega⟩
      have hm : l.slots.getD i 0 ∈ l.slots := sl_mem (t := l) (by omega)
      have := m1 i (by rw [Tr.len]; omega)
      rw [mab, m2.2, this.2]
      rcases hp1 _ (Or.inl hm) with h9 | ⟨-, h9⟩
      · exact Or.inl h9
      · exact absurd (Int32.lt_trans h9 (h3 _ hm)) Int32.lt_irrefl
    · obtain ⟨i, rfl⟩ : ∃ i, j = o + l.size + 1 + i := ⟨j - (o + l.size + 1), by omega⟩
      have hm : r.slots.getD i 0 ∈ r.slots := sl_mem (t := r) (by omega)
      have := m3 i (by rw [Tr.len]; omega)
      rw [mab, m2.2, this.2]
      rcases hp1 _ (Or.inr hm) with h9 | ⟨h9, -⟩
      · exact Or.inl h9
      · exact Or.inr ⟨h9, by omega⟩
/-- a tree as it should be -/
def WF (T : TreeS) (t : Tr) : Prop := TB T t ∧ srt T t.slots ∧ hpx T 0 t ∧ ∀ x ∈ t.slots, (∃ k, k ≤ 99 ∧ T.1 x = nI k) ∧ ∃ p, p ≤ 99 ∧ T.2.1 x = nI p
/-- .. and the reference has its points -/
def MR (M : ModS) (T : TreeS) (t : Tr) : Prop := mNs M t.size ∧ MA M T 0 t.slots
theorem WF.th {M : ModS} {T : TreeS} {t : Tr} (h : WF T t) (hM : MR M T t) : th M 0 t := th_of 0 0 h.1.1.2 h.2.1 h.2.2.1 hM.2
theorem MR.at {M : ModS} {T : TreeS} {t : Tr} (h : MR M T t) {i : Nat} (hi : i < t.size) : mK M i = T.1 (t.sl i) ∧ mP M i = T.2.1 (t.sl i) := by
  have := h.2 i (by rw [Tr.len]; exact hi)
  rw [Nat.zero_add] at this
  exact this
theorem WF.le {T : TreeS} {t : Tr} (h : WF T t) : t.size ≤ 24 := h.1.size_le
theorem belowR {M : ModS} {T : TreeS} {t : Tr} (h : WF T t) (hM : MR M T t) (x : Int32) : f_X7_below M x = some (nI (cnt T (plt x) t.slots)) := by
  have hc := cnt_iff (dwn_lt x) h.2.1
  have hle := cnt_le (T := T) (p := plt x) (t := t)
  refine below_ok hM.1 h.le (fun i hi => ?_) (fun i hi hi2 => ?_) hle
  · rw [(hM.at (by omega)).1]
    exact of_decide_eq_true ((hc i (by omega)).mpr hi)
  · rw [(hM.at (by omega)).1]
    exact Int32.not_lt.mp (fun h9 => by have := (hc i (by omega)).mp (decide_eq_true h9); omega)
theorem plt_succ {x : Int32} (h : x ≤ 1000) : plt (x + 1) = ple x := by
  funext k
  refine decide_eq_decide.mpr ?_
  rw [Int32.le_iff_toInt_le, show (1000 : Int32).toInt = 1000 from rfl] at h
  have h2 := Int32.le_toInt x
  rw [Int32.lt_iff_toInt_lt, Int32.le_iff_toInt_le, Int32.toInt_add, show (1 : Int32).toInt = 1 from rfl, Int.bmod_eq_of_le (by omega) (by omega)]
  omega
theorem cnt_hit {T : TreeS} {t : Tr} (hs : srt T t.slots) {i : Nat} (hi : i < t.size) {x : Int32} (hx : T.1 (t.sl i) = x) : cnt T (plt x) t.slots = i ∧ cnt T (ple x) t.slots = i + 1 := by
  have ha := cnt_iff (dwn_lt x) hs
  have hb := cnt_iff (dwn_le x) hs
  have la := cnt_le (T := T) (p := plt x) (t := t)
  have lb := cnt_le (T := T) (p := ple x) (t := t)
  have hlt : ∀ j, j < i → T.1 (t.sl j) < x := fun j hj => by rw [← hx]; exact srt_lt hs hj (by rw [Tr.len]; exact hi)
  have hgt : ∀ j, i < j → j < t.size → x < T.1 (t.sl j) := fun j hj hj2 => by rw [← hx]; exact srt_lt hs hj (by rw [Tr.len]; exact hj2)
  have a1 : ¬ i < cnt T (plt x) t.slots := fun h9 => by
    have := of_decide_eq_true ((ha i hi).mpr h9)
    rw [hx] at this
    exact Int32.lt_irrefl this
  have b1 : i < cnt T (ple x) t.slots := (hb i hi).mp (decide_eq_true (by rw [hx]; exact Int32.le_refl _))
  refine ⟨?_, ?_⟩
  · by_cases e : i = 0
    · omega
    · have := (ha (i - 1) (by omega)).mp (decide_eq_true (hlt _ (by omega)))
      omega
  · by_cases e : i + 1 = t.size
    · omega
    · have : ¬ i + 1 < cnt T (ple x) t.slots := fun h9 => by
        have := of_decide_eq_true ((hb (i + 1) (by omega)).mpr h9)
        exact Int32.not_le.mpr (hgt (i + 1) (by omega) (by omega)) this
      omega
theorem cnt_miss {T : TreeS} {t : Tr} (hs : srt T t.slots) {x : Int32} (hx : ∀ s ∈ t.slots, T.1 s ≠ x) : cnt T (ple x) t.slots = cnt T (plt x) t.slots := by
  refine List.countP_congr (fun s hs2 => ?_)
  have := hx s hs2
  rw [decide_eq_true_iff, decide_eq_true_iff]
  exact ⟨fun h9 => Int32.lt_of_le_of_ne h9 this, fun h9 => Int32.le_of_lt h9⟩
theorem findR_hit {M : ModS} {T : TreeS} {t : Tr} (h : WF T t) (hM : MR M T t) {i : Nat} (hi : i < t.size) {x : Int32} (hx : T.1 (t.sl i) = x) : f_X7_find M x = some (nI i) := by
  have h24 := h.le
  unfold f_X7_find
  rw [belowR h hM, Option.bind_some, (cnt_hit h.2.1 hi hx).1, hM.1, if_neg (nI_ge hi (by omega)), key_ok (by omega), Option.bind_some, (hM.at hi).1, if_pos hx]
theorem findR_miss {M : ModS} {T : TreeS} {t : Tr} (h : WF T t) (hM : MR M T t) {x : Int32} (hx : ∀ s ∈ t.slots, T.1 s ≠ x) : f_X7_find M x = some (-1) := by
  have h24 := h.le
  have hle := cnt_le (T := T) (p := plt x) (t := t)
  unfold f_X7_find
  rw [belowR h hM, Option.bind_some, hM.1]
  by_cases e : cnt T (plt x) t.slots = t.size
  · rw [e, if_pos (nI_le (by omega) (by omega))]
  · rw [if_neg (nI_ge (by omega) (by omega)), key_ok (by omega), Option.bind_some, (hM.at (by omega)).1, if_neg (hx _ (sl_mem (by omega)))]
theorem slotOf_hit {T : TreeS} {t : Tr} (h : WF T t) {i : Nat} (hi : i < t.size) {x : Int32} (hx : T.1 (t.sl i) = x) : f_X4_slotOf T x = some (nI (t.sl i)) := by
  unfold f_X4_slotOf
  rw [show T.2.2.2.2.2.2 = nI t.root from h.1.1.1]
  exact slotOf_c7_hit hx t 0 0 200 h.1.1.2 h.2.1 (sl_mem hi) (by have := h.le; omega) (by have := h.le; omega)
theorem slotOf_miss {T : TreeS} {t : Tr} (h : WF T t) {x : Int32} (hx : ∀ s ∈ t.slots, T.1 s ≠ x) : f_X4_slotOf T x = some 0 := by
  unfold f_X4_slotOf
  rw [show T.2.2.2.2.2.2 = nI t.root from h.1.1.1]
  exact slotOf_c7_miss t 0 0 200 h.1.1.2 hx (by have := h.le; omega) (by have := h.le; omega)
/-- a key is there, or not -/
theorem key_cases {T : TreeS} (t : Tr) (x : Int32) : (∃ i, i < t.size ∧ T.1 (t.sl i) = x) ∨ ∀ s ∈ t.slots, T.1 s ≠ x := by
  by_cases h : ∃ s ∈ t.slots, T.1 s = x
  · obtain ⟨s, hs, e⟩ := h
    obtain ⟨i, hi, e2⟩ := sl_ex hs
    exact Or.inl ⟨i, hi, by rw [e2]; exact e⟩
  · exact Or.inr fun s hs e => h ⟨s, hs, e⟩
theorem floorSlot_ok {T : TreeS} {t : Tr} (h : WF T t) (x : Int32) : f_X4_floorSlot T x = some (nI (if cnt T (ple x) t.slots = 0 then 0 else t.sl (cnt T (ple x) t.slots - 1))) := by
  have h24 := h.le
  unfold f_X4_floorSlot
  rw [show T.2.2.2.2.2.2 = nI t.root from h.1.1.1]
  exact floor_c10 t 0 0 0 200 h.1.1.2 h.2.1 (by omega) (by omega)
theorem ceilingSlot_ok {T : TreeS} {t : Tr} (h : WF T t) (x : Int32) : f_X4_ceilingSlot T x = some (nI (t.sl (cnt T (plt x) t.slots))) := by
  have h24 := h.le
  unfold f_X4_ceilingSlot
  rw [show T.2.2.2.2.2.2 = nI t.root from h.1.1.1]
  refine (ceil_c10 t 0 0 0 200 h.1.1.2 h.2.1 (by omega) (by omega)).trans ?_
  by_cases e : cnt T (plt x) t.slots = t.size
  · rw [if_pos e, e, sl_out (Nat.le_refl _)]
  · rw [if_neg e]
theorem countBelow_ok {T : TreeS} {t : Tr} (h : WF T t) (x : Int32) : f_X4_countBelow T x = some (nI (cnt T (plt x) t.slots)) := by
  have h24 := h.le
  unfold f_X4_countBelow
  rw [show T.2.2.2.2.2.2 = nI t.root from h.1.1.1]
  have := countBelow_c10 (x := x) h.1.2.2.2.2 t 0 0 0 200 h.1.1.2 h.1.2.1 h.2.1 (by omega) (by omega)
  rw [Nat.zero_add] at this
  exact this
theorem countBetween_ok {T : TreeS} {t : Tr} (h : WF T t) {lo hi : Int32} (hlh : lo ≤ hi) (hh : hi ≤ 1000) : f_X4_countBetween T lo hi = some (nI (cnt T (ple hi) t.slots - cnt T (plt lo) t.slots)) := by
  unfold f_X4_countBetween
  rw [countBelow_ok h, countBelow_ok h, Option.bind_some, Option.bind_some, plt_succ hh, nI_sub (cnt_mono hlh _)]
theorem slotAt_ok {T : TreeS} {t : Tr} (h : WF T t) {i : Nat} (hi : i < 2 ^ 31) : f_X4_slotAtPosition T (nI i) = some (nI (t.sl i)) := by
  have h24 := h.le
  unfold f_X4_slotAtPosition
  rw [if_pos (nI_pos' hi), show T.2.2.2.2.2.2 = nI t.root from h.1.1.1]
  exact slotAt_c16 h.1.2.2.2.2 t 0 i 0 200 hi h.1.1.2 h.1.2.1 (by omega) (by omega)
theorem slotAt_neg {T : TreeS} {x : Int32} (hx : x < 0) : f_X4_slotAtPosition T x = some 0 := by
  unfold f_X4_slotAtPosition
  rw [if_neg (Int32.not_le.mpr hx)]
theorem pointCount_ok {T : TreeS} {t : Tr} (h : WF T t) : f_X4_pointCount T = some (nI t.size) := by
  unfold f_X4_pointCount
  rw [show T.2.2.2.2.2.2 = nI t.root from h.1.1.1, rd25 (trp.root_le h.1.1.2), show T.2.2.2.2.2.1 t.root = nI t.size from tct.root h.1.2.1 h.1.2.2.2.2]
theorem topSlot_ok {T : TreeS} {t : Tr} (h : WF T t) {lo hi : Int32} (hlh : lo ≤ hi) : f_X4_topSlot T lo hi = some (nI (if cnt T (plt lo) t.slots < cnt T (ple hi) t.slots then t.sl (t.tp (cnt T (plt lo) t.slots) (cnt T (ple hi) t.slots - 1)) else 0)) := by
  have h24 := h.le
  unfold f_X4_topSlot
  rw [show T.2.2.2.2.2.2 = nI t.root from h.1.1.1]
  exact topSlot_c8 hlh t 0 0 200 h.1.1.2 h.2.1 (by omega) (by omega)
theorem searchAbove_ok {T : TreeS} {t : Tr} (h : WF T t) {lo hi : Int32} (hlh : lo ≤ hi) (p : Int32) : f_X4_searchAbove T lo hi p = some (nI (sumL (wA T lo hi p) t.slots)) := by
  have h24 := h.le
  unfold f_X4_searchAbove
  rw [show T.2.2.2.2.2.2 = nI t.root from h.1.1.1, show (0 : Int32) = nI 0 from rfl, searchAbove_ok0 hlh t 0 0 40 h.1.1.2 h.2.1 h.2.2.1 (by omega) (by omega)]
  rfl
/-- the topmost of the points in a range, among places -/
theorem tp_abv {T : TreeS} {t : Tr} : ∀ (q a b : Nat), trp T q t → hpx T 0 t → a ≤ b → b < t.size → ∀ i, a ≤ i → i ≤ b → i ≠ t.tp a b → abv T (t.sl (t.tp a b)) (t.sl i) := by
  induction t using Tr.ind with
  | nil => intro q a b _ _ _ h; rw [Tr.size_nil] at h; omega
  | node l s r hl hr =>
    intro q a b ht hh hab hb i i1 i2 i3
    obtain ⟨hp1, hp2, hp3⟩ := hp0 ht hh
    obtain ⟨s1, -, -, -, tl, tr⟩ := ht
    rw [Tr.size_node] at hb
    rw [tp_node] at i3 ⊢
    by_cases h1 : b < l.size
    · have := tp_in (t := l) a b hab h1
      rw [if_pos h1] at i3 ⊢
      rw [sl_node, sl_node, if_pos (by omega), if_pos (by omega)]
      exact hl s a b tl hp2 hab h1 i i1 i2 i3
    · rw [if_neg h1] at i3 ⊢
      by_cases h2 : l.size < a
      · have := tp_in (t := r) (a - l.size - 1) (b - l.size - 1) (by omega) (by omega)
        rw [if_pos h2] at i3 ⊢
        rw [sl_node, sl_node, if_neg (by omega), if_neg (by omega), if_neg (by omega), if_neg (by omega), show l.size + 1 + r.tp (a - l.size - 1) (b - l.size - 1) - l.size - 1 = r.tp (a - l.size - 1) (b - l.size - 1) by omega]
        exact hr s (a - l.size - 1) (b - l.size - 1) tr hp3 (by omega) (by omega) (i - l.size - 1) (by omega) (by omega) (by omega)
      · rw [if_neg h2] at i3 ⊢
        rw [sl_node, sl_node, if_neg (Nat.lt_irrefl _), if_pos rfl]
        by_cases h3 : i < l.size
        · rw [if_pos h3]; exact hp1 _ (Or.inl (sl_mem h3))
        · rw [if_neg h3, if_neg i3]; exact hp1 _ (Or.inr (sl_mem (by omega)))
theorem scanTop_ok {T : TreeS} {t : Tr} (h : WF T t) {lo hi : Int32} (hlh : lo ≤ hi) : f_X4_scanTop T lo hi = some (nI (if cnt T (plt lo) t.slots < cnt T (ple hi) t.slots then t.sl (t.tp (cnt T (plt lo) t.slots) (cnt T (ple hi) t.slots - 1)) else 0)) := by
  have ha := cnt_iff (dwn_lt lo) h.2.1
  have hb := cnt_iff (dwn_le hi) h.2.1
  have lb := cnt_le (T := T) (p := ple hi) (t := t)
  have hin : ∀ i, i < t.size → (lo ≤ T.1 (t.sl i) ∧ T.1 (t.sl i) ≤ hi ↔ cnt T (plt lo) t.slots ≤ i ∧ i < cnt T (ple hi) t.slots) := fun i hi => by
    rw [← hb i hi, decide_eq_true_iff]
    have h1 := ha i hi
    rw [decide_eq_true_iff] at h1
    rw [← Int32.not_lt, h1, Nat.not_lt]
  unfold f_X4_scanTop
  refine scanTop_c5 h.1 lo hi ?_ ?_ 200 1 0 (by omega) (by omega) (fun h1 h2 => by omega) (Or.inl rfl) (by omega)
  · by_cases e : cnt T (plt lo) t.slots < cnt T (ple hi) t.slots
    · rw [if_pos e]
      obtain ⟨t1, t2⟩ := tp_in (t := t) (cnt T (plt lo) t.slots) (cnt T (ple hi) t.slots - 1) (by omega) (by omega)
      exact Or.inr ⟨sl_mem (by omega), (hin _ (by omega)).mpr ⟨by omega, by omega⟩⟩
    · rw [if_neg e]; exact Or.inl rfl
  · intro s hs h1 h2 hne
    obtain ⟨i, hi9, rfl⟩ := sl_ex hs
    obtain ⟨i1, i2⟩ := (hin i hi9).mp ⟨h1, h2⟩
    have e : cnt T (plt lo) t.slots < cnt T (ple hi) t.slots := by omega
    rw [if_pos e] at hne ⊢
    obtain ⟨t1, t2⟩ := tp_in (t := t) (cnt T (plt lo) t.slots) (cnt T (ple hi) t.slots - 1) (by omega) (by omega)
    refine ⟨?_, tp_abv 0 _ _ h.1.1.2 h.2.2.1 (by omega) (by omega) i i1 (by omega) (fun h9 => hne (by rw [← h9]))⟩
    have := h.1.mem _ (sl_mem (t := t) (i := t.tp (cnt T (plt lo) t.slots) (cnt T (ple hi) t.slots - 1)) (by omega))
    omega
theorem isSound_ok {T : TreeS} {t : Tr} (h : WF T t) : f_X4_isSound T = some 1 := by
  have h24 := h.le
  unfold f_X4_isSound
  rw [show T.2.2.2.2.2.2 = nI t.root from h.1.1.1, show (0 : Int32) = nI 0 from rfl, sound_ok h.1.2.2.2.2 t 0 0 40 (-1) 100 h.1.1.2 h.1.2.1 h.2.1 h.2.2.1 (fun x hx => by
    obtain ⟨k, k1, k2⟩ := (h.2.2.2 x hx).1
    rw [k2]
    exact ⟨Int32.lt_of_lt_of_le (show (-1 : Int32) < 0 by decide) (nI_pos' (by omega)), nI_lt (b := 100) (by omega) (by omega)⟩) (by omega) (by omega)]
  rfl
theorem sum_wA_range {T : TreeS} {t : Tr} (h : WF T t) {lo hi : Int32} (hlh : lo ≤ hi) : sumL (wA T lo hi 0) t.slots = cnt T (ple hi) t.slots - cnt T (plt lo) t.slots := by
  have h1 : sumL (wA T lo hi 0) t.slots = sumL (fun s => if lo ≤ T.1 s ∧ T.1 s ≤ hi then 1 else 0) t.slots := sumL_congr fun x hx => by
    obtain ⟨p, p1, p2⟩ := (h.2.2.2 x hx).2
    rw [wA, p2, if_pos (c := (0 : Int32) ≤ nI p) (nI_pos' (by omega))]
  rw [h1, range_sum h.2.1 hlh (fun _ => 1)]
  clear h1
  generalize cnt T (plt lo) t.slots = a
  generalize cnt T (ple hi) t.slots - a = n
  induction n generalizing a with
  | zero => rfl
  | succ n ih => rw [sumR, ih]; omega
theorem bothWays_c2 {T : TreeS} {t : Tr} (h : WF T t) : ∀ (n i : Nat), i ≤ 100 → 100 - i < n → f_X4_bothWaysAgree_c2 n T (nI i) = some 1
  | 0, i, _, hn => absurd hn (by omega)
  | n + 1, i, hi, hn => by
    rw [f_X4_bothWaysAgree_c2]
    by_cases e : i = 100
    · rw [if_pos (show (99 : Int32) < nI i from nI_lt (a := 99) (by omega) (by omega))]
    · have h0 : (0 : Int32) ≤ nI i := nI_pos' (by omega)
      rw [if_neg (show ¬ (99 : Int32) < nI i from nI_nlt (a := 99) (by omega) (by omega)), countBetween_ok h h0 (nI_le (b := 1000) (by omega) (by omega)), scanAbove_ok h.1, Option.bind_some, Option.bind_some, sum_wA_range h h0, if_pos rfl, topSlot_ok h h0, scanTop_ok h h0, Option.bind_some, Option.bind_some, if_pos rfl, nI_1]
      exact bothWays_c2 h n (i + 1) (by omega) (by omega)
theorem bothWays_ok {T : TreeS} {t : Tr} (h : WF T t) : f_X4_bothWaysAgree T = some 1 := bothWays_c2 h 200 0 (by omega) (by omega)
