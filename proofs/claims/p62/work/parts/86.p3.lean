/-! ===== p62, mathematics 3: what the class answers: orders, ancestors, ranges ===== -/
section ANS3
variable {T : MainS} {t : Tr}
/-- the lowest place above two -/
abbrev Tr.lca (t : Tr) (i j : Nat) : Nat := t.tp (min i j) (max i j)
theorem lca_lt {i j : Nat} (hi : i < t.size) (hj : j < t.size) : t.lca i j < t.size := by
  have := tp_in (t := t) (min i j) (max i j) (by omega) (by omega)
  show t.tp (min i j) (max i j) < t.size
  omega
theorem a_topSlot (h : WF T.1.1 t) {i j : Nat} (hi : i < t.size) (hj : j < t.size) : f_X4_topSlot T.1.1 (if nI (kN T.1.1 t j) < nI (kN T.1.1 t i) then nI (kN T.1.1 t j) else nI (kN T.1.1 t i)) (if nI (kN T.1.1 t i) < nI (kN T.1.1 t j) then nI (kN T.1.1 t j) else nI (kN T.1.1 t i)) = some (nI (t.sl (t.lca i j))) := by
  have k1 := kN_ok h hi
  have k2 := kN_ok h hj
  rcases Nat.lt_trichotomy i j with q | q | q
  · have hk := kN_lt h q hj
    rw [if_neg (nI_nlt (by omega) (by omega)), if_pos (nI_lt hk (by omega)), ← k1.1, ← k2.1, show t.lca i j = t.tp i j by unfold Tr.lca; rw [Nat.min_eq_left (by omega), Nat.max_eq_right (by omega)]]
    exact topSlot_pair h (by omega) hj
  · subst q
    rw [if_neg (Int32.lt_irrefl), ← k1.1, show t.lca i i = t.tp i i by unfold Tr.lca; rw [Nat.min_self, Nat.max_self]]
    exact topSlot_pair h (Nat.le_refl _) hi
  · have hk := kN_lt h q hi
    rw [if_pos (nI_lt hk (by omega)), if_neg (nI_nlt (by omega) (by omega)), ← k1.1, ← k2.1, show t.lca i j = t.tp j i by unfold Tr.lca; rw [Nat.min_eq_right (by omega), Nat.max_eq_left (by omega)]]
    exact topSlot_pair h (by omega) hi
theorem a_common (h : WF T.1.1 t) {i j : Nat} (hi : i < t.size) (hj : j < t.size) : f_X6_commonAncestor T (nI (kN T.1.1 t i)) (nI (kN T.1.1 t j)) = some (.inr (nI (kN T.1.1 t (t.lca i j))), T) := by
  have hc := lca_lt hi hj
  unfold f_X6_commonAncestor
  rw [a_req h hi, tr_r]
  show pq_tr (f_X6_requirePoint T (nI (kN T.1.1 t j))) (fun q4 T6 => (f_X4_topSlot T6.1.1 (if nI (kN T.1.1 t j) < nI (kN T.1.1 t i) then nI (kN T.1.1 t j) else nI (kN T.1.1 t i)) (if nI (kN T.1.1 t i) < nI (kN T.1.1 t j) then nI (kN T.1.1 t j) else nI (kN T.1.1 t i))).bind fun q8 => (f_X4_keyIn T6.1.1 q8).bind fun q10 => some (.inr q10, T6)) = _
  rw [a_req h hj, tr_r]
  show (f_X4_topSlot T.1.1 (if nI (kN T.1.1 t j) < nI (kN T.1.1 t i) then nI (kN T.1.1 t j) else nI (kN T.1.1 t i)) (if nI (kN T.1.1 t i) < nI (kN T.1.1 t j) then nI (kN T.1.1 t j) else nI (kN T.1.1 t i))).bind _ = _
  rw [a_topSlot h hi hj, Option.bind_some, f_X4_keyIn, rd25 (a_slot h hc), Option.bind_some, (kN_ok h hc).1]
theorem a_distance (h : WF T.1.1 t) {i j : Nat} (hi : i < t.size) (hj : j < t.size) : f_X6_distance T (nI (kN T.1.1 t i)) (nI (kN T.1.1 t j)) = some (.inr ((nI (t.dep i) + nI (t.dep j)) - (2 * nI (t.dep (t.lca i j)))), T) := by
  have hc := lca_lt hi hj
  unfold f_X6_distance
  rw [a_req h hi, tr_r]
  show pq_tr (f_X6_requirePoint T (nI (kN T.1.1 t j))) (fun q4 T6 => (f_X4_topSlot T6.1.1 (if nI (kN T.1.1 t j) < nI (kN T.1.1 t i) then nI (kN T.1.1 t j) else nI (kN T.1.1 t i)) (if nI (kN T.1.1 t i) < nI (kN T.1.1 t j) then nI (kN T.1.1 t j) else nI (kN T.1.1 t i))).bind fun q8 => (f_X4_depthIn T6.1.1 (nI (t.sl i))).bind fun q10 => (f_X4_depthIn T6.1.1 q4).bind fun q12 => (f_X4_depthIn T6.1.1 q8).bind fun q14 => some (.inr ((q10 + q12) - (2 * q14)), T6)) = _
  rw [a_req h hj, tr_r]
  show (f_X4_topSlot T.1.1 (if nI (kN T.1.1 t j) < nI (kN T.1.1 t i) then nI (kN T.1.1 t j) else nI (kN T.1.1 t i)) (if nI (kN T.1.1 t i) < nI (kN T.1.1 t j) then nI (kN T.1.1 t j) else nI (kN T.1.1 t i))).bind _ = _
  rw [a_topSlot h hi hj, Option.bind_some, (depthIn_ok h.1 hi).1, (depthIn_ok h.1 hj).1, (depthIn_ok h.1 hc).1]; rfl
/-- one step of the law's search for the lowest common ancestor -/
theorem lca_step (h : WF T.1.1 t) {x y : Nat} (hx : x < t.size) (hy : y < t.size) (hne : x ≠ y) (hd : t.dep y ≤ t.dep x) : ∃ p, p < t.size ∧ t.ch p x ∧ t.lca p y = t.lca x y ∧ t.dep x = t.dep p + 1 := by
  have hin := tp_in (t := t) (min x y) (max x y) (by omega) (by omega)
  have hs := tp_sub (t := t) (min x y) (max x y) (by omega) (by omega)
  have hc := lca_lt hx hy
  show ∃ p, _
  generalize hcc : t.lca x y = c at *
  replace hcc : t.tp (min x y) (max x y) = c := hcc
  rw [hcc] at hin hs
  have hsx : t.sub c x ∧ t.sub c y := by
    rcases Nat.le_total x y with q | q
    · rw [Nat.min_eq_left q, Nat.max_eq_right q] at hs; exact hs
    · rw [Nat.min_eq_right q, Nat.max_eq_left q] at hs; exact ⟨hs.2, hs.1⟩
  have hxc : x ≠ c := fun e => by
    have := dep_sub c y hc hy hsx.2 (fun e2 => hne (e.trans e2.symm))
    rw [e] at hd
    omega
  rcases ch_ex x hx with ⟨-, e0⟩ | ⟨p, hp, hch⟩
  · have := dep_sub c x hc hx hsx.1 hxc
    omega
  · obtain ⟨g1, g2, g3⟩ := par_sub hc hp hch hsx.1 hxc
    refine ⟨p, hp, hch, ?_, (ch_st hp hch).2.1⟩
    refine tp_uniq h (a := min p y) (b := max p y) (c := c) ?_ ?_ (by omega) ?_ ?_
    · rcases Nat.lt_trichotomy x c with q | q | q
      · have := g2 q; omega
      · exact absurd q hxc
      · have := g3 q; omega
    · rcases Nat.lt_trichotomy x c with q | q | q
      · have := g2 q; omega
      · exact absurd q hxc
      · have := g3 q; omega
    · rcases Nat.le_total p y with q | q
      · rw [Nat.min_eq_left q]; exact g1
      · rw [Nat.min_eq_right q]; exact hsx.2
    · rcases Nat.le_total p y with q | q
      · rw [Nat.max_eq_right q]; exact hsx.2
      · rw [Nat.max_eq_left q]; exact g1
theorem lca_comm (x y : Nat) : t.lca x y = t.lca y x := by
  unfold Tr.lca
  rw [Nat.min_comm, Nat.max_comm]
theorem lca_self {x : Nat} (hx : x < t.size) : t.lca x x = x := by
  have := tp_in (t := t) x x (Nat.le_refl _) hx
  show t.tp (min x x) (max x x) = x
  rw [Nat.min_self, Nat.max_self]
  omega
theorem a_height (h : WF T.1.1 t) : ∃ m, f_X6_height T = some m ∧ isMax t.dep (fun j => j < t.size) m := by
  obtain ⟨m, a1, a2⟩ := greatestDepth_ok h.1
  exact ⟨m, by unfold f_X6_height; rw [a1]; rfl, a2⟩
theorem isMax_step {g : Nat → Nat} {i : Nat} {m : Int32} (hm : isMax g (fun j => j < i) m) (hg : g i < 1000) (hs : ∀ j, j < i → g j < 1000) : isMax g (fun j => j < i + 1) (if m < nI (g i) then nI (g i) else m) := by
  obtain ⟨h1, h2⟩ := hm
  by_cases e : m < nI (g i)
  · rw [if_pos e]
    refine ⟨fun s hs => ?_, Or.inr ⟨i, Nat.lt_succ_self i, rfl⟩⟩
    by_cases e2 : s = i
    · rw [e2]; exact Int32.le_refl _
    · exact Int32.le_trans (h1 s (by have : s < i + 1 := hs; omega)) (Int32.le_of_lt e)
  · rw [if_neg e]
    refine ⟨fun s hs => ?_, ?_⟩
    · by_cases e2 : s = i
      · rw [e2]; exact Int32.not_lt.mp e
      · exact h1 s (by have : s < i + 1 := hs; omega)
    · rcases h2 with h2 | ⟨s, h3, h4⟩
      · exact Or.inl h2
      · exact Or.inr ⟨s, Nat.lt_succ_of_lt h3, h4⟩
theorem a_leafCount (h : WF T.1.1 t) : f_X6_leafCount T = some (nI (sumR (fun i => if t.sz i = 1 then 1 else 0) 0 t.size)) := by
  unfold f_X6_leafCount; rw [countLeaves_ok h.1]; rfl
theorem a_isConsistent {a : Nat → Int32} (h : DR T.1 a t) : f_X6_isConsistent T = some 1 := by
  unfold f_X6_isConsistent
  rw [isSound_ok h.1, Option.bind_some, if_neg n10, bothWays_ok h.1, Option.bind_some, if_neg n10, keepsLimits_ok h.1 h.2.2.2.1 h.2.2.2.2, Option.bind_some, if_neg n10]
theorem a_keyByPriority (h : WF T.1.1 t) {i : Nat} (hi : i < t.size) : f_X6_keyByPriority T (nI (ahead T.1.1 t.slots (t.sl i))) = some (.inr (nI (kN T.1.1 t i)), T) := by
  have h24 := h.le
  unfold f_X6_keyByPriority f_X4_slotByPriority
  have hs := slotByPriority_c2 h.1 (p := nI (ahead T.1.1 t.slots (t.sl i))) (c := t.sl i) (Or.inr ⟨sl_mem hi, fun s hs => ⟨fun h9 => ?_, fun h9 => by rw [h9]⟩⟩) 200 1 (by omega) (by omega) (Or.inr (h.1.mem _ (sl_mem hi)).1) (by omega)
  · rw [show (1 : Int32) = nI 1 from rfl, hs, Option.bind_some, tr_id, a_found h hi]
  · have a1 := ahead_le (T := T.1.1) (L := t.slots) (x := s)
    have a2 := ahead_le (T := T.1.1) (L := t.slots) (x := t.sl i)
    rw [Tr.len] at a1 a2
    exact ahead_inj (srt_inj h.2.1) hs (sl_mem hi) ((nI_eq (by omega) (by omega)).mp h9)
theorem ahead_lt_len {T : TreeS} {L : List Nat} {x : Nat} (hx : x ∈ L) : ahead T L x < L.length := by
  have hself : ¬ abv T x x := fun h => abv_asymm h h
  have h1 : ∀ {M : List Nat}, x ∈ M → sumL (fun s => if abv T s x then 1 else 0) M < M.length := by
    intro M hM
    induction M with
    | nil => cases hM
    | cons y M ih =>
      have hs : sumL (fun s => if abv T s x then 1 else 0) (y :: M) = (if abv T y x then 1 else 0) + sumL (fun s => if abv T s x then 1 else 0) M := rfl
      rw [hs, List.length_cons]
      by_cases e : y = x
      · have := ahead_le (T := T) (L := M) (x := x)
        unfold ahead at this
        rw [e, if_neg hself]; omega
      · have := ih (by rcases List.mem_cons.mp hM with h9 | h9; exact absurd h9.symm e; exact h9)
        split <;> omega
  exact h1 hx
theorem a_kbp_no (h : WF T.1.1 t) : f_X6_keyByPriority T (nI t.size) = some (.inl NSE, T) := by
  have h24 := h.le
  unfold f_X6_keyByPriority f_X4_slotByPriority
  have hs := slotByPriority_c2 h.1 (p := nI t.size) (c := 0) (Or.inl ⟨rfl, fun s hs h9 => by
    have := ahead_lt_len (T := T.1.1) hs
    rw [Tr.len] at this
    have := (nI_eq (by omega) (by omega)).mp h9
    omega⟩) 200 1 (by omega) (by omega) (Or.inl rfl) (by omega)
  rw [show (1 : Int32) = nI 1 from rfl, hs, Option.bind_some, tr_id]
  exact keyIn_no T
theorem a_meanDepth (h : WF T.1.1 t) (h0 : 0 < t.size) : f_X6_meanDepth T = some (.inr (FP.ddiv (FP.i2d (nI (sumR t.dep 0 t.size))) (FP.i2d (nI t.size))), T) := by
  have h24 := h.le
  have hn := nI_ne0 (n := t.size) (by omega) (by omega)
  unfold f_X6_meanDepth
  rw [pointCount_ok h, Option.bind_some, if_neg hn, sumOfDepths_ok h.1, Option.bind_some, if_pos (ddiv_num _ hn)]
theorem a_leafShare (h : WF T.1.1 t) (h0 : 0 < t.size) : f_X6_leafShare T = some (.inr (FP.fdiv (FP.i2f (nI (sumR (fun i => if t.sz i = 1 then 1 else 0) 0 t.size))) (FP.i2f (nI t.size))), T) := by
  have h24 := h.le
  have hn := nI_ne0 (n := t.size) (by omega) (by omega)
  unfold f_X6_leafShare
  rw [pointCount_ok h, Option.bind_some, if_neg hn, countLeaves_ok h.1, Option.bind_some, if_pos (fdiv_num _ hn)]
/-! ranges -/
theorem a_range {lo hi : Nat} (l1 : lo ≤ hi) (l2 : hi ≤ 99) : f_X6_requireRange (nI lo) (nI hi) = some (.inr (), ()) := by
  rcases range_cases (nI lo) (nI hi) with ⟨a, b, -, -, -, -, c1, -⟩ | ⟨-, c2⟩
  · exact c1
  · rw [isRangeR l1 l2] at c2
    exact absurd (Option.some.inj c2) (by decide)
theorem a_countInRange (h : WF T.1.1 t) {lo hi : Nat} (l1 : lo ≤ hi) (l2 : hi ≤ 99) : f_X6_countInRange T (nI lo) (nI hi) = some (.inr (nI (sumL (wA T.1.1 (nI lo) (nI hi) 0) t.slots)), T) := by
  have hle : nI lo ≤ nI hi := nI_le l1 (by omega)
  unfold f_X6_countInRange
  rw [a_range l1 l2, tu_r]
  show (f_X4_countBetween T.1.1 (nI lo) (nI hi)).bind _ = _
  rw [countBetween_ok h hle (nI_le (b := 1000) (by omega) (by omega)), sum_wA_range h hle]; rfl
theorem a_countInRangeByScan (h : WF T.1.1 t) {lo hi : Nat} (l1 : lo ≤ hi) (l2 : hi ≤ 99) : f_X6_countInRangeByScan T (nI lo) (nI hi) = some (.inr (nI (sumL (wA T.1.1 (nI lo) (nI hi) 0) t.slots)), T) := by
  unfold f_X6_countInRangeByScan
  rw [a_range l1 l2, tu_r]
  show (f_X4_scanAbove T.1.1 (nI lo) (nI hi) 0).bind _ = _
  rw [scanAbove_ok h.1]; rfl
theorem a_countAbove (h : WF T.1.1 t) {lo hi k : Nat} (l1 : lo ≤ hi) (l2 : hi ≤ 99) (hk : k ≤ 99) : f_X6_countAbove T (nI lo) (nI hi) (nI k) = some (.inr (nI (sumL (wA T.1.1 (nI lo) (nI hi) (nI k)) t.slots)), T) := by
  unfold f_X6_countAbove
  rw [a_range l1 l2, tu_r]
  show pq_tu T (f_X6_requireNumber (nI k)) _ = _
  rw [reqN_ok hk, tu_r]
  show (f_X4_searchAbove T.1.1 (nI lo) (nI hi) (nI k)).bind _ = _
  rw [searchAbove_ok h (nI_le l1 (by omega))]; rfl
theorem a_countAboveByScan (h : WF T.1.1 t) {lo hi k : Nat} (l1 : lo ≤ hi) (l2 : hi ≤ 99) (hk : k ≤ 99) : f_X6_countAboveByScan T (nI lo) (nI hi) (nI k) = some (.inr (nI (sumL (wA T.1.1 (nI lo) (nI hi) (nI k)) t.slots)), T) := by
  unfold f_X6_countAboveByScan
  rw [a_range l1 l2, tu_r]
  show pq_tu T (f_X6_requireNumber (nI k)) _ = _
  rw [reqN_ok hk, tu_r]
  show (f_X4_scanAbove T.1.1 (nI lo) (nI hi) (nI k)).bind _ = _
  rw [scanAbove_ok h.1]; rfl
theorem a_sumInRange (h : WF T.1.1 t) {lo hi : Nat} (l1 : lo ≤ hi) (l2 : hi ≤ 99) : f_X6_sumInRange T (nI lo) (nI hi) = some (.inr (lN (sumL (fun s => if nI lo ≤ T.1.1.1 s ∧ T.1.1.1 s ≤ nI hi then pn T.1.1 s else 0) t.slots)), T) := by
  unfold f_X6_sumInRange
  rw [a_range l1 l2, tu_r]
  show (f_X4_sumBetween T.1.1 (nI lo) (nI hi)).bind _ = _
  rw [sumBetween_ok h.1 (fun s hs => (h.2.2.2 s hs).2)]; rfl
/-- the place of the top of a range, if there is one -/
abbrev aLo (T : TreeS) (t : Tr) (lo : Nat) : Nat := cnt T (plt (nI lo)) t.slots
abbrev aHi (T : TreeS) (t : Tr) (hi : Nat) : Nat := cnt T (ple (nI hi)) t.slots
theorem a_top (h : WF T.1.1 t) {lo hi : Nat} : f_X6_keyInFound T (nI (if aLo T.1.1 t lo < aHi T.1.1 t hi then t.sl (t.tp (aLo T.1.1 t lo) (aHi T.1.1 t hi - 1)) else 0)) = if aLo T.1.1 t lo < aHi T.1.1 t hi then some (.inr (nI (kN T.1.1 t (t.tp (aLo T.1.1 t lo) (aHi T.1.1 t hi - 1)))), T) else some (.inl NSE, T) := by
  have c2 := cnt_le (T := T.1.1) (p := ple (nI hi)) (t := t)
  by_cases e : aLo T.1.1 t lo < aHi T.1.1 t hi
  · have ht := tp_in (t := t) (aLo T.1.1 t lo) (aHi T.1.1 t hi - 1) (by omega) (by unfold aHi; unfold aHi at e; omega)
    rw [if_pos e, if_pos e]
    exact a_found h (by unfold aHi at ht e ⊢; omega)
  · rw [if_neg e, if_neg e]
    exact keyIn_no T
theorem a_topInRange (h : WF T.1.1 t) {lo hi : Nat} (l1 : lo ≤ hi) (l2 : hi ≤ 99) : f_X6_topInRange T (nI lo) (nI hi) = if aLo T.1.1 t lo < aHi T.1.1 t hi then some (.inr (nI (kN T.1.1 t (t.tp (aLo T.1.1 t lo) (aHi T.1.1 t hi - 1)))), T) else some (.inl NSE, T) := by
  rw [← a_top h]
  unfold f_X6_topInRange
  rw [a_range l1 l2, tu_r]
  show ((f_X4_topSlot T.1.1 (nI lo) (nI hi)).bind fun q4 => pq_tr (f_X6_keyInFound T q4) fun q5 T7 => some (.inr q5, T7)) = _
  rw [topSlot_ok h (nI_le l1 (by omega)), Option.bind_some, tr_id]
theorem a_topInRangeByScan (h : WF T.1.1 t) {lo hi : Nat} (l1 : lo ≤ hi) (l2 : hi ≤ 99) : f_X6_topInRangeByScan T (nI lo) (nI hi) = if aLo T.1.1 t lo < aHi T.1.1 t hi then some (.inr (nI (kN T.1.1 t (t.tp (aLo T.1.1 t lo) (aHi T.1.1 t hi - 1)))), T) else some (.inl NSE, T) := by
  rw [← a_top h]
  unfold f_X6_topInRangeByScan
  rw [a_range l1 l2, tu_r]
  show ((f_X4_scanTop T.1.1 (nI lo) (nI hi)).bind fun q4 => pq_tr (f_X6_keyInFound T q4) fun q5 T7 => some (.inr q5, T7)) = _
  rw [scanTop_ok h (nI_le l1 (by omega)), Option.bind_some, tr_id]
/-- of a row of places that grows by one, the top -/
theorem tp_grow (h : WF T.1.1 t) {a j : Nat} (haj : a ≤ j) (hj : j + 1 < t.size) : t.tp a (j + 1) = if abv T.1.1 (t.sl (j + 1)) (t.sl (t.tp a j)) then j + 1 else t.tp a j := by
  have h1 := tp_in (t := t) a j haj (by omega)
  have h2 := tp_in (t := t) a (j + 1) (by omega) hj
  have b1 := tp_abv 0 a j h.1.1.2 h.2.2.1 haj (by omega)
  have b2 := tp_abv 0 a (j + 1) h.1.1.2 h.2.2.1 (by omega) hj
  generalize t.tp a j = c at *
  generalize t.tp a (j + 1) = d at *
  by_cases e : abv T.1.1 (t.sl (j + 1)) (t.sl c)
  · rw [if_pos e]
    apply Classical.byContradiction
    intro hd
    have b3 := b2 (j + 1) (by omega) (by omega) (fun h9 => hd h9.symm)
    by_cases e2 : d = c
    · rw [e2] at b3; exact abv_asymm b3 e
    · exact abv_asymm (abv_trans b3 e) (b1 d (by omega) (by omega) e2)
  · rw [if_neg e]
    apply Classical.byContradiction
    intro hd
    have b3 := b2 c (by omega) (by omega) (fun h9 => hd h9.symm)
    by_cases e2 : d = j + 1
    · rw [e2] at b3; exact e b3
    · exact abv_asymm b3 (b1 d (by omega) (by omega) hd)
theorem tp_one (t : Tr) {a : Nat} (ha : a < t.size) : t.tp a a = a := by
  have := tp_in (t := t) a a (Nat.le_refl _) ha
  omega
/-! neighbours -/
theorem a_floorKey (h : WF T.1.1 t) (x : Nat) : f_X6_floorKey T (nI x) = if aHi T.1.1 t x = 0 then some (.inl NSE, T) else some (.inr (nI (kN T.1.1 t (aHi T.1.1 t x - 1))), T) := by
  have c2 := cnt_le (T := T.1.1) (p := ple (nI x)) (t := t)
  unfold f_X6_floorKey
  rw [floorSlot_ok h, Option.bind_some, tr_id]
  by_cases e : aHi T.1.1 t x = 0
  · rw [if_pos e, if_pos e]; exact keyIn_no T
  · rw [if_neg e, if_neg e]; exact a_found h (by unfold aHi at e; omega)
theorem a_ceilingKey (h : WF T.1.1 t) (x : Nat) : f_X6_ceilingKey T (nI x) = if aLo T.1.1 t x < t.size then some (.inr (nI (kN T.1.1 t (aLo T.1.1 t x))), T) else some (.inl NSE, T) := by
  unfold f_X6_ceilingKey
  rw [ceilingSlot_ok h, Option.bind_some, tr_id]
  by_cases e : aLo T.1.1 t x < t.size
  · rw [if_pos e]; exact a_found h e
  · rw [if_neg e, sl_out (Nat.le_of_not_lt e)]; exact keyIn_no T
theorem a_nearestKey (h : WF T.1.1 t) {x : Nat} (hx : x ≤ 99) : f_X6_nearestKey T (nI x) = if aHi T.1.1 t x = 0 then (if aLo T.1.1 t x < t.size then some (.inr (nI (kN T.1.1 t (aLo T.1.1 t x))), T) else some (.inl NSE, T)) else if t.size ≤ aLo T.1.1 t x ∨ (nI x - nI (kN T.1.1 t (aHi T.1.1 t x - 1))) ≤ (nI (kN T.1.1 t (aLo T.1.1 t x)) - nI x) then some (.inr (nI (kN T.1.1 t (aHi T.1.1 t x - 1))), T) else some (.inr (nI (kN T.1.1 t (aLo T.1.1 t x))), T) := by
  have c1 := cnt_le (T := T.1.1) (p := plt (nI x)) (t := t)
  have c2 := cnt_le (T := T.1.1) (p := ple (nI x)) (t := t)
  unfold f_X6_nearestKey
  rw [reqN_ok hx, tu_r]
  show (f_X4_floorSlot T.1.1 (nI x)).bind _ = _
  rw [floorSlot_ok h, ceilingSlot_ok h, Option.bind_some, Option.bind_some]
  by_cases e : aHi T.1.1 t x = 0
  · rw [if_pos e, if_pos e, show nI 0 = (0 : Int32) from rfl, if_pos (show (0 : Int32) = 0 from rfl)]
    unfold f_X6_nearestKey_c36
    rw [if_pos rfl, tr_id]
    by_cases e2 : aLo T.1.1 t x < t.size
    · rw [if_pos e2]; exact a_found h e2
    · rw [if_neg e2, sl_out (Nat.le_of_not_lt e2)]; exact keyIn_no T
  · have hcs : aHi T.1.1 t x - 1 < t.size := by unfold aHi at e ⊢; omega
    rw [if_neg e, if_neg e, if_neg (sl_pos h hcs)]
    by_cases e2 : aLo T.1.1 t x < t.size
    · have hf := (kN_ok h hcs).1
      have hg := (kN_ok h e2).1
      rw [if_neg (sl_pos h e2), f_X4_keyIn, f_X4_keyIn, rd25 (a_slot h hcs), rd25 (a_slot h e2), Option.bind_some, Option.bind_some, hf, hg]
      by_cases e3 : (nI x - nI (kN T.1.1 t (aHi T.1.1 t x - 1))) ≤ (nI (kN T.1.1 t (aLo T.1.1 t x)) - nI x)
      · rw [if_pos (Or.inr e3), if_neg (Int32.not_lt.mpr e3)]
      · rw [if_pos (Int32.not_le.mp e3), if_neg (fun h9 => h9.elim (fun h8 => absurd e2 (Nat.not_lt.mpr h8)) e3)]
    · rw [sl_out (Nat.le_of_not_lt e2), show nI 0 = (0 : Int32) from rfl, if_pos (show (0 : Int32) = 0 from rfl), if_pos (Or.inl (Nat.le_of_not_lt e2))]
      unfold f_X6_nearestKey_c36
      rw [if_neg (sl_pos h hcs), tr_id]
      exact a_found h hcs
end ANS3
