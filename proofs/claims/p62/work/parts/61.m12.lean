/-! ===== mathematics, 12: orders, depths, leaves, soundness ===== -/
theorem countAhead_c4 {T : TreeS} {t : Tr} (h : TB T t) {x : Nat} (hx : x ≤ 24) : ∀ (n i v : Nat), 1 ≤ i → i ≤ 25 → 25 - i < n → f_X4_countAhead_c4 n T (nI x) (nI v) (nI i) = some (nI (v + sumR (fun s => if s ∈ t.slots then (if abv T s x then 1 else 0) else 0) i (25 - i)))
  | 0, i, v, _, _, hn => absurd hn (by omega)
  | n + 1, i, v, h1, h2, hn => by
    rw [f_X4_countAhead_c4]
    by_cases e : i = 25
    · rw [if_pos (show (24 : Int32) < nI i from nI_lt (a := 24) (by omega) (by omega)), e]; rfl
    · rw [if_neg (show ¬ (24 : Int32) < nI i from nI_nlt (a := 24) (by omega) (by omega)), rd25 (by omega), nI_1, nI_1, show 25 - i = (25 - (i + 1)) + 1 by omega, sumR, ← Nat.add_assoc, countAhead_c4 h hx n (i + 1) v (by omega) (by omega) (by omega), countAhead_c4 h hx n (i + 1) (v + 1) (by omega) (by omega) (by omega), belongsAbove_ok (by omega) hx, Option.bind_some]
      by_cases hm : i ∈ t.slots
      · rw [if_neg (fun h9 => (used_neg h h1 (by omega)).mp h9 hm), if_pos hm]
        by_cases e1 : abv T i x
        · rw [if_pos e1, if_neg (by decide), if_pos e1]
        · rw [if_neg e1, if_pos rfl, if_neg e1] <;> rfl
      · rw [if_pos ((used_neg h h1 (by omega)).mpr hm), if_neg hm] <;> rfl
/-- how many points belong above x -/
def ahead (T : TreeS) (L : List Nat) (x : Nat) : Nat := sumL (fun s => if abv T s x then 1 else 0) L
theorem countAhead_ok {T : TreeS} {t : Tr} (h : TB T t) {x : Nat} (hx : x ≤ 24) : f_X4_countAhead T (nI x) = some (nI (ahead T t.slots x)) := by
  have := countAhead_c4 h hx 200 1 0 (by omega) (by omega) (by omega)
  rw [Nat.zero_add, sum_slots _ h.2.2.1 h.mem] at this
  exact this
theorem ahead_le {T : TreeS} {L : List Nat} {x : Nat} : ahead T L x ≤ L.length := by
  have := sumL_le (B := 1) (w := fun s => if abv T s x then 1 else 0) (L := L) (fun s _ => by split <;> omega)
  rw [ahead]; omega
theorem ahead_lt {T : TreeS} {L : List Nat} {x y : Nat} (hx : x ∈ L) (h : abv T x y) : ahead T L x < ahead T L y := by
  refine sumL_lt (fun s _ => ?_) hx ?_
  · by_cases e : abv T s x
    · rw [if_pos e, if_pos (abv_trans e h)]; exact Nat.le_refl _
    · rw [if_neg e]; exact Nat.zero_le _
  · rw [if_neg (fun e => abv_asymm e e), if_pos h]; exact Nat.one_pos
theorem ahead_inj {T : TreeS} {L : List Nat} (hK : ∀ x ∈ L, ∀ y ∈ L, T.1 x = T.1 y → x = y) {x y : Nat} (hx : x ∈ L) (hy : y ∈ L) (h : ahead T L x = ahead T L y) : x = y := by
  apply Classical.byContradiction
  intro hne
  by_cases e : abv T x y
  · have := ahead_lt hx e; omega
  · have := ahead_lt hy (abv_total (fun h9 => hne (hK x hx y hy h9)) e); omega
theorem slotByPriority_c2 {T : TreeS} {t : Tr} (h : TB T t) {p : Int32} {c : Nat} (hc : (c = 0 ∧ ∀ s ∈ t.slots, nI (ahead T t.slots s) ≠ p) ∨ (c ∈ t.slots ∧ ∀ s ∈ t.slots, (nI (ahead T t.slots s) = p ↔ s = c))) : ∀ (n i : Nat), 1 ≤ i → i ≤ 25 → (c = 0 ∨ i ≤ c) → 25 - i < n → f_X4_slotByPriority_c2 n T p (nI i) = some (nI c)
  | 0, i, _, _, _, hn => absurd hn (by omega)
  | n + 1, i, h1, h2, hic, hn => by
    rw [f_X4_slotByPriority_c2]
    by_cases e : i = 25
    · rw [if_pos (show (24 : Int32) < nI i from nI_lt (a := 24) (by omega) (by omega))]
      rcases hc with ⟨e1, -⟩ | ⟨e1, -⟩
      · rw [e1]; rfl
      · have := h.mem c e1; omega
    · rw [if_neg (show ¬ (24 : Int32) < nI i from nI_nlt (a := 24) (by omega) (by omega)), rd25 (by omega), nI_1, countAhead_ok h (by omega), Option.bind_some]
      by_cases hm : i ∈ t.slots
      · rw [if_neg (fun h9 => (used_neg h h1 (by omega)).mp h9 hm)]
        by_cases e1 : nI (ahead T t.slots i) = p
        · rw [if_pos e1]
          rcases hc with ⟨-, e2⟩ | ⟨-, e2⟩
          · exact absurd e1 (e2 i hm)
          · rw [(e2 i hm).mp e1]
        · rw [if_neg e1]
          refine slotByPriority_c2 h hc n (i + 1) (by omega) (by omega) ?_ (by omega)
          rcases hic with e3 | e3
          · exact Or.inl e3
          · by_cases e4 : i = c
            · rcases hc with ⟨e2, -⟩ | ⟨-, e2⟩
              · exact Or.inl e2
              · exact absurd ((e2 i hm).mpr e4) e1
            · exact Or.inr (by omega)
      · rw [if_pos ((used_neg h h1 (by omega)).mpr hm)]
        refine slotByPriority_c2 h hc n (i + 1) (by omega) (by omega) ?_ (by omega)
        rcases hic with e3 | e3
        · exact Or.inl e3
        · by_cases e4 : i = c
          · rcases hc with ⟨e2, -⟩ | ⟨e2, -⟩
            · exact Or.inl e2
            · rw [← e4] at e2; exact absurd e2 hm
          · exact Or.inr (by omega)
/-! depths -/
theorem depthIn_c11 {T : TreeS} : ∀ (k : List Fr) (h v n : Nat), trk T h k → v + k.length ≤ 24 → k.length < n → f_X4_depthIn_c11 n T (nI v) (nI (parOf k)) = some (nI (v + k.length))
  | [], h, v, n, _, hv, hn => by
    obtain ⟨n, rfl⟩ : ∃ n', n = n' + 1 := ⟨n - 1, by omega⟩
    rw [f_X4_depthIn_c11, show nI (parOf []) = 0 from rfl, if_pos rfl]; split <;> rfl
  | (b, p, c) :: k, h, v, n, ⟨p1, pp, _, _, _, hk⟩, hv, hn => by
    obtain ⟨n, rfl⟩ : ∃ n', n = n' + 1 := ⟨n - 1, by omega⟩
    rw [List.length_cons] at hv hn
    replace pp : T.2.2.1 p = nI (parOf k) := pp
    rw [f_X4_depthIn_c11, show nI (parOf ((b, p, c) :: k)) = nI p from rfl, if_neg (nI_24 (by omega)), if_neg (nI_ne0 (by omega) (by omega)), rd25 p1.2, pp, nI_1, depthIn_c11 k p (v + 1) n hk (by omega) (by omega), List.length_cons, show v + 1 + k.length = v + (k.length + 1) by omega]
/-- what a hole tells of its point -/
theorem hole_ok {T : TreeS} {t : Tr} (h : TB T t) {i : Nat} (hi : i < t.size) : ∃ (k : List Fr) (l r : Tr), plug (Tr.node l (t.sl i) r) k = t ∧ (kL k).length + l.size = i ∧ t.dep i = k.length := by
  obtain ⟨k, l, r, s, e, e2⟩ := zip_ex i hi
  have e3 := sl_hole (l := l) (r := r) (s := s) (k := k)
  have e4 := dep_hole (l := l) (r := r) (s := s) (k := k)
  rw [e, e2] at e3 e4
  exact ⟨k, l, r, by rw [e3]; exact e, e2, e4⟩
theorem depthIn_ok {T : TreeS} {t : Tr} (h : TB T t) {i : Nat} (hi : i < t.size) : f_X4_depthIn T (nI (t.sl i)) = some (nI (t.dep i)) ∧ t.dep i ≤ 23 := by
  obtain ⟨k, l, r, e, e2, e3⟩ := hole_ok h hi
  rw [e3]
  have h2 : TB T (plug (Tr.node l (t.sl i) r) k) := by rw [e]; exact h
  obtain ⟨⟨hk, s1, sp, -, -, -, -⟩, -, -⟩ := h2.parts
  replace sp : T.2.2.1 (t.sl i) = nI (parOf k) := sp
  have hd := h2.depth
  rw [Tr.size_node] at hd
  refine ⟨?_, by omega⟩
  rw [f_X4_depthIn, rd25 s1.2, sp]
  have := depthIn_c11 k _ 0 200 hk (by omega) (by omega)
  rw [Nat.zero_add] at this
  exact this
/-- the depth of a slot -/
def Dp (t : Tr) (s : Nat) : Nat := t.dep (t.slots.idxOf s)
theorem idx_sl {t : Tr} (h : t.slots.Nodup) {i : Nat} (hi : i < t.size) : t.slots.idxOf (t.sl i) = i := by
  rw [Tr.sl, List.getD_eq_getElem?_getD, List.getElem?_eq_getElem (by rw [Tr.len]; exact hi)]
  exact h.idxOf_getElem i (by rw [Tr.len]; exact hi)
theorem Dp_sl {t : Tr} (h : t.slots.Nodup) {i : Nat} (hi : i < t.size) : Dp t (t.sl i) = t.dep i := by rw [Dp, idx_sl h hi]
theorem depthIn_slot {T : TreeS} {t : Tr} (h : TB T t) {s : Nat} (hs : s ∈ t.slots) : f_X4_depthIn T (nI s) = some (nI (Dp t s)) ∧ Dp t s ≤ 23 := by
  obtain ⟨i, hi, rfl⟩ := sl_ex hs
  rw [Dp_sl h.2.2.1 hi]
  exact depthIn_ok h hi
theorem sumOfDepths_c4 {T : TreeS} {t : Tr} (h : TB T t) : ∀ (n i v : Nat), 1 ≤ i → i ≤ 25 → 25 - i < n → f_X4_sumOfDepths_c4 n T (nI v) (nI i) = some (nI (v + sumR (fun s => if s ∈ t.slots then Dp t s else 0) i (25 - i)))
  | 0, i, v, _, _, hn => absurd hn (by omega)
  | n + 1, i, v, h1, h2, hn => by
    rw [f_X4_sumOfDepths_c4]
    by_cases e : i = 25
    · rw [if_pos (show (24 : Int32) < nI i from nI_lt (a := 24) (by omega) (by omega)), e]; rfl
    · rw [if_neg (show ¬ (24 : Int32) < nI i from nI_nlt (a := 24) (by omega) (by omega)), rd25 (by omega), nI_1, show 25 - i = (25 - (i + 1)) + 1 by omega, sumR, ← Nat.add_assoc, sumOfDepths_c4 h n (i + 1) v (by omega) (by omega) (by omega)]
      by_cases hm : i ∈ t.slots
      · rw [if_neg (fun h9 => (used_neg h h1 (by omega)).mp h9 hm), if_pos hm, (depthIn_slot h hm).1, Option.bind_some, nI_add, sumOfDepths_c4 h n (i + 1) (v + Dp t i) (by omega) (by omega) (by omega)]
      · rw [if_pos ((used_neg h h1 (by omega)).mpr hm), if_neg hm] <;> rfl
theorem sumOfDepths_ok {T : TreeS} {t : Tr} (h : TB T t) : f_X4_sumOfDepths T = some (nI (sumR t.dep 0 t.size)) := by
  have := sumOfDepths_c4 h 200 1 0 (by omega) (by omega) (by omega)
  rw [Nat.zero_add, sum_slots _ h.2.2.1 h.mem, ← sum_pl, sumR_congr _ _ (fun i _ i2 => Dp_sl h.2.2.1 (by omega))] at this
  exact this
/-- the greatest of some numbers, -1 without any -/
def isMax (g : Nat → Nat) (P : Nat → Prop) (m : Int32) : Prop := (∀ s, P s → nI (g s) ≤ m) ∧ (m = -1 ∨ ∃ s, P s ∧ m = nI (g s))
theorem greatestDepth_c4 {T : TreeS} {t : Tr} (h : TB T t) : ∀ (n i : Nat) (m : Int32), 1 ≤ i → i ≤ 25 → isMax (Dp t) (fun s => s ∈ t.slots ∧ s < i) m → 25 - i < n → ∃ m', f_X4_greatestDepth_c4 n T m (nI i) = some m' ∧ isMax (Dp t) (fun s => s ∈ t.slots) m'
  | 0, i, m, _, _, _, hn => absurd hn (by omega)
  | n + 1, i, m, h1, h2, hm, hn => by
    rw [f_X4_greatestDepth_c4]
    by_cases e : i = 25
    · rw [if_pos (show (24 : Int32) < nI i from nI_lt (a := 24) (by omega) (by omega))]
      refine ⟨m, rfl, fun s hs => hm.1 s ⟨hs, ?_⟩, ?_⟩
      · have := h.mem s hs; omega
      · rcases hm.2 with e1 | ⟨s, e1, e2⟩
        · exact Or.inl e1
        · exact Or.inr ⟨s, e1.1, e2⟩
    · rw [if_neg (show ¬ (24 : Int32) < nI i from nI_nlt (a := 24) (by omega) (by omega)), rd25 (by omega), nI_1]
      by_cases hi : i ∈ t.slots
      · rw [if_neg (fun h9 => (used_neg h h1 (by omega)).mp h9 hi), (depthIn_slot h hi).1, Option.bind_some]
        refine greatestDepth_c4 h n (i + 1) _ (by omega) (by omega) ⟨fun s hs => ?_, ?_⟩ (by omega)
        · by_cases e1 : m < nI (Dp t i)
          · rw [if_pos e1]
            by_cases e2 : s = i
            · rw [e2]; exact Int32.le_refl _
            · exact Int32.le_of_lt (Int32.lt_of_le_of_lt (hm.1 s ⟨hs.1, by omega⟩) e1)
          · rw [if_neg e1]
            by_cases e2 : s = i
            · rw [e2]; exact Int32.not_lt.mp e1
            · exact hm.1 s ⟨hs.1, by omega⟩
        · by_cases e1 : m < nI (Dp t i)
          · rw [if_pos e1]; exact Or.inr ⟨i, ⟨hi, by omega⟩, rfl⟩
          · rw [if_neg e1]
            rcases hm.2 with e2 | ⟨s, e2, e3⟩
            · exact Or.inl e2
            · exact Or.inr ⟨s, ⟨e2.1, by omega⟩, e3⟩
      · rw [if_pos ((used_neg h h1 (by omega)).mpr hi)]
        refine greatestDepth_c4 h n (i + 1) _ (by omega) (by omega) ⟨fun s hs => hm.1 s ⟨hs.1, ?_⟩, ?_⟩ (by omega)
        · by_cases e2 : s = i
          · rw [e2] at hs; exact absurd hs.1 hi
          · omega
        · rcases hm.2 with e2 | ⟨s, e2, e3⟩
          · exact Or.inl e2
          · exact Or.inr ⟨s, ⟨e2.1, by omega⟩, e3⟩
theorem greatestDepth_ok {T : TreeS} {t : Tr} (h : TB T t) : ∃ m, f_X4_greatestDepth T = some m ∧ isMax t.dep (fun i => i < t.size) m := by
  obtain ⟨m, h1, h2⟩ := greatestDepth_c4 h 200 1 (-1) (by omega) (by omega) ⟨fun s hs => by have := h.mem s hs.1; omega, Or.inl rfl⟩ (by omega)
  refine ⟨m, h1, fun i hi => ?_, ?_⟩
  · rw [← Dp_sl h.2.2.1 hi]; exact h2.1 _ (sl_mem hi)
  · rcases h2.2 with e | ⟨s, e, e2⟩
    · exact Or.inl e
    · obtain ⟨i, hi, rfl⟩ := sl_ex e
      exact Or.inr ⟨i, hi, by rw [e2, Dp_sl h.2.2.1 hi]⟩
theorem isMax_uniq {g : Nat → Nat} {P : Nat → Prop} (hg : ∀ s, P s → g s < 2 ^ 31) {m m' : Int32} (h : isMax g P m) (h' : isMax g P m') : m = m' := by
  rcases h.2 with e | ⟨s, s1, s2⟩
  · rcases h'.2 with e' | ⟨s, s1, s2⟩
    · rw [e, e']
    · have := h.1 s s1
      rw [e, Int32.le_iff_toInt_le, nI_toInt (hg s s1), show (-1 : Int32).toInt = -1 from rfl] at this
      omega
  · rcases h'.2 with e' | ⟨s', s1', s2'⟩
    · have := h'.1 s s1
      rw [e', Int32.le_iff_toInt_le, nI_toInt (hg s s1), show (-1 : Int32).toInt = -1 from rfl] at this
      omega
    · have h1 := h.1 s' s1'
      have h2 := h'.1 s s1
      rw [← s2'] at h1
      rw [← s2] at h2
      exact Int32.le_antisymm h2 h1
/-! leaves -/
def Tr.sz (t : Tr) (i : Nat) : Nat := t.la i - t.fi i + 1
theorem cn_sz {T : TreeS} {t : Tr} : tct T t → ∀ i, i < t.size → T.cn (t.sl i) = nI (t.sz i) ∧ t.fi i + t.sz i = t.la i + 1 := by
  induction t using Tr.ind with
  | nil => intro _ i h; rw [Tr.size_nil] at h; omega
  | node l s r hl hr =>
    intro h i hi
    obtain ⟨hc, cl, cr⟩ := h
    rw [Tr.size_node] at hi
    rw [sl_node, Tr.sz, fi_node, la_node]
    by_cases h1 : i < l.size
    · rw [if_pos h1, if_pos h1, if_pos h1]; exact hl cl i h1
    · rw [if_neg h1, if_neg h1, if_neg h1]
      by_cases h2 : i = l.size
      · rw [if_pos h2, if_pos h2, if_pos h2, Nat.sub_zero]
        refine ⟨?_, by omega⟩
        rw [show l.size + r.size + 1 = l.size + 1 + r.size by omega]; exact hc
      · rw [if_neg h2, if_neg h2, if_neg h2]
        obtain ⟨g1, g2⟩ := hr cr (i - l.size - 1) (by omega)
        rw [Tr.sz] at g1 g2
        refine ⟨?_, by omega⟩
        rw [g1, show l.size + 1 + r.la (i - l.size - 1) - (l.size + 1 + r.fi (i - l.size - 1)) = r.la (i - l.size - 1) - r.fi (i - l.size - 1) by omega]
theorem countLeaves_c4 {T : TreeS} {t : Tr} (h : TB T t) : ∀ (n i v : Nat), 1 ≤ i → i ≤ 25 → 25 - i < n → f_X4_countLeaves_c4 n T (nI v) (nI i) = some (nI (v + sumR (fun s => if s ∈ t.slots then (if T.2.2.2.2.2.1 s = 1 then 1 else 0) else 0) i (25 - i)))
  | 0, i, v, _, _, hn => absurd hn (by omega)
  | n + 1, i, v, h1, h2, hn => by
    rw [f_X4_countLeaves_c4]
    by_cases e : i = 25
    · rw [if_pos (show (24 : Int32) < nI i from nI_lt (a := 24) (by omega) (by omega)), e]; rfl
    · rw [if_neg (show ¬ (24 : Int32) < nI i from nI_nlt (a := 24) (by omega) (by omega)), rd25 (by omega), nI_1, nI_1, show 25 - i = (25 - (i + 1)) + 1 by omega, sumR, ← Nat.add_assoc, countLeaves_c4 h n (i + 1) v (by omega) (by omega) (by omega), countLeaves_c4 h n (i + 1) (v + 1) (by omega) (by omega) (by omega)]
      by_cases hm : i ∈ t.slots
      · rw [if_pos hm]
        by_cases e1 : T.2.2.2.2.2.1 i = 1
        · rw [if_pos e1, if_pos e1]
        · rw [if_neg e1, if_neg e1] <;> rfl
      · have e0 : T.2.2.2.2.2.1 i = 0 := h.2.2.2.1 i h1 (by omega) hm
        rw [if_neg (by rw [e0]; decide), if_neg hm] <;> rfl
theorem countLeaves_ok {T : TreeS} {t : Tr} (h : TB T t) : f_X4_countLeaves T = some (nI (sumR (fun i => if t.sz i = 1 then 1 else 0) 0 t.size)) := by
  have := countLeaves_c4 h 200 1 0 (by omega) (by omega) (by omega)
  rw [Nat.zero_add, sum_slots _ h.2.2.1 h.mem, ← sum_pl] at this
  rw [sumR_congr (g' := fun i => if t.sz i = 1 then 1 else 0) _ _ (fun i _ i2 => ?_)] at this
  · exact this
  · have h3 := cn_sz h.2.1 i (by omega)
    have h4 := la_ge (t := t) i (by omega)
    have h5 := h.size_le
    replace h3 : T.2.2.2.2.2.1 (t.sl i) = nI (t.sz i) ∧ _ := h3
    rw [h3.1]
    by_cases e : t.sz i = 1
    · rw [if_pos e, if_pos (by rw [e]; rfl)]
    · rw [if_neg e, if_neg (show ¬ nI (t.sz i) = 1 from fun h9 => e ((nI_eq (a := t.sz i) (b := 1) (by omega) (by omega)).mp h9))]
/-! soundness -/
theorem sound_ok {T : TreeS} (h0 : T.cn 0 = 0) (t : Tr) : ∀ (q v n : Nat) (lo hi : Int32), trp T q t → tct T t → srt T t.slots → hpx T 0 t → (∀ x ∈ t.slots, lo < T.1 x ∧ T.1 x < hi) → v + t.size ≤ 24 → t.size < n → f_X4_isSoundFrom n T (nI t.root) lo hi (nI v) = some 1 := by
  induction t using Tr.ind with
  | nil =>
    intro q v n lo hi _ _ _ _ _ _ hn
    obtain ⟨n, rfl⟩ : ∃ n', n = n' + 1 := ⟨n - 1, by omega⟩
    rw [f_X4_isSoundFrom, show nI Tr.nil.root = 0 from rfl, if_pos rfl]
  | node l w r hl hr =>
    intro q v n lo hi ht hct hs hh hb hv hn
    obtain ⟨h1, h2, h3, h4⟩ := srt_node hs
    obtain ⟨hp1, hp2, hp3⟩ := hp0 ht hh
    obtain ⟨s1, -, sl, sr, tl, tr⟩ := ht
    obtain ⟨hc, cl, cr⟩ := hct
    replace sl : T.2.2.2.1 w = nI l.root := sl
    replace sr : T.2.2.2.2.1 w = nI r.root := sr
    rw [Tr.size_node] at hv hn
    simp only [Tr.slots_node, List.mem_append, List.mem_cons] at hb
    have hlc : T.2.2.2.2.2.1 l.root = nI l.size := tct.root cl h0
    have hrc : T.2.2.2.2.2.1 r.root = nI r.size := tct.root cr h0
    replace hc : T.2.2.2.2.2.1 w = nI (l.size + 1 + r.size) := hc
    have l24 := trp.root_le tl
    have r24 := trp.root_le tr
    obtain ⟨n, rfl⟩ : ∃ n', n = n' + 1 := ⟨n - 1, by omega⟩
    have el := hl w (v + 1) n lo (T.1 w) tl cl h1 hp2 (fun x hx => ⟨(hb x (Or.inl hx)).1, h3 x hx⟩) (by omega) (by omega)
    have er := hr w (v + 1) n (T.1 w) hi tr cr h2 hp3 (fun x hx => ⟨h4 x hx, (hb x (Or.inr (Or.inr hx))).2⟩) (by omega) (by omega)
    have nab : ∀ u : Tr, (u = l ∨ u = r) → ¬ nI u.root = 0 → ¬ abv T u.root w := fun u hu h9 h8 => by
      cases u using Tr.cas with
      | nil => exact h9 rfl
      | node a z b =>
        have hz : z ∈ l.slots ∨ z ∈ r.slots := by
          rcases hu with e | e
          · rw [← e]; exact Or.inl (by simp [Tr.slots_node])
          · rw [← e]; exact Or.inr (by simp [Tr.slots_node])
        exact abv_asymm h8 (hp1 z hz)
    have h89 : f_X4_isSoundFrom_c84 (f_X4_isSoundFrom n) T (nI w) lo hi (nI v) (T.1 w) (nI l.root) (nI r.root) = some 1 := by
      rw [f_X4_isSoundFrom_c84, f_X4_countIn, f_X4_countIn, f_X4_countIn, Option.bind_some, Option.bind_some, Option.bind_some, rd25 s1.2, rd25 l24, rd25 r24, hc, hlc, hrc, show (1 : Int32) = nI 1 from rfl, nI_add, nI_add, nI_add, el, er, if_pos (by congr 1; omega), Option.bind_some, Option.bind_some]
      rfl
    have h72 : f_X4_isSoundFrom_c67 (f_X4_isSoundFrom n) T (nI w) lo hi (nI v) (T.1 w) (nI l.root) (nI r.root) = some 1 := by
      rw [f_X4_isSoundFrom_c67]
      by_cases e : nI r.root = 0
      · rw [if_pos e, h89]
      · rw [if_neg e, belongsAbove_ok r24 s1.2, Option.bind_some, if_neg (nab r (Or.inr rfl) e), if_pos rfl, h89]
    have hw := hb w (Or.inr (Or.inl rfl))
    rw [f_X4_isSoundFrom, Tr.root_node, if_neg (nI_ne0 (by omega) (by omega)), f_X4_keyIn, f_X4_leftIn, f_X4_rightIn, Option.bind_some, Option.bind_some, Option.bind_some, if_neg (nI_24 (by omega)), rd25 s1.2, rd25 s1.2, rd25 s1.2, sl, sr, if_neg (Int32.not_le.mpr hw.1), if_pos hw.2, h72]
    by_cases e : nI l.root = 0
    · rw [if_pos e]
    · rw [if_neg e, belongsAbove_ok l24 s1.2, Option.bind_some, if_neg (nab l (Or.inl rfl) e), if_pos rfl]
