/-! ===== mathematics, 11: looks at all points ===== -/
def sumL (w : Nat → Nat) (L : List Nat) : Nat := (L.map w).sum
theorem sumL_nil (w : Nat → Nat) : sumL w [] = 0 := rfl
theorem sumL_cons (w : Nat → Nat) (a : Nat) (L : List Nat) : sumL w (a :: L) = w a + sumL w L := by rw [sumL, List.map_cons, List.sum_cons]; rfl
theorem sumL_append (w : Nat → Nat) (L L' : List Nat) : sumL w (L ++ L') = sumL w L + sumL w L' := by rw [sumL, List.map_append, List.sum_append]; rfl
theorem sumL_zero {w : Nat → Nat} : ∀ {L : List Nat}, (∀ x ∈ L, w x = 0) → sumL w L = 0
  | [], _ => rfl
  | a :: L, h => by rw [sumL_cons, h a (by simp), sumL_zero (fun x hx => h x (by simp [hx]))]
theorem sumL_congr {w w' : Nat → Nat} : ∀ {L : List Nat}, (∀ x ∈ L, w x = w' x) → sumL w L = sumL w' L
  | [], _ => rfl
  | a :: L, h => by rw [sumL_cons, sumL_cons, h a (by simp), sumL_congr (fun x hx => h x (by simp [hx]))]
theorem sumL_le {w : Nat → Nat} {B : Nat} : ∀ {L : List Nat}, (∀ x ∈ L, w x ≤ B) → sumL w L ≤ B * L.length
  | [], _ => Nat.zero_le _
  | a :: L, h => by
    have h1 := h a (by simp)
    have h2 := sumL_le (L := L) (fun x hx => h x (by simp [hx]))
    rw [sumL_cons, List.length_cons, Nat.mul_succ]; omega
theorem sumL_mono {w w' : Nat → Nat} : ∀ {L : List Nat}, (∀ x ∈ L, w x ≤ w' x) → sumL w L ≤ sumL w' L
  | [], _ => Nat.le_refl _
  | a :: L, h => by
    have h1 := h a (by simp)
    have h2 := sumL_mono (L := L) (fun x hx => h x (by simp [hx]))
    rw [sumL_cons, sumL_cons]; omega
theorem sumL_lt {w w' : Nat → Nat} {L : List Nat} (h : ∀ x ∈ L, w x ≤ w' x) {y : Nat} (hy : y ∈ L) (hlt : w y < w' y) : sumL w L < sumL w' L := by
  induction L with
  | nil => cases hy
  | cons a L ih =>
    have h1 := h a (by simp)
    rw [sumL_cons, sumL_cons]
    rcases List.mem_cons.mp hy with rfl | hy
    · have h2 := sumL_mono (L := L) (fun x hx => h x (by simp [hx]))
      omega
    · have h2 := ih (fun x hx => h x (by simp [hx])) hy
      omega
theorem sumR_addf (g g' : Nat → Nat) : ∀ (n a : Nat), sumR (fun i => g i + g' i) a n = sumR g a n + sumR g' a n
  | 0, _ => rfl
  | n + 1, a => by rw [sumR, sumR, sumR, sumR_addf g g' n (a + 1)]; omega
theorem sumR_delta (x v : Nat) : ∀ (n a : Nat), a ≤ x → x < a + n → sumR (fun i => if i = x then v else 0) a n = v
  | 0, a, h1, h2 => by omega
  | n + 1, a, h1, h2 => by
    rw [sumR]
    by_cases e : a = x
    · rw [if_pos e, sumR_zero n (a + 1) (fun i i1 i2 => by rw [if_neg (by omega)])]; rfl
    · rw [if_neg e, sumR_delta x v n (a + 1) (by omega) (by omega)]; omega
/-- a sum over the used slots -/
theorem sum_slots (w : Nat → Nat) : ∀ {L : List Nat}, L.Nodup → (∀ x ∈ L, 1 ≤ x ∧ x ≤ 24) → sumR (fun s => if s ∈ L then w s else 0) 1 24 = sumL w L
  | [], _, _ => sumR_zero _ _ (fun i _ _ => by rw [if_neg (by simp)])
  | a :: L, h, hm => by
    rw [List.nodup_cons] at h
    have h1 := hm a (by simp)
    rw [sumL_cons, ← sum_slots w h.2 (fun x hx => hm x (by simp [hx])), ← sumR_delta a (w a) 24 1 h1.1 (by omega), ← sumR_addf]
    refine sumR_congr _ _ (fun i _ _ => ?_)
    by_cases e : i = a
    · rw [if_pos (by simp [e]), if_pos e, if_neg (by rw [e]; exact h.1), e] <;> rfl
    · rw [if_neg e, Nat.zero_add]
      by_cases e2 : i ∈ L
      · rw [if_pos e2, if_pos (by simp [e2])]
      · rw [if_neg e2, if_neg (by simp [e, e2])]
theorem sumR_shift (g : Nat → Nat) : ∀ (n a : Nat), sumR g (a + 1) n = sumR (fun i => g (i + 1)) a n
  | 0, _ => rfl
  | n + 1, a => by rw [sumR, sumR, sumR_shift g n (a + 1)]
/-- .. and over the places -/
theorem sum_places (w : Nat → Nat) : ∀ (L : List Nat), sumR (fun i => w (L.getD i 0)) 0 L.length = sumL w L
  | [] => rfl
  | a :: L => by
    rw [List.length_cons, sumR, sumR_shift, sumL_cons]
    rw [← sum_places w L]
    rfl
theorem sum_pl (w : Nat → Nat) (t : Tr) : sumR (fun i => w (t.sl i)) 0 t.size = sumL w t.slots := by
  rw [← sum_places, Tr.len]
theorem cnt_mono {T : TreeS} {lo hi : Int32} (h : lo ≤ hi) (L : List Nat) : cnt T (plt lo) L ≤ cnt T (ple hi) L :=
  List.countP_mono_left (fun s _ hs => decide_eq_true (Int32.le_trans (Int32.le_of_lt (of_decide_eq_true hs)) h))
/-- a sum over a range of keys is a sum over neighbouring places -/
theorem range_sum {T : TreeS} {t : Tr} {lo hi : Int32} (hs : srt T t.slots) (h : lo ≤ hi) (w : Nat → Nat) : sumL (fun s => if lo ≤ T.1 s ∧ T.1 s ≤ hi then w s else 0) t.slots = sumR (fun i => w (t.sl i)) (cnt T (plt lo) t.slots) (cnt T (ple hi) t.slots - cnt T (plt lo) t.slots) := by
  have h1 := cnt_mono (T := T) h t.slots
  have h2 := cnt_le (T := T) (p := ple hi) (t := t)
  have ea := cnt_iff (dwn_lt lo) hs
  have eb := cnt_iff (dwn_le hi) hs
  rw [← sum_pl]
  generalize cnt T (plt lo) t.slots = a at *
  generalize cnt T (ple hi) t.slots = b at *
  rw [show t.size = a + ((b - a) + (t.size - b)) by omega, sumR_add, sumR_add, Nat.zero_add]
  rw [sumR_zero (g := fun i => if lo ≤ T.1 (t.sl i) ∧ T.1 (t.sl i) ≤ hi then w (t.sl i) else 0) a 0 (fun i _ i2 => if_neg (fun h9 => Int32.not_le.mpr (of_decide_eq_true ((ea i (by omega)).mpr (by omega))) h9.1)), sumR_zero (g := fun i => if lo ≤ T.1 (t.sl i) ∧ T.1 (t.sl i) ≤ hi then w (t.sl i) else 0) (t.size - b) (a + (b - a)) (fun i i1 i2 => if_neg (fun h9 => by
      have := (eb i (by omega)).mp (decide_eq_true h9.2)
      omega)), Nat.zero_add, Nat.add_zero]
  refine sumR_congr _ _ (fun i i1 i2 => if_pos ⟨Int32.not_lt.mp (fun h9 => ?_), ?_⟩)
  · have := (ea i (by omega)).mp (decide_eq_true h9)
    omega
  · exact of_decide_eq_true ((eb i (by omega)).mpr (by omega))
theorem used_neg {T : TreeS} {t : Tr} (h : TB T t) {s : Nat} (h1 : 1 ≤ s) (h2 : s ≤ 24) : T.2.2.2.2.2.1 s ≤ 0 ↔ s ∉ t.slots := by
  rcases h.used h1 h2 with ⟨e, hm⟩ | ⟨hm, c, c1, c2, e⟩
  · rw [show T.2.2.2.2.2.1 s = 0 from e]
    exact ⟨fun _ => hm, fun _ => by decide⟩
  · rw [show T.2.2.2.2.2.1 s = nI c from e]
    exact ⟨fun h => absurd h (nI_nle (by omega) (by omega)), fun h => absurd hm h⟩
theorem c53_0 (k6 : TreeS → Int32 → Int32 → Int32 → Int32 → Int32 → Option (Int32)) (T : TreeS) (v1 v2 v3 v4 v5 : Int32) : f_X4_scanAbove_c53 k6 T v1 v2 v3 v4 v5 0 = k6 T v1 v2 v3 v4 (v5 + 1) := by rw [f_X4_scanAbove_c53, if_pos rfl]
theorem c53_1 (k6 : TreeS → Int32 → Int32 → Int32 → Int32 → Int32 → Option (Int32)) (T : TreeS) (v1 v2 v3 v4 v5 : Int32) : f_X4_scanAbove_c53 k6 T v1 v2 v3 v4 v5 1 = if (pq_rd 25 T.2.1 v5) < v3 then k6 T v1 v2 v3 v4 (v5 + 1) else k6 T v1 v2 v3 (v4 + 1) (v5 + 1) := by rw [f_X4_scanAbove_c53, if_neg (by decide)]
/-- a point is in a range and has at least this priority -/
abbrev wA (T : TreeS) (lo hi p : Int32) (s : Nat) : Nat := if lo ≤ T.1 s ∧ T.1 s ≤ hi then (if p ≤ T.2.1 s then 1 else 0) else 0
theorem scanAbove_c6 {T : TreeS} {t : Tr} (h : TB T t) (lo hi p : Int32) : ∀ (n i v : Nat), 1 ≤ i → i ≤ 25 → 25 - i < n → f_X4_scanAbove_c6 n T lo hi p (nI v) (nI i) = some (nI (v + sumR (fun s => if s ∈ t.slots then wA T lo hi p s else 0) i (25 - i)))
  | 0, i, v, _, _, hn => absurd hn (by omega)
  | n + 1, i, v, h1, h2, hn => by
    rw [f_X4_scanAbove_c6, f_X4_scanAbove_c52, c53_0, c53_1]
    by_cases e : i = 25
    · rw [if_pos (show (24 : Int32) < nI i from nI_lt (a := 24) (by omega) (by omega)), e]; rfl
    · rw [if_neg (show ¬ (24 : Int32) < nI i from nI_nlt (a := 24) (by omega) (by omega)), rd25 (by omega), rd25 (by omega), rd25 (by omega), nI_1, nI_1, show 25 - i = (25 - (i + 1)) + 1 by omega, sumR, ← Nat.add_assoc, scanAbove_c6 h lo hi p n (i + 1) v (by omega) (by omega) (by omega), scanAbove_c6 h lo hi p n (i + 1) (v + 1) (by omega) (by omega) (by omega)]
      by_cases hm : i ∈ t.slots
      · rw [if_neg (fun h9 => (used_neg h h1 (by omega)).mp h9 hm), if_pos hm, wA]
        by_cases e1 : T.1 i < lo
        · rw [if_pos e1, if_neg (c := lo ≤ T.1 i ∧ T.1 i ≤ hi) (fun h9 => Int32.not_le.mpr e1 h9.1)] <;> rfl
        · rw [if_neg e1]
          by_cases e2 : hi < T.1 i
          · rw [if_pos e2, if_neg (c := lo ≤ T.1 i ∧ T.1 i ≤ hi) (fun h9 => Int32.not_le.mpr e2 h9.2)] <;> rfl
          · rw [if_neg e2, if_pos (c := lo ≤ T.1 i ∧ T.1 i ≤ hi) ⟨Int32.not_lt.mp e1, Int32.not_lt.mp e2⟩]
            by_cases e3 : T.2.1 i < p
            · rw [if_pos e3, if_neg (c := p ≤ T.2.1 i) (Int32.not_le.mpr e3)] <;> rfl
            · rw [if_neg e3, if_pos (c := p ≤ T.2.1 i) (Int32.not_lt.mp e3)]
      · rw [if_pos ((used_neg h h1 (by omega)).mpr hm), if_neg hm] <;> rfl
theorem TB.mem {T : TreeS} {t : Tr} (h : TB T t) : ∀ x ∈ t.slots, 1 ≤ x ∧ x ≤ 24 := trp.mem h.1.2
theorem scanAbove_ok {T : TreeS} {t : Tr} (h : TB T t) (lo hi p : Int32) : f_X4_scanAbove T lo hi p = some (nI (sumL (wA T lo hi p) t.slots)) := by
  have := scanAbove_c6 h lo hi p 200 1 0 (by omega) (by omega) (by omega)
  rw [Nat.zero_add, sum_slots _ h.2.2.1 h.mem] at this
  exact this
theorem hp0 {T : TreeS} {p : Nat} {l r : Tr} {s : Nat} (ht : trp T p (Tr.node l s r)) (h : hpx T 0 (Tr.node l s r)) : (∀ x, x ∈ l.slots ∨ x ∈ r.slots → abv T s x) ∧ hpx T 0 l ∧ hpx T 0 r := by
  obtain ⟨s1, -, -, -, tl, tr⟩ := ht
  refine ⟨fun x hx => ?_, h.2.1, h.2.2⟩
  have hx0 : x ≠ 0 := by
    rcases hx with hx | hx
    · have := trp.mem (t := l) tl x hx; omega
    · have := trp.mem (t := r) tr x hx; omega
  rcases h.1 x hx with e | e | e
  · exact absurd e hx0
  · omega
  · exact e
theorem searchAbove_ok0 {T : TreeS} {lo hi p : Int32} (hlh : lo ≤ hi) (t : Tr) : ∀ (q v n : Nat), trp T q t → srt T t.slots → hpx T 0 t → v + t.size ≤ 24 → t.size < n → f_X4_searchAboveFrom n T (nI t.root) lo hi p (nI v) = some (nI (sumL (wA T lo hi p) t.slots)) := by
  induction t using Tr.ind with
  | nil =>
    intro q v n _ _ _ _ hn
    obtain ⟨n, rfl⟩ : ∃ n', n = n' + 1 := ⟨n - 1, by omega⟩
    rw [f_X4_searchAboveFrom, show nI Tr.nil.root = 0 from rfl, if_pos rfl]; rfl
  | node l w r hl hr =>
    intro q v n ht hs hh hv hn
    obtain ⟨h1, h2, h3, h4⟩ := srt_node hs
    obtain ⟨hp1, hp2, hp3⟩ := hp0 ht hh
    obtain ⟨s1, -, sl, sr, tl, tr⟩ := ht
    replace sl : T.2.2.2.1 w = nI l.root := sl
    replace sr : T.2.2.2.2.1 w = nI r.root := sr
    rw [Tr.size_node] at hv hn
    obtain ⟨n, rfl⟩ : ∃ n', n = n' + 1 := ⟨n - 1, by omega⟩
    have el := hl w (v + 1) n tl h1 hp2 (by omega) (by omega)
    have er := hr w (v + 1) n tr h2 hp3 (by omega) (by omega)
    rw [f_X4_searchAboveFrom, Tr.root_node, if_neg (nI_ne0 (by omega) (by omega)), if_neg (nI_24 (by omega)), f_X4_priorityIn, Option.bind_some, f_X4_keyIn, Option.bind_some, rd25 s1.2, rd25 s1.2, Tr.slots_node, sumL_append, sumL_cons]
    by_cases c1 : p ≤ T.2.1 w
    · have hz : ∀ z : Nat, f_X4_searchAboveFrom_c51 (f_X4_searchAboveFrom n) T (nI w) lo hi p (nI v) (T.1 w) (nI z) = some (nI (sumL (wA T lo hi p) l.slots + (z + sumL (wA T lo hi p) r.slots))) := fun z => by
        have h86 : ∀ z : Nat, f_X4_searchAboveFrom_c81 (f_X4_searchAboveFrom n) T (nI w) lo hi p (nI v) (T.1 w) (nI z) = some (nI (z + sumL (wA T lo hi p) r.slots)) := fun z => by
          rw [f_X4_searchAboveFrom_c81, f_X4_rightIn, Option.bind_some, rd25 s1.2, sr, nI_1, er, Option.bind_some, nI_add]
          by_cases c2 : hi ≤ T.1 w
          · rw [if_pos c2, sumL_zero (fun x hx => if_neg (fun h9 => Int32.lt_irrefl (Int32.lt_of_lt_of_le (h4 x hx) (Int32.le_trans h9.2 c2))))] <;> rfl
          · rw [if_neg c2]
        rw [f_X4_searchAboveFrom_c51, f_X4_leftIn, Option.bind_some, rd25 s1.2, sl, nI_1, el, Option.bind_some, nI_add, h86, h86]
        by_cases c2 : T.1 w ≤ lo
        · rw [if_pos c2, sumL_zero (L := l.slots) (fun x hx => if_neg (fun h9 => Int32.lt_irrefl (Int32.lt_of_lt_of_le (h3 x hx) (Int32.le_trans c2 h9.1)))), Nat.zero_add]
        · rw [if_neg c2]; congr 2; omega
      have hz0 := hz 0
      have hz1 := hz 1
      rw [show nI 0 = (0 : Int32) from rfl] at hz0
      rw [show nI 1 = (1 : Int32) from rfl] at hz1
      rw [if_pos c1, f_X4_searchAboveFrom_c50, hz0, hz1, wA]
      by_cases c2 : T.1 w < lo
      · rw [if_pos c2, if_neg (c := lo ≤ T.1 w ∧ T.1 w ≤ hi) (fun h9 => Int32.not_le.mpr c2 h9.1)]
      · rw [if_neg c2]
        by_cases c3 : hi < T.1 w
        · rw [if_pos c3, if_neg (c := lo ≤ T.1 w ∧ T.1 w ≤ hi) (fun h9 => Int32.not_le.mpr c3 h9.2)]
        · rw [if_neg c3, if_pos (c := lo ≤ T.1 w ∧ T.1 w ≤ hi) ⟨Int32.not_lt.mp c2, Int32.not_lt.mp c3⟩, if_pos c1]
    · have hz : ∀ x, x ∈ l.slots ∨ x ∈ r.slots → wA T lo hi p x = 0 := fun x hx => by
        have h9 : ¬ p ≤ T.2.1 x := fun h8 => by
          have h7 := hp1 x hx
          simp only [abv, Int32.lt_iff_toInt_lt, Int32.le_iff_toInt_le, ← Int32.toInt_inj] at h7 h8 c1
          omega
        rw [wA, if_neg h9]; split <;> rfl
      rw [if_neg c1, sumL_zero (fun x hx => hz x (Or.inl hx)), sumL_zero (L := r.slots) (fun x hx => hz x (Or.inr hx)), wA, if_neg c1]
      split <;> rfl
theorem isInRange_ok {T : TreeS} {t : Tr} (h : TB T t) {s : Nat} (h1 : 1 ≤ s) (h2 : s ≤ 24) (lo hi : Int32) : f_X4_isInRange T (nI s) lo hi = some (if s ∈ t.slots ∧ lo ≤ T.1 s ∧ T.1 s ≤ hi then 1 else 0) := by
  unfold f_X4_isInRange
  rw [rd25 h2, rd25 h2]
  by_cases hm : s ∈ t.slots
  · rw [if_neg (fun h9 => (used_neg h h1 h2).mp h9 hm)]
    by_cases e1 : T.1 s < lo
    · rw [if_pos e1, if_neg (fun h9 => Int32.not_le.mpr e1 h9.2.1)]
    · rw [if_neg e1]
      by_cases e2 : hi < T.1 s
      · rw [if_pos e2, if_neg (fun h9 => Int32.not_le.mpr e2 h9.2.2)]
      · rw [if_neg e2, if_pos ⟨hm, Int32.not_lt.mp e1, Int32.not_lt.mp e2⟩]
  · rw [if_pos ((used_neg h h1 h2).mpr hm), if_neg (fun h9 => hm h9.1)]
theorem scanTop_c5 {T : TreeS} {t : Tr} (h : TB T t) (lo hi : Int32) {c : Nat} (hc0 : c = 0 ∨ (c ∈ t.slots ∧ lo ≤ T.1 c ∧ T.1 c ≤ hi)) (hc : ∀ s, s ∈ t.slots → lo ≤ T.1 s → T.1 s ≤ hi → s ≠ c → c ≠ 0 ∧ abv T c s) : ∀ (n i v : Nat), 1 ≤ i → i ≤ 25 → (c ≠ 0 → c < i → v = c) → (v = 0 ∨ (v ∈ t.slots ∧ lo ≤ T.1 v ∧ T.1 v ≤ hi ∧ v < i)) → 25 - i < n → f_X4_scanTop_c5 n T lo hi (nI v) (nI i) = some (nI c)
  | 0, i, v, _, _, _, _, hn => absurd hn (by omega)
  | n + 1, i, v, h1, h2, hv, hv0, hn => by
    have hc24 : c ≤ 24 := by
      rcases hc0 with e | e
      · omega
      · exact (h.mem c e.1).2
    rw [f_X4_scanTop_c5]
    by_cases e : i = 25
    · rw [if_pos (show (24 : Int32) < nI i from nI_lt (a := 24) (by omega) (by omega))]
      by_cases e0 : c = 0
      · rcases hv0 with e1 | ⟨e1, e2, e3, e4⟩
        · rw [e0, e1]
        · have := h.mem v e1
          exact absurd e0 (hc v e1 e2 e3 (by omega)).1
      · rw [hv e0 (by omega)]
    · rw [if_neg (show ¬ (24 : Int32) < nI i from nI_nlt (a := 24) (by omega) (by omega)), isInRange_ok h h1 (by omega), Option.bind_some, nI_1]
      have hv24 : v ≤ 24 := by
        rcases hv0 with e1 | ⟨e1, -⟩
        · omega
        · exact (h.mem v e1).2
      by_cases hr : i ∈ t.slots ∧ lo ≤ T.1 i ∧ T.1 i ≤ hi
      · rw [if_pos hr, if_neg (by decide), belongsAbove_ok (by omega) hv24, Option.bind_some]
        have gi : i ∈ t.slots ∧ lo ≤ T.1 i ∧ T.1 i ≤ hi ∧ i < i + 1 := ⟨hr.1, hr.2.1, hr.2.2, by omega⟩
        by_cases hv1 : v = 0
        · rw [if_pos (by rw [hv1]; rfl)]
          refine scanTop_c5 h lo hi hc0 hc n (i + 1) i (by omega) (by omega) (fun c0 c1 => ?_) (Or.inr gi) (by omega)
          by_cases e2 : c = i
          · exact e2.symm
          · have := hv c0 (by omega); omega
        · have gv : v ∈ t.slots ∧ lo ≤ T.1 v ∧ T.1 v ≤ hi ∧ v < i + 1 := by
            rcases hv0 with e1 | ⟨e1, e2, e3, e4⟩
            · exact absurd e1 hv1
            · exact ⟨e1, e2, e3, by omega⟩
          rw [if_neg (nI_ne0 (by omega) (by omega))]
          by_cases ha : abv T i v
          · rw [if_pos ha, if_neg (by decide)]
            refine scanTop_c5 h lo hi hc0 hc n (i + 1) i (by omega) (by omega) (fun c0 c1 => ?_) (Or.inr gi) (by omega)
            by_cases e2 : c = i
            · exact e2.symm
            · have e3 := hv c0 (by omega)
              have e4 := (hc i hr.1 hr.2.1 hr.2.2 (fun h9 => e2 h9.symm)).2
              rw [e3] at ha
              exact absurd ha (fun h9 => abv_asymm h9 e4)
          · rw [if_neg ha, if_pos rfl]
            refine scanTop_c5 h lo hi hc0 hc n (i + 1) v (by omega) (by omega) (fun c0 c1 => ?_) (Or.inr gv) (by omega)
            by_cases e2 : c = i
            · have e4 := (hc v gv.1 gv.2.1 gv.2.2.1 (fun h9 => by rw [h9, e2] at gv; have := hv0; rcases hv0 with e5 | ⟨-, -, -, e5⟩ <;> omega)).2
              rw [e2] at e4
              exact absurd e4 ha
            · exact hv c0 (by omega)
      · rw [if_neg hr, if_pos rfl]
        refine scanTop_c5 h lo hi hc0 hc n (i + 1) v (by omega) (by omega) (fun c0 c1 => ?_) ?_ (by omega)
        · by_cases e2 : c = i
          · rcases hc0 with e3 | e3
            · exact absurd e3 c0
            · rw [e2] at e3; exact absurd e3 hr
          · exact hv c0 (by omega)
        · rcases hv0 with e1 | ⟨e1, e2, e3, e4⟩
          · exact Or.inl e1
          · exact Or.inr ⟨e1, e2, e3, by omega⟩
abbrev pn (T : TreeS) (s : Nat) : Nat := (T.2.1 s).toNatClampNeg
theorem sumBetween_c5 {T : TreeS} {t : Tr} (h : TB T t) (hp : ∀ s ∈ t.slots, ∃ p, p ≤ 99 ∧ T.2.1 s = nI p) (lo hi : Int32) : ∀ (n i v : Nat), 1 ≤ i → i ≤ 25 → 25 - i < n → f_X4_sumBetween_c5 n T lo hi (lN v) (nI i) = some (lN (v + sumR (fun s => if s ∈ t.slots then (if lo ≤ T.1 s ∧ T.1 s ≤ hi then pn T s else 0) else 0) i (25 - i)))
  | 0, i, v, _, _, hn => absurd hn (by omega)
  | n + 1, i, v, h1, h2, hn => by
    rw [f_X4_sumBetween_c5]
    by_cases e : i = 25
    · rw [if_pos (show (24 : Int32) < nI i from nI_lt (a := 24) (by omega) (by omega)), e]; rfl
    · rw [if_neg (show ¬ (24 : Int32) < nI i from nI_nlt (a := 24) (by omega) (by omega)), isInRange_ok h h1 (by omega), Option.bind_some, nI_1, show 25 - i = (25 - (i + 1)) + 1 by omega, sumR, ← Nat.add_assoc, sumBetween_c5 h hp lo hi n (i + 1) v (by omega) (by omega) (by omega)]
      by_cases hm : i ∈ t.slots
      · rw [if_pos hm]
        by_cases hr : lo ≤ T.1 i ∧ T.1 i ≤ hi
        · obtain ⟨p, p1, p2⟩ := hp i hm
          have e9 : pn T i = p := by rw [pn, p2, nI_clamp (by omega)]
          rw [if_pos (show i ∈ t.slots ∧ lo ≤ T.1 i ∧ T.1 i ≤ hi from ⟨hm, hr⟩), if_neg (by decide), if_pos hr, rd25 (by omega), p2, nI_l (by omega), lN_add, sumBetween_c5 h hp lo hi n (i + 1) (v + p) (by omega) (by omega) (by omega), e9]
        · rw [if_neg (show ¬ (i ∈ t.slots ∧ lo ≤ T.1 i ∧ T.1 i ≤ hi) from fun h9 => hr h9.2), if_pos rfl, if_neg hr] <;> rfl
      · rw [if_neg (show ¬ (i ∈ t.slots ∧ lo ≤ T.1 i ∧ T.1 i ≤ hi) from fun h9 => hm h9.1), if_pos rfl, if_neg hm] <;> rfl
theorem sumBetween_ok {T : TreeS} {t : Tr} (h : TB T t) (hp : ∀ s ∈ t.slots, ∃ p, p ≤ 99 ∧ T.2.1 s = nI p) (lo hi : Int32) : f_X4_sumBetween T lo hi = some (lN (sumL (fun s => if lo ≤ T.1 s ∧ T.1 s ≤ hi then pn T s else 0) t.slots)) := by
  have := sumBetween_c5 h hp lo hi 200 1 0 (by omega) (by omega) (by omega)
  rw [Nat.zero_add, sum_slots _ h.2.2.1 h.mem] at this
  exact this
