/-! ===== mathematics, 10: the class's searches, by places ===== -/
abbrev Tr.sl (t : Tr) (i : Nat) : Nat := t.slots.getD i 0
theorem sl_node (l : Tr) (s : Nat) (r : Tr) (i : Nat) : (Tr.node l s r).sl i = if i < l.size then l.sl i else if i = l.size then s else r.sl (i - l.size - 1) := by
  rw [Tr.sl, Tr.sl, Tr.sl, Tr.slots_node, List.getD_eq_getElem?_getD, List.getD_eq_getElem?_getD, List.getD_eq_getElem?_getD, List.getElem?_append, Tr.len]
  by_cases h1 : i < l.size
  · rw [if_pos h1, if_pos h1]
  · rw [if_neg h1, if_neg h1]
    by_cases h2 : i = l.size
    · rw [if_pos h2, h2, Nat.sub_self]; rfl
    · rw [if_neg h2, show i - l.size = (i - l.size - 1) + 1 by omega, List.getElem?_cons_succ]; rfl
theorem getD_mem {L : List Nat} {i : Nat} (h : i < L.length) : L.getD i 0 ∈ L := by
  rw [List.getD_eq_getElem?_getD, List.getElem?_eq_getElem h]
  exact List.getElem_mem h
theorem getD_out {L : List Nat} {i : Nat} (h : L.length ≤ i) : L.getD i 0 = 0 := by
  rw [List.getD_eq_getElem?_getD, List.getElem?_eq_none h]; rfl
theorem getD_ex {L : List Nat} {x : Nat} (h : x ∈ L) : ∃ i, i < L.length ∧ L.getD i 0 = x := by
  obtain ⟨i, hi, e⟩ := List.getElem_of_mem h
  exact ⟨i, hi, by rw [List.getD_eq_getElem?_getD, List.getElem?_eq_getElem hi, e]; rfl⟩
theorem sl_mem {t : Tr} {i : Nat} (h : i < t.size) : t.sl i ∈ t.slots := getD_mem (by rw [Tr.len]; exact h)
theorem sl_out {t : Tr} {i : Nat} (h : t.size ≤ i) : t.sl i = 0 := getD_out (by rw [Tr.len]; exact h)
theorem sl_ex {t : Tr} {x : Nat} (h : x ∈ t.slots) : ∃ i, i < t.size ∧ t.sl i = x := by
  obtain ⟨i, hi, e⟩ := getD_ex h
  exact ⟨i, by rw [← Tr.len]; exact hi, e⟩
theorem sl_hole {l r : Tr} {s : Nat} {k : List Fr} : (plug (Tr.node l s r) k).sl ((kL k).length + l.size) = s := by
  rw [Tr.sl, plug_lr, Tr.slots_node, List.getD_eq_getElem?_getD]
  simp [List.getElem?_append, Tr.len]
theorem srt_node {T : TreeS} {l r : Tr} {s : Nat} (h : srt T (Tr.node l s r).slots) : srt T l.slots ∧ srt T r.slots ∧ (∀ x ∈ l.slots, T.1 x < T.1 s) ∧ (∀ x ∈ r.slots, T.1 s < T.1 x) := by
  rw [srt, Tr.slots_node, List.pairwise_append, List.pairwise_cons] at h
  exact ⟨h.1, h.2.1.2, fun x hx => h.2.2 x hx s (by simp), h.2.1.1⟩
theorem srt_lt {T : TreeS} {L : List Nat} (h : srt T L) {i j : Nat} (hij : i < j) (hj : j < L.length) : T.1 (L.getD i 0) < T.1 (L.getD j 0) := by
  rw [List.getD_eq_getElem?_getD, List.getD_eq_getElem?_getD, List.getElem?_eq_getElem (by omega), List.getElem?_eq_getElem hj]
  exact (List.pairwise_iff_getElem.mp h) i j (by omega) hj hij
/-- how many keys have p; p holds of the lower ones -/
def cnt (T : TreeS) (p : Int32 → Bool) (L : List Nat) : Nat := L.countP (fun s => p (T.1 s))
def dwn (p : Int32 → Bool) : Prop := ∀ a b : Int32, a < b → p b = true → p a = true
abbrev plt (x : Int32) : Int32 → Bool := fun k => decide (k < x)
abbrev ple (x : Int32) : Int32 → Bool := fun k => decide (k ≤ x)
theorem dwn_lt (x : Int32) : dwn (plt x) := fun a b h1 h2 => decide_eq_true (Int32.lt_trans h1 (of_decide_eq_true h2))
theorem dwn_le (x : Int32) : dwn (ple x) := fun a b h1 h2 => decide_eq_true (Int32.le_of_lt (Int32.lt_of_lt_of_le h1 (of_decide_eq_true h2)))
theorem cnt_le {T : TreeS} {p : Int32 → Bool} {t : Tr} : cnt T p t.slots ≤ t.size := by
  rw [← Tr.len]; exact List.countP_le_length
theorem cnt_nil {T : TreeS} {p : Int32 → Bool} : cnt T p Tr.nil.slots = 0 := rfl
theorem cnt_pos {T : TreeS} {p : Int32 → Bool} {l r : Tr} {s : Nat} (h : srt T (Tr.node l s r).slots) (hp : dwn p) (hs : p (T.1 s) = true) : cnt T p (Tr.node l s r).slots = l.size + 1 + cnt T p r.slots := by
  obtain ⟨-, -, h1, -⟩ := srt_node h
  have e : cnt T p l.slots = l.size := by
    rw [← Tr.len]
    exact List.countP_eq_length.mpr fun a ha => hp _ _ (h1 a ha) hs
  rw [cnt, Tr.slots_node, List.countP_append, List.countP_cons, if_pos hs]
  rw [cnt] at e ⊢
  omega
theorem cnt_neg {T : TreeS} {p : Int32 → Bool} {l r : Tr} {s : Nat} (h : srt T (Tr.node l s r).slots) (hp : dwn p) (hs : ¬ p (T.1 s) = true) : cnt T p (Tr.node l s r).slots = cnt T p l.slots := by
  obtain ⟨-, -, -, h1⟩ := srt_node h
  have e : cnt T p r.slots = 0 := List.countP_eq_zero.mpr fun a ha h2 => hs (hp _ _ (h1 a ha) h2)
  rw [cnt, Tr.slots_node, List.countP_append, List.countP_cons, if_neg hs]
  rw [cnt] at e ⊢
  omega
/-- the places with p are those ahead of their number -/
theorem cnt_iff {T : TreeS} {p : Int32 → Bool} (hp : dwn p) {t : Tr} : srt T t.slots → ∀ i, i < t.size → (p (T.1 (t.sl i)) = true ↔ i < cnt T p t.slots) := by
  induction t using Tr.ind with
  | nil => intro _ i h; rw [Tr.size_nil] at h; omega
  | node l s r hl hr =>
    intro h i hi
    obtain ⟨h1, h2, h3, h4⟩ := srt_node h
    rw [Tr.size_node] at hi
    rw [sl_node]
    by_cases e1 : i < l.size
    · rw [if_pos e1]
      by_cases hs : p (T.1 s) = true
      · rw [cnt_pos h hp hs]
        exact ⟨fun _ => by omega, fun _ => hp _ _ (h3 _ (sl_mem e1)) hs⟩
      · rw [cnt_neg h hp hs]
        exact hl h1 i e1
    · rw [if_neg e1]
      by_cases e2 : i = l.size
      · rw [if_pos e2]
        by_cases hs : p (T.1 s) = true
        · rw [cnt_pos h hp hs]
          exact ⟨fun _ => by omega, fun _ => hs⟩
        · rw [cnt_neg h hp hs]
          have := cnt_le (T := T) (p := p) (t := l)
          exact ⟨fun h9 => absurd h9 hs, fun _ => by omega⟩
      · rw [if_neg e2]
        by_cases hs : p (T.1 s) = true
        · rw [cnt_pos h hp hs]
          have := hr h2 (i - l.size - 1) (by omega)
          rw [this]
          omega
        · rw [cnt_neg h hp hs]
          have := cnt_le (T := T) (p := p) (t := l)
          exact ⟨fun h9 => absurd (hp _ _ (h4 _ (sl_mem (by omega))) h9) hs, fun _ => by omega⟩
theorem nI_sub {a b : Nat} (h : b ≤ a) : nI a - nI b = nI (a - b) := by
  have : nI a = nI (a - b) + nI b := by rw [nI_add, Nat.sub_add_cancel h]
  rw [this, Int32.add_sub_cancel]
theorem nI_24 {v : Nat} (h : v < 24) : ¬ (24 : Int32) ≤ nI v := nI_ge (b := 24) h (by decide)
/-! the searches -/
theorem slotOf_c7_hit {T : TreeS} {x : Int32} {s : Nat} (hx : T.1 s = x) (t : Tr) : ∀ (p v n : Nat), trp T p t → srt T t.slots → s ∈ t.slots → v + t.size ≤ 24 → t.size < n → f_X4_slotOf_c7 n T x (nI t.root) (nI v) = some (nI s) := by
  induction t using Tr.ind with
  | nil => intro p v n _ _ h; cases h
  | node l w r hl hr =>
    intro p v n ht hs hm hv hn
    obtain ⟨h1, h2, h3, h4⟩ := srt_node hs
    obtain ⟨s1, -, sl, sr, tl, tr⟩ := ht
    replace sl : T.2.2.2.1 w = nI l.root := sl
    replace sr : T.2.2.2.2.1 w = nI r.root := sr
    rw [Tr.size_node] at hv hn
    rw [Tr.slots_node, List.mem_append, List.mem_cons] at hm
    obtain ⟨n, rfl⟩ : ∃ n', n = n' + 1 := ⟨n - 1, by omega⟩
    rw [f_X4_slotOf_c7, Tr.root_node, if_neg (nI_24 (by omega)), if_neg (nI_ne0 (by omega) (by omega)), rd25 s1.2, rd25 s1.2, rd25 s1.2, sl, sr, nI_1]
    rcases hm with hm | rfl | hm
    · have := h3 s hm
      rw [hx] at this
      rw [if_neg (fun e => by rw [e] at this; exact Int32.lt_irrefl this), if_neg (Int32.not_le.mpr this)]
      exact hl w (v + 1) n tl h1 hm (by omega) (by omega)
    · rw [if_pos hx]
    · have := h4 s hm
      rw [hx] at this
      rw [if_neg (fun e => by rw [e] at this; exact Int32.lt_irrefl this), if_pos (Int32.le_of_lt this)]
      exact hr w (v + 1) n tr h2 hm (by omega) (by omega)
theorem slotOf_c7_miss {T : TreeS} {x : Int32} (t : Tr) : ∀ (p v n : Nat), trp T p t → (∀ s ∈ t.slots, T.1 s ≠ x) → v + t.size ≤ 24 → t.size < n → f_X4_slotOf_c7 n T x (nI t.root) (nI v) = some 0 := by
  induction t using Tr.ind with
  | nil =>
    intro p v n _ _ _ hn
    obtain ⟨n, rfl⟩ : ∃ n', n = n' + 1 := ⟨n - 1, by omega⟩
    rw [f_X4_slotOf_c7, show nI Tr.nil.root = 0 from rfl, if_pos rfl]; split <;> rfl
  | node l w r hl hr =>
    intro p v n ht hm hv hn
    obtain ⟨s1, -, sl, sr, tl, tr⟩ := ht
    replace sl : T.2.2.2.1 w = nI l.root := sl
    replace sr : T.2.2.2.2.1 w = nI r.root := sr
    rw [Tr.size_node] at hv hn
    simp only [Tr.slots_node, List.mem_append, List.mem_cons] at hm
    obtain ⟨n, rfl⟩ : ∃ n', n = n' + 1 := ⟨n - 1, by omega⟩
    rw [f_X4_slotOf_c7, Tr.root_node, if_neg (nI_24 (by omega)), if_neg (nI_ne0 (by omega) (by omega)), rd25 s1.2, rd25 s1.2, rd25 s1.2, sl, sr, nI_1, if_neg (hm w (by simp)), hl w (v + 1) n tl (fun s hs => hm s (by simp [hs])) (by omega) (by omega), hr w (v + 1) n tr (fun s hs => hm s (by simp [hs])) (by omega) (by omega)]
    split <;> rfl
theorem floor_c10 {T : TreeS} {x : Int32} (t : Tr) : ∀ (p f v n : Nat), trp T p t → srt T t.slots → v + t.size ≤ 24 → t.size < n → f_X4_floorSlot_c10 n T x (nI f) (nI t.root) (nI v) = some (nI (if cnt T (ple x) t.slots = 0 then f else t.sl (cnt T (ple x) t.slots - 1))) := by
  induction t using Tr.ind with
  | nil =>
    intro p f v n _ _ _ hn
    obtain ⟨n, rfl⟩ : ∃ n', n = n' + 1 := ⟨n - 1, by omega⟩
    rw [f_X4_floorSlot_c10, show nI Tr.nil.root = 0 from rfl, if_pos rfl, if_pos cnt_nil]; split <;> rfl
  | node l w r hl hr =>
    intro p f v n ht hs hv hn
    obtain ⟨h1, h2, h3, h4⟩ := srt_node hs
    obtain ⟨s1, -, sl, sr, tl, tr⟩ := ht
    replace sl : T.2.2.2.1 w = nI l.root := sl
    replace sr : T.2.2.2.2.1 w = nI r.root := sr
    rw [Tr.size_node] at hv hn
    obtain ⟨n, rfl⟩ : ∃ n', n = n' + 1 := ⟨n - 1, by omega⟩
    rw [f_X4_floorSlot_c10, Tr.root_node, if_neg (nI_24 (by omega)), if_neg (nI_ne0 (by omega) (by omega)), rd25 s1.2, rd25 s1.2, rd25 s1.2, sl, sr, nI_1]
    by_cases hc : x < T.1 w
    · rw [if_pos hc, hl w f (v + 1) n tl h1 (by omega) (by omega), cnt_neg hs (dwn_le x) (fun h => Int32.not_le.mpr hc (of_decide_eq_true h))]
      by_cases h0 : cnt T (ple x) l.slots = 0
      · rw [if_pos h0, if_pos h0]
      · have := cnt_le (T := T) (p := ple x) (t := l)
        rw [if_neg h0, if_neg h0, sl_node, if_pos (by omega)]
    · rw [if_neg hc, hr w w (v + 1) n tr h2 (by omega) (by omega), cnt_pos hs (dwn_le x) (decide_eq_true (Int32.not_lt.mp hc)), if_neg (c := l.size + 1 + cnt T (ple x) r.slots = 0) (by omega), sl_node, if_neg (c := l.size + 1 + cnt T (ple x) r.slots - 1 < l.size) (by omega)]
      by_cases h0 : cnt T (ple x) r.slots = 0
      · rw [if_pos h0, if_pos (c := l.size + 1 + cnt T (ple x) r.slots - 1 = l.size) (by omega)]
      · rw [if_neg h0, if_neg (c := l.size + 1 + cnt T (ple x) r.slots - 1 = l.size) (by omega), show l.size + 1 + cnt T (ple x) r.slots - 1 - l.size - 1 = cnt T (ple x) r.slots - 1 by omega]
theorem ceil_c10 {T : TreeS} {x : Int32} (t : Tr) : ∀ (p f v n : Nat), trp T p t → srt T t.slots → v + t.size ≤ 24 → t.size < n → f_X4_ceilingSlot_c10 n T x (nI f) (nI t.root) (nI v) = some (nI (if cnt T (plt x) t.slots = t.size then f else t.sl (cnt T (plt x) t.slots))) := by
  induction t using Tr.ind with
  | nil =>
    intro p f v n _ _ _ hn
    obtain ⟨n, rfl⟩ : ∃ n', n = n' + 1 := ⟨n - 1, by omega⟩
    rw [f_X4_ceilingSlot_c10, show nI Tr.nil.root = 0 from rfl, if_pos rfl, if_pos (show cnt T (plt x) Tr.nil.slots = Tr.nil.size from rfl)]; split <;> rfl
  | node l w r hl hr =>
    intro p f v n ht hs hv hn
    obtain ⟨h1, h2, h3, h4⟩ := srt_node hs
    obtain ⟨s1, -, sl, sr, tl, tr⟩ := ht
    replace sl : T.2.2.2.1 w = nI l.root := sl
    replace sr : T.2.2.2.2.1 w = nI r.root := sr
    rw [Tr.size_node] at hv hn
    obtain ⟨n, rfl⟩ : ∃ n', n = n' + 1 := ⟨n - 1, by omega⟩
    rw [f_X4_ceilingSlot_c10, Tr.root_node, if_neg (nI_24 (by omega)), if_neg (nI_ne0 (by omega) (by omega)), rd25 s1.2, rd25 s1.2, rd25 s1.2, sl, sr, nI_1, Tr.size_node]
    by_cases hc : T.1 w < x
    · rw [if_pos hc, hr w f (v + 1) n tr h2 (by omega) (by omega), cnt_pos hs (dwn_lt x) (decide_eq_true hc)]
      by_cases h0 : cnt T (plt x) r.slots = r.size
      · rw [if_pos h0, if_pos (by omega)]
      · rw [if_neg h0, if_neg (by omega), sl_node, if_neg (by omega), if_neg (by omega), show l.size + 1 + cnt T (plt x) r.slots - l.size - 1 = cnt T (plt x) r.slots by omega]
    · have hle := cnt_le (T := T) (p := plt x) (t := l)
      rw [if_neg hc, hl w w (v + 1) n tl h1 (by omega) (by omega), cnt_neg hs (dwn_lt x) (fun h => hc (of_decide_eq_true h)), if_neg (c := cnt T (plt x) l.slots = l.size + 1 + r.size) (by omega), sl_node]
      by_cases h0 : cnt T (plt x) l.slots = l.size
      · rw [if_pos h0, if_neg (by omega), if_pos h0]
      · rw [if_neg h0, if_pos (by omega)]
theorem countBelow_c10 {T : TreeS} {x : Int32} (h0 : T.cn 0 = 0) (t : Tr) : ∀ (p f v n : Nat), trp T p t → tct T t → srt T t.slots → v + t.size ≤ 24 → t.size < n → f_X4_countBelow_c10 n T x (nI f) (nI t.root) (nI v) = some (nI (f + cnt T (plt x) t.slots)) := by
  induction t using Tr.ind with
  | nil =>
    intro p f v n _ _ _ _ hn
    obtain ⟨n, rfl⟩ : ∃ n', n = n' + 1 := ⟨n - 1, by omega⟩
    rw [f_X4_countBelow_c10, show nI Tr.nil.root = 0 from rfl, if_pos rfl]; split <;> rfl
  | node l w r hl hr =>
    intro p f v n ht hc hs hv hn
    obtain ⟨h1, h2, h3, h4⟩ := srt_node hs
    obtain ⟨s1, -, sl, sr, tl, tr⟩ := ht
    obtain ⟨-, cl, cr⟩ := hc
    replace sl : T.2.2.2.1 w = nI l.root := sl
    replace sr : T.2.2.2.2.1 w = nI r.root := sr
    rw [Tr.size_node] at hv hn
    have hlc : T.2.2.2.2.2.1 l.root = nI l.size := tct.root cl h0
    obtain ⟨n, rfl⟩ : ∃ n', n = n' + 1 := ⟨n - 1, by omega⟩
    rw [f_X4_countBelow_c10, Tr.root_node, if_neg (nI_24 (by omega)), if_neg (nI_ne0 (by omega) (by omega)), rd25 s1.2, rd25 s1.2, rd25 s1.2, sl, sr, nI_1, rd25 (trp.root_le tl), hlc, show (1 : Int32) = nI 1 from rfl, nI_add, nI_add]
    by_cases hc : T.1 w < x
    · rw [if_neg (Int32.not_le.mpr hc), hr w _ (v + 1) n tr cr h2 (by omega) (by omega), cnt_pos hs (dwn_lt x) (decide_eq_true hc), show f + (1 + l.size) + cnt T (plt x) r.slots = f + (l.size + 1 + cnt T (plt x) r.slots) by omega]
    · rw [if_pos (Int32.not_lt.mp hc), hl w _ (v + 1) n tl cl h1 (by omega) (by omega), cnt_neg hs (dwn_lt x) (fun h => hc (of_decide_eq_true h))]
theorem slotAt_c16 {T : TreeS} (h0 : T.cn 0 = 0) (t : Tr) : ∀ (p i v n : Nat), i < 2 ^ 31 → trp T p t → tct T t → v + t.size ≤ 24 → t.size < n → f_X4_slotAtPosition_c16 n T (nI i) (nI t.root) (nI v) = some (nI (t.sl i)) := by
  induction t using Tr.ind with
  | nil =>
    intro p i v n _ _ _ _ hn
    obtain ⟨n, rfl⟩ : ∃ n', n = n' + 1 := ⟨n - 1, by omega⟩
    rw [f_X4_slotAtPosition_c16, show nI Tr.nil.root = 0 from rfl, if_pos rfl, sl_out (Nat.zero_le _)]; split <;> rfl
  | node l w r hl hr =>
    intro p i v n hi ht hc hv hn
    obtain ⟨s1, -, sl, sr, tl, tr⟩ := ht
    obtain ⟨-, cl, cr⟩ := hc
    replace sl : T.2.2.2.1 w = nI l.root := sl
    replace sr : T.2.2.2.2.1 w = nI r.root := sr
    rw [Tr.size_node] at hv hn
    have hlc : T.2.2.2.2.2.1 l.root = nI l.size := tct.root cl h0
    obtain ⟨n, rfl⟩ : ∃ n', n = n' + 1 := ⟨n - 1, by omega⟩
    rw [f_X4_slotAtPosition_c16, Tr.root_node, if_neg (nI_24 (by omega)), if_neg (nI_ne0 (by omega) (by omega)), rd25 s1.2, rd25 s1.2, sl, sr, nI_1, rd25 (trp.root_le tl), hlc, nI_1, sl_node]
    by_cases h1 : i < l.size
    · rw [if_neg (fun e => by have := (nI_eq hi (by omega)).mp e; omega), if_neg (nI_ge h1 (by omega)), if_pos h1]
      exact hl w i (v + 1) n hi tl cl (by omega) (by omega)
    · rw [if_neg h1]
      by_cases h2 : i = l.size
      · rw [if_pos (by rw [h2]), if_pos h2]
      · rw [if_neg (fun e => by have := (nI_eq hi (by omega)).mp e; omega), if_pos (nI_le (by omega) hi), if_neg h2, nI_sub (by omega), show i - (l.size + 1) = i - l.size - 1 by omega]
        exact hr w _ (v + 1) n (by omega) tr cr (by omega) (by omega)
theorem topSlot_c8 {T : TreeS} {lo hi : Int32} (hlh : lo ≤ hi) (t : Tr) : ∀ (p v n : Nat), trp T p t → srt T t.slots → v + t.size ≤ 24 → t.size < n → f_X4_topSlot_c8 n T lo hi (nI t.root) (nI v) = some (nI (if cnt T (plt lo) t.slots < cnt T (ple hi) t.slots then t.sl (t.tp (cnt T (plt lo) t.slots) (cnt T (ple hi) t.slots - 1)) else 0)) := by
  induction t using Tr.ind with
  | nil =>
    intro p v n _ _ _ hn
    obtain ⟨n, rfl⟩ : ∃ n', n = n' + 1 := ⟨n - 1, by omega⟩
    rw [f_X4_topSlot_c8, show nI Tr.nil.root = 0 from rfl, if_pos rfl, if_neg (show ¬ cnt T (plt lo) Tr.nil.slots < cnt T (ple hi) Tr.nil.slots by rw [cnt_nil, cnt_nil]; exact Nat.lt_irrefl 0)]; split <;> rfl
  | node l w r hl hr =>
    intro p v n ht hs hv hn
    obtain ⟨h1, h2, h3, h4⟩ := srt_node hs
    obtain ⟨s1, -, sl, sr, tl, tr⟩ := ht
    replace sl : T.2.2.2.1 w = nI l.root := sl
    replace sr : T.2.2.2.2.1 w = nI r.root := sr
    rw [Tr.size_node] at hv hn
    obtain ⟨n, rfl⟩ : ∃ n', n = n' + 1 := ⟨n - 1, by omega⟩
    rw [f_X4_topSlot_c8, Tr.root_node, if_neg (nI_24 (by omega)), if_neg (nI_ne0 (by omega) (by omega)), f_X4_topSlot_c43, rd25 s1.2, rd25 s1.2, rd25 s1.2, sl, sr, nI_1]
    have hll := cnt_le (T := T) (p := plt lo) (t := l)
    have hlh2 := cnt_le (T := T) (p := ple hi) (t := l)
    by_cases hc : T.1 w < lo
    · rw [if_pos hc, if_neg (Int32.not_le.mpr hc), hr w (v + 1) n tr h2 (by omega) (by omega), cnt_pos hs (dwn_lt lo) (decide_eq_true hc), cnt_pos hs (dwn_le hi) (decide_eq_true (Int32.le_trans (Int32.le_of_lt hc) hlh))]
      by_cases hab : cnt T (plt lo) r.slots < cnt T (ple hi) r.slots
      · have hb := cnt_le (T := T) (p := ple hi) (t := r)
        obtain ⟨t1, t2⟩ := tp_in (t := r) (cnt T (plt lo) r.slots) (cnt T (ple hi) r.slots - 1) (by omega) (by omega)
        rw [if_pos hab, if_pos (by omega), tp_node, if_neg (by omega), if_pos (by omega), show l.size + 1 + cnt T (plt lo) r.slots - l.size - 1 = cnt T (plt lo) r.slots by omega, show l.size + 1 + cnt T (ple hi) r.slots - 1 - l.size - 1 = cnt T (ple hi) r.slots - 1 by omega, sl_node, if_neg (by omega), if_neg (by omega), show l.size + 1 + r.tp (cnt T (plt lo) r.slots) (cnt T (ple hi) r.slots - 1) - l.size - 1 = r.tp (cnt T (plt lo) r.slots) (cnt T (ple hi) r.slots - 1) by omega]
      · rw [if_neg hab, if_neg (by omega)]
    · rw [if_neg hc, cnt_neg hs (dwn_lt lo) (fun h => hc (of_decide_eq_true h))]
      by_cases hd : hi < T.1 w
      · rw [if_pos hd, if_pos (Int32.not_lt.mp hc), hl w (v + 1) n tl h1 (by omega) (by omega), cnt_neg hs (dwn_le hi) (fun h => Int32.not_le.mpr hd (of_decide_eq_true h))]
        by_cases hab : cnt T (plt lo) l.slots < cnt T (ple hi) l.slots
        · obtain ⟨t1, t2⟩ := tp_in (t := l) (cnt T (plt lo) l.slots) (cnt T (ple hi) l.slots - 1) (by omega) (by omega)
          rw [if_pos hab, if_pos hab, tp_node, if_pos (by omega), sl_node, if_pos (by omega)]
        · rw [if_neg hab, if_neg hab]
      · rw [if_neg hd, cnt_pos hs (dwn_le hi) (decide_eq_true (Int32.not_lt.mp hd)), if_pos (by omega), tp_node, if_neg (by omega), if_neg (by omega), sl_node, if_neg (Nat.lt_irrefl _), if_pos rfl]
