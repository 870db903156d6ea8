/-! ===== mathematics, 9: the form of a tree, by places ===== -/
def depF : Std.Format → Nat → Nat
  | .append l (.tag _ r), i => if i < trSizeF l then depF l i + 1 else if i = trSizeF l then 0 else depF r (i - trSizeF l - 1) + 1
  | _, _ => 0
def Tr.dep (t : Tr) (i : Nat) : Nat := depF t.1 i
theorem dep_node (l : Tr) (s : Nat) (r : Tr) (i : Nat) : (Tr.node l s r).dep i = if i < l.size then l.dep i + 1 else if i = l.size then 0 else r.dep (i - l.size - 1) + 1 := rfl
def pthF : Std.Format → Nat → Nat
  | .append l (.tag _ r), g => if g ≤ trSizeF l then pthF l g + 1 else pthF r (g - trSizeF l - 1) + 1
  | _, _ => 0
def Tr.pth (t : Tr) (i : Nat) : Nat := pthF t.1 i
theorem pth_node (l : Tr) (s : Nat) (r : Tr) (g : Nat) : (Tr.node l s r).pth g = if g ≤ l.size then l.pth g + 1 else r.pth (g - l.size - 1) + 1 := rfl
theorem pth_nil (g : Nat) : Tr.nil.pth g = 0 := rfl
def fiF : Std.Format → Nat → Nat
  | .append l (.tag _ r), i => if i < trSizeF l then fiF l i else if i = trSizeF l then 0 else trSizeF l + 1 + fiF r (i - trSizeF l - 1)
  | _, _ => 0
def Tr.fi (t : Tr) (i : Nat) : Nat := fiF t.1 i
theorem fi_node (l : Tr) (s : Nat) (r : Tr) (i : Nat) : (Tr.node l s r).fi i = if i < l.size then l.fi i else if i = l.size then 0 else l.size + 1 + r.fi (i - l.size - 1) := rfl
def laF : Std.Format → Nat → Nat
  | .append l (.tag _ r), i => if i < trSizeF l then laF l i else if i = trSizeF l then trSizeF l + trSizeF r else trSizeF l + 1 + laF r (i - trSizeF l - 1)
  | _, _ => 0
def Tr.la (t : Tr) (i : Nat) : Nat := laF t.1 i
theorem la_node (l : Tr) (s : Nat) (r : Tr) (i : Nat) : (Tr.node l s r).la i = if i < l.size then l.la i else if i = l.size then l.size + r.size else l.size + 1 + r.la (i - l.size - 1) := rfl
/-- the topmost of the places a to b -/
def tpF : Std.Format → Nat → Nat → Nat
  | .append l (.tag _ r), a, b => if b < trSizeF l then tpF l a b else if trSizeF l < a then trSizeF l + 1 + tpF r (a - trSizeF l - 1) (b - trSizeF l - 1) else trSizeF l
  | _, _, _ => 0
def Tr.tp (t : Tr) (a b : Nat) : Nat := tpF t.1 a b
theorem tp_node (l : Tr) (s : Nat) (r : Tr) (a b : Nat) : (Tr.node l s r).tp a b = if b < l.size then l.tp a b else if l.size < a then l.size + 1 + r.tp (a - l.size - 1) (b - l.size - 1) else l.size := rfl
/-- the reference's rows have the heap order of the tree, whose first place is o -/
def thF (M : ModS) : Nat → Std.Format → Prop
  | o, .append l (.tag _ r) => (∀ j, o ≤ j → j ≤ o + trSizeF l + trSizeF r → j ≠ o + trSizeF l → mab M (o + trSizeF l) j) ∧ thF M o l ∧ thF M (o + trSizeF l + 1) r
  | _, _ => True
def th (M : ModS) (o : Nat) (t : Tr) : Prop := thF M o t.1
theorem th_node {M : ModS} {o : Nat} {l r : Tr} {s : Nat} : th M o (Tr.node l s r) = ((∀ j, o ≤ j → j ≤ o + l.size + r.size → j ≠ o + l.size → mab M (o + l.size) j) ∧ th M o l ∧ th M (o + l.size + 1) r) := rfl
theorem fi_le {t : Tr} : ∀ i, i < t.size → t.fi i ≤ i := by
  induction t using Tr.ind with
  | nil => intro i h; rw [Tr.size_nil] at h; omega
  | node l s r hl hr =>
    intro i h
    rw [Tr.size_node] at h
    rw [fi_node]
    by_cases h1 : i < l.size
    · rw [if_pos h1]; exact hl i h1
    · rw [if_neg h1]
      by_cases h2 : i = l.size
      · rw [if_pos h2]; omega
      · rw [if_neg h2]; have := hr (i - l.size - 1) (by omega); omega
theorem la_ge {t : Tr} : ∀ i, i < t.size → i ≤ t.la i ∧ t.la i < t.size := by
  induction t using Tr.ind with
  | nil => intro i h; rw [Tr.size_nil] at h; omega
  | node l s r hl hr =>
    intro i h
    rw [Tr.size_node] at h ⊢
    rw [la_node]
    by_cases h1 : i < l.size
    · rw [if_pos h1]; have := hl i h1; omega
    · rw [if_neg h1]
      by_cases h2 : i = l.size
      · rw [if_pos h2]; omega
      · rw [if_neg h2]; have := hr (i - l.size - 1) (by omega); omega
theorem tp_in {t : Tr} : ∀ a b, a ≤ b → b < t.size → a ≤ t.tp a b ∧ t.tp a b ≤ b := by
  induction t using Tr.ind with
  | nil => intro a b _ h; rw [Tr.size_nil] at h; omega
  | node l s r hl hr =>
    intro a b hab h
    rw [Tr.size_node] at h
    rw [tp_node]
    by_cases h1 : b < l.size
    · rw [if_pos h1]; exact hl a b hab h1
    · rw [if_neg h1]
      by_cases h2 : l.size < a
      · rw [if_pos h2]; have := hr (a - l.size - 1) (b - l.size - 1) (by omega) (by omega); omega
      · rw [if_neg h2]; omega
theorem tp_th {M : ModS} {t : Tr} : ∀ o a b, th M o t → a ≤ b → b < t.size → ∀ k, o + a ≤ k → k ≤ o + b → k ≠ o + t.tp a b → mab M (o + t.tp a b) k := by
  induction t using Tr.ind with
  | nil => intro o a b _ _ h; rw [Tr.size_nil] at h; omega
  | node l s r hl hr =>
    intro o a b ht hab h k k1 k2 k3
    rw [Tr.size_node] at h
    rw [th_node] at ht
    rw [tp_node] at k3 ⊢
    by_cases h1 : b < l.size
    · rw [if_pos h1] at k3 ⊢; exact hl o a b ht.2.1 hab h1 k k1 k2 k3
    · rw [if_neg h1] at k3 ⊢
      by_cases h2 : l.size < a
      · rw [if_pos h2] at k3 ⊢
        have := hr (o + l.size + 1) (a - l.size - 1) (b - l.size - 1) ht.2.2 (by omega) (by omega) k (by omega) (by omega) (by omega)
        rw [show o + l.size + 1 + r.tp (a - l.size - 1) (b - l.size - 1) = o + (l.size + 1 + r.tp (a - l.size - 1) (b - l.size - 1)) by omega] at this
        exact this
      · rw [if_neg h2] at k3 ⊢; exact ht.1 k (by omega) (by omega) k3
theorem topR_ok {M : ModS} {t : Tr} {a b : Nat} (ht : th M 0 t) (h24 : t.size ≤ 24) (hab : a ≤ b) (hb : b < t.size) : f_X7_top M (nI a) (nI b) = some (nI (t.tp a b)) := by
  obtain ⟨h1, h2⟩ := tp_in a b hab hb
  refine top_ok (by omega) h1 h2 (fun k k1 k2 k3 => ?_)
  have := tp_th 0 a b ht hab hb k (by omega) (by omega) (by rw [Nat.zero_add]; exact k3)
  rw [Nat.zero_add] at this
  exact this
/-- first and last of the reference, by the tree -/
theorem fl_th {M : ModS} {N : Nat} (hN : mNs M N) (h24 : N ≤ 24) {t : Tr} : ∀ o, th M o t → o + t.size ≤ N → (o = 0 ∨ ∀ j, o ≤ j → j < o + t.size → mab M (o - 1) j) → (o + t.size = N ∨ ∀ j, o ≤ j → j < o + t.size → mab M (o + t.size) j) → ∀ i, i < t.size → f_X7_first M (nI (o + i)) = some (nI (o + t.fi i)) ∧ f_X7_last M (nI (o + i)) = some (nI (o + t.la i)) := by
  induction t using Tr.ind with
  | nil => intro o _ _ _ _ i h; rw [Tr.size_nil] at h; omega
  | node l s r hl hr =>
    intro o ht hoN hlo hhi i hi
    rw [Tr.size_node] at hoN hlo hhi hi
    rw [th_node] at ht
    rw [fi_node, la_node]
    by_cases h1 : i < l.size
    · rw [if_pos h1, if_pos h1]
      refine hl o ht.2.1 (by omega) ?_ (Or.inr fun j j1 j2 => ht.1 j j1 (by omega) (by omega)) i h1
      rcases hlo with e | e
      · exact Or.inl e
      · exact Or.inr fun j j1 j2 => e j j1 (by omega)
    · rw [if_neg h1, if_neg h1]
      by_cases h2 : i = l.size
      · rw [if_pos h2, if_pos h2, h2]
        refine ⟨first_ok (by omega) (by omega) (fun j j1 j2 => ht.1 j j1 (by omega) (by omega)) ?_, last_ok hN (by omega) (by omega) (by omega) (fun j j1 j2 => ht.1 j (by omega) (by omega) (by omega)) ?_⟩
        · rcases hlo with e | e
          · exact Or.inl (by omega)
          · by_cases e0 : o = 0
            · exact Or.inl (by omega)
            · refine Or.inr fun h => mab_asymm h ?_
              rw [Nat.add_zero]
              exact e (o + l.size) (by omega) (by omega)
        · rcases hhi with e | e
          · exact Or.inl (by omega)
          · refine Or.inr fun h => mab_asymm h ?_
            rw [show o + (l.size + r.size) + 1 = o + (l.size + 1 + r.size) by omega]
            exact e (o + l.size) (by omega) (by omega)
      · rw [if_neg h2, if_neg h2]
        have := hr (o + l.size + 1) ht.2.2 (by omega) (Or.inr fun j j1 j2 => by rw [Nat.add_sub_cancel]; exact ht.1 j (by omega) (by omega) (by omega)) (by
          rcases hhi with e | e
          · exact Or.inl (by omega)
          · refine Or.inr fun j j1 j2 => ?_
            rw [show o + l.size + 1 + r.size = o + (l.size + 1 + r.size) by omega]
            exact e j (by omega) (by omega)) (i - l.size - 1) (by omega)
        rw [show o + l.size + 1 + (i - l.size - 1) = o + i by omega, show o + l.size + 1 + r.fi (i - l.size - 1) = o + (l.size + 1 + r.fi (i - l.size - 1)) by omega, show o + l.size + 1 + r.la (i - l.size - 1) = o + (l.size + 1 + r.la (i - l.size - 1)) by omega] at this
        exact this
theorem firstR_ok {M : ModS} {t : Tr} (hN : mNs M t.size) (h24 : t.size ≤ 24) (ht : th M 0 t) {i : Nat} (hi : i < t.size) : f_X7_first M (nI i) = some (nI (t.fi i)) ∧ f_X7_last M (nI i) = some (nI (t.la i)) := by
  have := fl_th hN h24 0 ht (by omega) (Or.inl rfl) (Or.inl (by omega)) i hi
  rw [Nat.zero_add, Nat.zero_add, Nat.zero_add] at this
  exact this
theorem mFL_ok {M : ModS} {t : Tr} (hN : mNs M t.size) (h24 : t.size ≤ 24) (ht : th M 0 t) : mFL M t.size t.fi t.la := fun i hi => by
  obtain ⟨h1, h2⟩ := firstR_ok hN h24 ht hi
  have h3 := fi_le i hi
  have h4 := la_ge i hi
  exact ⟨⟨h1, by omega⟩, h2, by omega⟩
/-- F and L are first and last of the tree t at o -/
def flt (F L : Nat → Nat) (o : Nat) (t : Tr) : Prop := ∀ i, i < t.size → F (o + i) = o + t.fi i ∧ L (o + i) = o + t.la i
theorem flt_node {F L : Nat → Nat} {o : Nat} {l r : Tr} {s : Nat} (h : flt F L o (Tr.node l s r)) : flt F L o l ∧ (F (o + l.size) = o ∧ L (o + l.size) = o + l.size + r.size) ∧ flt F L (o + l.size + 1) r := by
  refine ⟨fun i hi => ?_, ?_, fun i hi => ?_⟩
  · have := h i (by rw [Tr.size_node]; omega)
    rw [fi_node, la_node, if_pos hi, if_pos hi] at this
    exact this
  · have := h l.size (by rw [Tr.size_node]; omega)
    rw [fi_node, la_node, if_neg (Nat.lt_irrefl _), if_pos rfl, if_neg (Nat.lt_irrefl _), if_pos rfl, Nat.add_zero, ← Nat.add_assoc] at this
    exact this
  · have := h (l.size + 1 + i) (by rw [Tr.size_node]; omega)
    rw [fi_node, la_node, if_neg (by omega), if_neg (by omega), if_neg (by omega), if_neg (by omega), show l.size + 1 + i - l.size - 1 = i by omega] at this
    rw [show o + l.size + 1 + i = o + (l.size + 1 + i) by omega]
    omega
theorem dep_out {F L : Nat → Nat} {x : Nat} (t : Tr) (o : Nat) (h : flt F L o t) (hx : x < o ∨ o + t.size ≤ x) : sumR (dg F L x) o t.size = 0 := by
  refine sumR_zero _ _ (fun k k1 k2 => ?_)
  obtain ⟨i, rfl⟩ : ∃ i, k = o + i := ⟨k - o, by omega⟩
  obtain ⟨e1, e2⟩ := h i (by omega)
  have h4 := la_ge (t := t) i (by omega)
  rw [dg, e1, e2]
  by_cases h1 : o + i = x
  · rw [if_pos h1]
  · rw [if_neg h1]
    by_cases h2 : x < o + t.fi i
    · rw [if_pos h2]
    · rw [if_neg h2, if_pos (by omega)]
theorem dep_in {F L : Nat → Nat} (t : Tr) : ∀ (o i : Nat), flt F L o t → i < t.size → sumR (dg F L (o + i)) o t.size = t.dep i := by
  induction t using Tr.ind with
  | nil => intro o i _ h; rw [Tr.size_nil] at h; omega
  | node l s r hl hr =>
    intro o i h hi
    obtain ⟨fl, ⟨r1, r2⟩, fr⟩ := flt_node h
    rw [Tr.size_node] at hi ⊢
    rw [sumR_add, sumR_add, dep_node, sumR, sumR, Nat.add_zero, dg, r1, r2, show o + (l.size + 1) = o + l.size + 1 by omega]
    by_cases h1 : i < l.size
    · rw [if_pos h1, hl o i fl h1, dep_out r _ fr (by omega), if_neg (by omega), if_neg (by omega), if_neg (by omega)]
    · rw [if_neg h1, dep_out l o fl (by omega)]
      by_cases h2 : i = l.size
      · rw [if_pos h2, dep_out r _ fr (by omega), if_pos (by omega)]
      · rw [if_neg h2, if_neg (by omega), if_neg (by omega), if_neg (by omega)]
        have := hr (o + l.size + 1) (i - l.size - 1) fr (by omega)
        rw [show o + l.size + 1 + (i - l.size - 1) = o + i by omega] at this
        rw [this]; omega
theorem pth_out {F L : Nat → Nat} {x : Nat} (t : Tr) (o : Nat) (h : flt F L o t) (hx : x < o ∨ o + t.size < x) : sumR (pg F L x) o t.size = 0 := by
  refine sumR_zero _ _ (fun k k1 k2 => ?_)
  obtain ⟨i, rfl⟩ : ∃ i, k = o + i := ⟨k - o, by omega⟩
  obtain ⟨e1, e2⟩ := h i (by omega)
  have h4 := la_ge (t := t) i (by omega)
  rw [pg, e1, e2]
  by_cases h1 : x ≤ o + i
  · rw [if_pos h1, if_pos (by omega)]
  · rw [if_neg h1, if_pos (by omega)]
theorem pth_in {F L : Nat → Nat} (t : Tr) : ∀ (o i : Nat), flt F L o t → i ≤ t.size → sumR (pg F L (o + i)) o t.size = t.pth i := by
  induction t using Tr.ind with
  | nil => intro o i _ h; rfl
  | node l s r hl hr =>
    intro o i h hi
    obtain ⟨fl, ⟨r1, r2⟩, fr⟩ := flt_node h
    rw [Tr.size_node] at hi ⊢
    rw [sumR_add, sumR_add, pth_node, sumR, sumR, Nat.add_zero, pg, r1, r2, show o + (l.size + 1) = o + l.size + 1 by omega]
    by_cases h1 : i ≤ l.size
    · rw [if_pos h1, hl o i fl h1, pth_out r _ fr (by omega), if_pos (by omega), if_neg (by omega)]
    · rw [if_neg h1, pth_out l o fl (by omega), if_neg (by omega), if_neg (by omega)]
      have := hr (o + l.size + 1) (i - l.size - 1) fr (by omega)
      rw [show o + l.size + 1 + (i - l.size - 1) = o + i by omega] at this
      rw [this]; omega
theorem flt_self (t : Tr) : flt t.fi t.la 0 t := fun i _ => by rw [Nat.zero_add, Nat.zero_add, Nat.zero_add]; exact ⟨rfl, rfl⟩
theorem depthR_ok {M : ModS} {t : Tr} (hN : mNs M t.size) (h24 : t.size ≤ 24) (ht : th M 0 t) {i : Nat} (hi : i < t.size) : f_X7_depth M (nI i) = some (nI (t.dep i)) := by
  rw [depth_ok hN h24 (by omega) (mFL_ok hN h24 ht)]
  have := dep_in t 0 i (flt_self t) hi
  rw [Nat.zero_add] at this
  rw [this]
theorem pathR_ok {M : ModS} {t : Tr} {x : Int32} (hN : mNs M t.size) (h24 : t.size ≤ 24) (ht : th M 0 t) {i : Nat} (hi : i ≤ t.size) (hb : f_X7_below M x = some (nI i)) : f_X7_path M x = some (nI (t.pth i)) := by
  rw [path_ok hN h24 (by omega) (mFL_ok hN h24 ht) hb]
  have := pth_in t 0 i (flt_self t) hi
  rw [Nat.zero_add] at this
  rw [this]
/-! zippers -/
theorem kL_true {p : Nat} {c : Tr} {k : List Fr} : kL ((true, p, c) :: k) = kL k := rfl
theorem dep_plug : ∀ (k : List Fr) (u : Tr) (i : Nat), i < u.size → (plug u k).dep ((kL k).length + i) = u.dep i + k.length
  | [], u, i, _ => by rw [plug, kL, List.length_nil, Nat.zero_add, List.length_nil] <;> rfl
  | (true, p, c) :: k, u, i, h => by
    rw [plug, kL, dep_plug k (Tr.node u p c) i (by rw [Tr.size_node]; omega), dep_node, if_pos h, List.length_cons]; omega
  | (false, p, c) :: k, u, i, h => by
    rw [plug, kL, List.length_append, List.length_append, Tr.len, List.length_singleton, show (kL k).length + (c.size + 1) + i = (kL k).length + (c.size + 1 + i) by omega, dep_plug k (Tr.node c p u) (c.size + 1 + i) (by rw [Tr.size_node]; omega), dep_node, if_neg (by omega), if_neg (by omega), show c.size + 1 + i - c.size - 1 = i by omega, List.length_cons]; omega
theorem pth_plug : ∀ (k : List Fr) (u : Tr) (i : Nat), i ≤ u.size → (plug u k).pth ((kL k).length + i) = u.pth i + k.length
  | [], u, i, _ => by rw [plug, kL, List.length_nil, Nat.zero_add, List.length_nil] <;> rfl
  | (true, p, c) :: k, u, i, h => by
    rw [plug, kL, pth_plug k (Tr.node u p c) i (by rw [Tr.size_node]; omega), pth_node, if_pos h, List.length_cons]; omega
  | (false, p, c) :: k, u, i, h => by
    rw [plug, kL, List.length_append, List.length_append, Tr.len, List.length_singleton, show (kL k).length + (c.size + 1) + i = (kL k).length + (c.size + 1 + i) by omega, pth_plug k (Tr.node c p u) (c.size + 1 + i) (by rw [Tr.size_node]; omega), pth_node, if_neg (by omega), show c.size + 1 + i - c.size - 1 = i by omega, List.length_cons]; omega
theorem dep_hole {k : List Fr} {l r : Tr} {s : Nat} : (plug (Tr.node l s r) k).dep ((kL k).length + l.size) = k.length := by
  rw [dep_plug k _ _ (by rw [Tr.size_node]; omega), dep_node, if_neg (Nat.lt_irrefl _), if_pos rfl, Nat.zero_add]
theorem pth_hole {k : List Fr} : (plug Tr.nil k).pth (kL k).length = k.length := by
  have := pth_plug k Tr.nil 0 (Nat.zero_le _)
  rw [Nat.add_zero, pth_nil, Nat.zero_add] at this
  exact this
/-- every place of a tree is a hole's -/
theorem zip_ex {t : Tr} : ∀ (i : Nat), i < t.size → ∃ (k : List Fr) (l r : Tr) (s : Nat), plug (Tr.node l s r) k = t ∧ (kL k).length + l.size = i := by
  have hap : ∀ (k k2 : List Fr) (u : Tr), plug u (k ++ k2) = plug (plug u k) k2 := by
    intro k
    induction k with
    | nil => intro k2 u; rfl
    | cons f k ih => intro k2 u; obtain ⟨b, p, c⟩ := f; cases b <;> exact ih k2 _
  have hkl : ∀ (k k2 : List Fr), (kL (k ++ k2)).length = (kL k).length + (kL k2).length := by
    intro k
    induction k with
    | nil => intro k2; simp [kL]
    | cons f k ih => intro k2; obtain ⟨b, p, c⟩ := f; cases b <;> simp only [List.cons_append, kL, List.length_append, ih] <;> omega
  induction t using Tr.ind with
  | nil => intro i h; rw [Tr.size_nil] at h; omega
  | node l s r hl hr =>
    intro i h
    rw [Tr.size_node] at h
    by_cases h1 : i < l.size
    · obtain ⟨k, a, b, x, e1, e2⟩ := hl i h1
      refine ⟨k ++ [(true, s, r)], a, b, x, ?_, ?_⟩
      · rw [hap, e1]; rfl
      · rw [hkl]; simp only [kL, List.length_nil]; omega
    · by_cases h2 : i = l.size
      · exact ⟨[], l, r, s, rfl, by simp [kL, h2]⟩
      · obtain ⟨k, a, b, x, e1, e2⟩ := hr (i - l.size - 1) (by omega)
        refine ⟨k ++ [(false, s, l)], a, b, x, ?_, ?_⟩
        · rw [hap, e1]; rfl
        · rw [hkl]; simp only [kL, List.nil_append, List.length_append, Tr.len, List.length_singleton]; omega
