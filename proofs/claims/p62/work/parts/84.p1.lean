/-! ===== p62, mathematics 1: the form of a tree, by places: children, parents, depths ===== -/
theorem nodeC {t : Tr} (h : 0 < t.size) : ∃ l s r, t = Tr.node l s r := by
  cases t using Tr.cas with
  | nil => exact absurd h (by rw [Tr.size_nil]; omega)
  | node l s r => exact ⟨l, s, r, rfl⟩
/-- the topmost place of a tree -/
theorem root_pl {t : Tr} (h : 0 < t.size) : t.tp 0 (t.size - 1) < t.size ∧ t.fi (t.tp 0 (t.size - 1)) = 0 ∧ t.la (t.tp 0 (t.size - 1)) = t.size - 1 ∧ t.dep (t.tp 0 (t.size - 1)) = 0 ∧ t.sl (t.tp 0 (t.size - 1)) = t.root := by
  obtain ⟨l, s, r, rfl⟩ := nodeC h
  rw [Tr.size_node]
  have e : (Tr.node l s r).tp 0 (l.size + 1 + r.size - 1) = l.size := by rw [tp_node, if_neg (by omega), if_neg (by omega)]
  rw [e, fi_node, if_neg (Nat.lt_irrefl _), if_pos rfl, la_node, if_neg (Nat.lt_irrefl _), if_pos rfl, dep_node, if_neg (Nat.lt_irrefl _), if_pos rfl, sl_node, if_neg (Nat.lt_irrefl _), if_pos rfl]
  exact ⟨by omega, rfl, by omega, rfl, rfl⟩
theorem tp_self {t : Tr} : ∀ i, i < t.size → t.tp (t.fi i) (t.la i) = i := by
  induction t using Tr.ind with
  | nil => intro i h; rw [Tr.size_nil] at h; omega
  | node l s r hl hr =>
    intro i h
    rw [Tr.size_node] at h
    rw [fi_node, la_node]
    by_cases h1 : i < l.size
    · have := la_ge (t := l) i h1
      rw [if_pos h1, if_pos h1, tp_node, if_pos this.2]
      exact hl i h1
    · rw [if_neg h1, if_neg h1]
      by_cases h2 : i = l.size
      · rw [if_pos h2, if_pos h2, tp_node, if_neg (by omega), if_neg (by omega), h2]
      · have := la_ge (t := r) (i - l.size - 1) (by omega)
        rw [if_neg h2, if_neg h2, tp_node, if_neg (by omega), if_pos (by omega), show l.size + 1 + r.fi (i - l.size - 1) - l.size - 1 = r.fi (i - l.size - 1) by omega, show l.size + 1 + r.la (i - l.size - 1) - l.size - 1 = r.la (i - l.size - 1) by omega, hr _ (by omega)]
        omega
/-- a left child -/
theorem lp_st {t : Tr} : ∀ j, j < t.size → t.fi j < j → t.lp j < j ∧ t.fi (t.lp j) = t.fi j ∧ t.la (t.lp j) = j - 1 ∧ t.dep (t.lp j) = t.dep j + 1 := by
  induction t using Tr.ind with
  | nil => intro j h; rw [Tr.size_nil] at h; omega
  | node l s r hl hr =>
    intro j h hf
    rw [Tr.size_node] at h
    unfold Tr.lp
    rw [if_pos hf]
    rw [fi_node] at hf ⊢
    by_cases h1 : j < l.size
    · rw [if_pos h1] at hf ⊢
      obtain ⟨g1, g2, g3, g4⟩ := hl j h1 hf
      have e : l.lp j = l.tp (l.fi j) (j - 1) := by unfold Tr.lp; rw [if_pos hf]
      rw [e] at g1 g2 g3 g4
      rw [tp_node, if_pos (by omega), fi_node, if_pos (by omega), la_node, if_pos (by omega), dep_node, if_pos (by omega), dep_node, if_pos h1]
      exact ⟨g1, g2, g3, by rw [g4]⟩
    · rw [if_neg h1] at hf ⊢
      by_cases h2 : j = l.size
      · rw [if_pos h2] at hf ⊢
        obtain ⟨g1, g2, g3, g4, -⟩ := root_pl (t := l) (by omega)
        rw [h2, tp_node, if_pos (by omega), fi_node, if_pos g1, la_node, if_pos g1, dep_node, if_pos g1, dep_node, if_neg (Nat.lt_irrefl _), if_pos rfl]
        exact ⟨g1, g2, g3, by rw [g4]⟩
      · rw [if_neg h2] at hf ⊢
        have hf9 : r.fi (j - l.size - 1) < j - l.size - 1 := by omega
        obtain ⟨g1, g2, g3, g4⟩ := hr (j - l.size - 1) (by omega) hf9
        have e : r.lp (j - l.size - 1) = r.tp (r.fi (j - l.size - 1)) (j - l.size - 1 - 1) := by unfold Tr.lp; rw [if_pos hf9]
        rw [e] at g1 g2 g3 g4
        have hin := tp_in (t := r) (r.fi (j - l.size - 1)) (j - l.size - 1 - 1) (by omega) (by omega)
        rw [tp_node, if_neg (by omega), if_pos (by omega), show l.size + 1 + r.fi (j - l.size - 1) - l.size - 1 = r.fi (j - l.size - 1) by omega, show j - 1 - l.size - 1 = j - l.size - 1 - 1 by omega, fi_node, if_neg (by omega), if_neg (by omega), la_node, if_neg (by omega), if_neg (by omega), dep_node, if_neg (by omega), if_neg (by omega), dep_node, if_neg h1, if_neg h2]
        generalize hq : r.tp (r.fi (j - l.size - 1)) (j - l.size - 1 - 1) = q at g1 g2 g3 g4 hin ⊢
        rw [show l.size + 1 + q - l.size - 1 = q by omega, g2, g3, g4]
        exact ⟨by omega, rfl, by omega, rfl⟩
/-- a right child -/
theorem rp_st {t : Tr} : ∀ j, j < t.size → j < t.la j → j < t.rp j ∧ t.rp j < t.size ∧ t.fi (t.rp j) = j + 1 ∧ t.la (t.rp j) = t.la j ∧ t.dep (t.rp j) = t.dep j + 1 := by
  induction t using Tr.ind with
  | nil => intro j h; rw [Tr.size_nil] at h; omega
  | node l s r hl hr =>
    intro j h hf
    rw [Tr.size_node] at h ⊢
    unfold Tr.rp
    rw [if_pos hf]
    rw [la_node] at hf ⊢
    by_cases h1 : j < l.size
    · rw [if_pos h1] at hf ⊢
      have hla := la_ge (t := l) j h1
      obtain ⟨g1, g0, g2, g3, g4⟩ := hl j h1 hf
      have e : l.rp j = l.tp (j + 1) (l.la j) := by unfold Tr.rp; rw [if_pos hf]
      rw [e] at g0 g1 g2 g3 g4
      rw [tp_node, if_pos hla.2, fi_node, if_pos g0, la_node, if_pos g0, dep_node, if_pos g0, dep_node, if_pos h1]
      exact ⟨g1, by omega, g2, g3, by rw [g4]⟩
    · rw [if_neg h1] at hf ⊢
      by_cases h2 : j = l.size
      · rw [if_pos h2] at hf ⊢
        obtain ⟨g1, g2, g3, g4, -⟩ := root_pl (t := r) (by omega)
        rw [h2, tp_node, if_neg (by omega), if_pos (by omega), show l.size + 1 - l.size - 1 = 0 by omega, show l.size + r.size - l.size - 1 = r.size - 1 by omega, fi_node, if_neg (by omega), if_neg (by omega), la_node, if_neg (by omega), if_neg (by omega), dep_node, if_neg (by omega), if_neg (by omega), dep_node, if_neg (Nat.lt_irrefl _), if_pos rfl]
        generalize hq : r.tp 0 (r.size - 1) = q at g1 g2 g3 g4 ⊢
        rw [show l.size + 1 + q - l.size - 1 = q by omega, g2, g3, g4]
        exact ⟨by omega, by omega, by omega, by omega, rfl⟩
      · rw [if_neg h2] at hf ⊢
        have hla := la_ge (t := r) (j - l.size - 1) (by omega)
        have hf9 : j - l.size - 1 < r.la (j - l.size - 1) := by omega
        obtain ⟨g1, g0, g2, g3, g4⟩ := hr (j - l.size - 1) (by omega) hf9
        have e : r.rp (j - l.size - 1) = r.tp (j - l.size - 1 + 1) (r.la (j - l.size - 1)) := by unfold Tr.rp; rw [if_pos hf9]
        rw [e] at g0 g1 g2 g3 g4
        rw [tp_node, if_neg (by omega), if_pos (by omega), show j + 1 - l.size - 1 = j - l.size - 1 + 1 by omega, show l.size + 1 + r.la (j - l.size - 1) - l.size - 1 = r.la (j - l.size - 1) by omega]
        generalize hq : r.tp (j - l.size - 1 + 1) (r.la (j - l.size - 1)) = q at g0 g1 g2 g3 g4 ⊢
        rw [fi_node, if_neg (by omega), if_neg (by omega), la_node, if_neg (by omega), if_neg (by omega), dep_node, if_neg (by omega), if_neg (by omega), dep_node, if_neg h1, if_neg h2, show l.size + 1 + q - l.size - 1 = q by omega, g2, g3, g4]
        exact ⟨by omega, by omega, by omega, rfl, rfl⟩
/-- who is whose child -/
def Tr.ch (t : Tr) (p i : Nat) : Prop := (t.fi p < p ∧ t.lp p = i) ∨ (p < t.la p ∧ t.rp p = i)
theorem ch_st {t : Tr} {p i : Nat} (hp : p < t.size) (h : t.ch p i) : i < t.size ∧ t.dep i = t.dep p + 1 ∧ ((i < p ∧ t.fi i = t.fi p ∧ p = t.la i + 1) ∨ (p < i ∧ t.la i = t.la p ∧ t.fi i = p + 1)) := by
  rcases h with ⟨h1, rfl⟩ | ⟨h1, rfl⟩
  · obtain ⟨g1, g2, g3, g4⟩ := lp_st p hp h1
    exact ⟨by omega, g4, Or.inl ⟨g1, g2, by omega⟩⟩
  · obtain ⟨g1, g0, g2, g3, g4⟩ := rp_st p hp h1
    exact ⟨g0, g4, Or.inr ⟨g1, g3, g2⟩⟩
/-- every place is the topmost one, or a child -/
theorem ch_ex {t : Tr} : ∀ i, i < t.size → (i = t.tp 0 (t.size - 1) ∧ t.dep i = 0) ∨ ∃ p, p < t.size ∧ t.ch p i := by
  induction t using Tr.ind with
  | nil => intro i h; rw [Tr.size_nil] at h; omega
  | node l s r hl hr =>
    intro i h
    have e0 : (Tr.node l s r).tp 0 ((Tr.node l s r).size - 1) = l.size := by rw [Tr.size_node, tp_node, if_neg (by omega), if_neg (by omega)]
    rw [e0]
    rw [Tr.size_node] at h ⊢
    by_cases h1 : i < l.size
    · right
      rcases hl i h1 with ⟨g1, g2⟩ | ⟨p, g1, g2⟩
      · refine ⟨l.size, by omega, Or.inl ?_⟩
        have ef : (Tr.node l s r).fi l.size = 0 := by rw [fi_node, if_neg (Nat.lt_irrefl _), if_pos rfl]
        refine ⟨by rw [ef]; omega, ?_⟩
        unfold Tr.lp
        rw [ef, if_pos (by omega), tp_node, if_pos (by omega)]
        exact g1.symm
      · refine ⟨p, by omega, ?_⟩
        have ef : (Tr.node l s r).fi p = l.fi p := by rw [fi_node, if_pos g1]
        have el : (Tr.node l s r).la p = l.la p := by rw [la_node, if_pos g1]
        have hla := la_ge (t := l) p g1
        rcases g2 with ⟨g2, g3⟩ | ⟨g2, g3⟩
        · refine Or.inl ⟨by rw [ef]; exact g2, ?_⟩
          unfold Tr.lp at g3 ⊢
          rw [if_pos g2] at g3
          rw [ef, if_pos g2, tp_node, if_pos (by omega)]
          exact g3
        · refine Or.inr ⟨by rw [el]; exact g2, ?_⟩
          unfold Tr.rp at g3 ⊢
          rw [if_pos g2] at g3
          rw [el, if_pos g2, tp_node, if_pos hla.2]
          exact g3
    · by_cases h2 : i = l.size
      · left
        refine ⟨h2, ?_⟩
        rw [dep_node, if_neg h1, if_pos h2]
      · right
        rcases hr (i - l.size - 1) (by omega) with ⟨g1, g2⟩ | ⟨p, g1, g2⟩
        · refine ⟨l.size, by omega, Or.inr ?_⟩
          have el : (Tr.node l s r).la l.size = l.size + r.size := by rw [la_node, if_neg (Nat.lt_irrefl _), if_pos rfl]
          refine ⟨by rw [el]; omega, ?_⟩
          unfold Tr.rp
          rw [el, if_pos (by omega), tp_node, if_neg (by omega), if_pos (by omega), show l.size + 1 - l.size - 1 = 0 by omega, show l.size + r.size - l.size - 1 = r.size - 1 by omega, ← g1]
          omega
        · refine ⟨l.size + 1 + p, by omega, ?_⟩
          have ef : (Tr.node l s r).fi (l.size + 1 + p) = l.size + 1 + r.fi p := by rw [fi_node, if_neg (by omega), if_neg (by omega), show l.size + 1 + p - l.size - 1 = p by omega]
          have el : (Tr.node l s r).la (l.size + 1 + p) = l.size + 1 + r.la p := by rw [la_node, if_neg (by omega), if_neg (by omega), show l.size + 1 + p - l.size - 1 = p by omega]
          have hla := la_ge (t := r) p g1
          rcases g2 with ⟨g2, g3⟩ | ⟨g2, g3⟩
          · refine Or.inl ⟨by rw [ef]; omega, ?_⟩
            unfold Tr.lp at g3 ⊢
            rw [if_pos g2] at g3
            rw [ef, if_pos (by omega), tp_node, if_neg (by omega), if_pos (by omega), show l.size + 1 + r.fi p - l.size - 1 = r.fi p by omega, show l.size + 1 + p - 1 - l.size - 1 = p - 1 by omega, g3]
            omega
          · refine Or.inr ⟨by rw [el]; omega, ?_⟩
            unfold Tr.rp at g3 ⊢
            rw [if_pos g2] at g3
            rw [el, if_pos (by omega), tp_node, if_neg (by omega), if_pos (by omega), show l.size + 1 + p + 1 - l.size - 1 = p + 1 by omega, show l.size + 1 + r.la p - l.size - 1 = r.la p by omega, g3]
            omega
/-- what lies below a place -/
abbrev Tr.sub (t : Tr) (c i : Nat) : Prop := t.fi c ≤ i ∧ i ≤ t.la c
theorem sub_self {t : Tr} {i : Nat} (h : i < t.size) : t.sub i i := ⟨fi_le i h, (la_ge i h).1⟩
/-- what lies below a place that lies below another, lies below that -/
theorem sub_in {t : Tr} : ∀ c i, c < t.size → i < t.size → t.sub c i → t.fi c ≤ t.fi i ∧ t.la i ≤ t.la c := by
  induction t using Tr.ind with
  | nil => intro c i h; rw [Tr.size_nil] at h; omega
  | node l s r hl hr =>
    intro c i hc hi hs
    rw [Tr.size_node] at hc hi
    unfold Tr.sub at hs
    rw [fi_node (i := c), la_node (i := c)] at hs ⊢
    rw [fi_node, la_node]
    by_cases h1 : c < l.size
    · have hla := la_ge (t := l) c h1
      rw [if_pos h1, if_pos h1] at hs ⊢
      rw [if_pos (by omega), if_pos (by omega)]
      exact hl c i h1 (by omega) hs
    · rw [if_neg h1, if_neg h1] at hs ⊢
      by_cases h2 : c = l.size
      · rw [if_pos h2, if_pos h2] at hs ⊢
        refine ⟨Nat.zero_le _, ?_⟩
        by_cases h3 : i < l.size
        · have := la_ge (t := l) i h3
          rw [if_pos h3]; omega
        · rw [if_neg h3]
          by_cases h4 : i = l.size
          · rw [if_pos h4]; exact Nat.le_refl _
          · have := la_ge (t := r) (i - l.size - 1) (by omega)
            rw [if_neg h4]; omega
      · rw [if_neg h2, if_neg h2] at hs ⊢
        have hla := la_ge (t := r) (c - l.size - 1) (by omega)
        rw [if_neg (by omega), if_neg (by omega), if_neg (by omega), if_neg (by omega)]
        have := hr (c - l.size - 1) (i - l.size - 1) (by omega) (by omega) ⟨by omega, by omega⟩
        omega
/-- of two places above a third, one is above the other -/
theorem sub_cmp {t : Tr} : ∀ c d i, c < t.size → d < t.size → i < t.size → t.sub c i → t.sub d i → t.sub c d ∨ t.sub d c := by
  induction t using Tr.ind with
  | nil => intro c d i h; rw [Tr.size_nil] at h; omega
  | node l s r hl hr =>
    intro c d i hc hd hi hs hs2
    rw [Tr.size_node] at hc hd hi
    by_cases c2 : c = l.size
    · left
      unfold Tr.sub
      rw [fi_node, la_node, if_neg (by omega), if_pos c2, if_neg (by omega), if_pos c2]
      omega
    · by_cases d2 : d = l.size
      · right
        unfold Tr.sub
        rw [fi_node, la_node, if_neg (by omega), if_pos d2, if_neg (by omega), if_pos d2]
        omega
      · unfold Tr.sub at hs hs2 ⊢
        rw [fi_node (i := c), la_node (i := c)] at hs ⊢
        rw [fi_node (i := d), la_node (i := d)] at hs2 ⊢
        by_cases c1 : c < l.size
        · have hla := la_ge (t := l) c c1
          rw [if_pos c1, if_pos c1] at hs ⊢
          by_cases d1 : d < l.size
          · rw [if_pos d1, if_pos d1] at hs2 ⊢
            exact hl c d i c1 d1 (by omega) hs hs2
          · rw [if_neg d1, if_neg d1, if_neg d2, if_neg d2] at hs2
            omega
        · rw [if_neg c1, if_neg c1, if_neg c2, if_neg c2] at hs ⊢
          have hla := la_ge (t := r) (c - l.size - 1) (by omega)
          by_cases d1 : d < l.size
          · have hld := la_ge (t := l) d d1
            rw [if_pos d1, if_pos d1] at hs2
            omega
          · rw [if_neg d1, if_neg d1, if_neg d2, if_neg d2] at hs2 ⊢
            have := hr (c - l.size - 1) (d - l.size - 1) (i - l.size - 1) (by omega) (by omega) (by omega) ⟨by omega, by omega⟩ ⟨by omega, by omega⟩
            unfold Tr.sub at this
            omega
theorem dep_sub {t : Tr} : ∀ c i, c < t.size → i < t.size → t.sub c i → i ≠ c → t.dep c < t.dep i := by
  induction t using Tr.ind with
  | nil => intro c i h; rw [Tr.size_nil] at h; omega
  | node l s r hl hr =>
    intro c i hc hi hs hne
    rw [Tr.size_node] at hc hi
    unfold Tr.sub at hs
    rw [fi_node (i := c), la_node (i := c)] at hs
    rw [dep_node, dep_node]
    by_cases h1 : c < l.size
    · have hla := la_ge (t := l) c h1
      rw [if_pos h1, if_pos h1] at hs
      rw [if_pos h1, if_pos (by omega)]
      have := hl c i h1 (by omega) hs hne
      omega
    · rw [if_neg h1, if_neg h1] at hs
      rw [if_neg h1]
      by_cases h2 : c = l.size
      · rw [if_pos h2]
        by_cases h3 : i < l.size
        · rw [if_pos h3]; omega
        · rw [if_neg h3, if_neg (by omega)]; omega
      · rw [if_neg h2, if_neg h2] at hs
        rw [if_neg h2, if_neg (by omega), if_neg (by omega)]
        have := hr (c - l.size - 1) (i - l.size - 1) (by omega) (by omega) ⟨by omega, by omega⟩ (by omega)
        omega
theorem sub_anti {t : Tr} {c d : Nat} (hc : c < t.size) (hd : d < t.size) (h1 : t.sub c d) (h2 : t.sub d c) : c = d := by
  rcases Nat.lt_trichotomy c d with h | h | h
  · have := dep_sub c d hc hd h1 (by omega)
    have := dep_sub d c hd hc h2 (by omega)
    omega
  · exact h
  · have := dep_sub c d hc hd h1 (by omega)
    have := dep_sub d c hd hc h2 (by omega)
    omega
/-- the parent of a place below c lies below c, on the same side -/
theorem par_sub {t : Tr} {c p i : Nat} (hc : c < t.size) (hp : p < t.size) (h : t.ch p i) (hs : t.sub c i) (hne : i ≠ c) : t.sub c p ∧ (i < c → p ≤ c) ∧ (c < i → c ≤ p) := by
  obtain ⟨hi, -, hk⟩ := ch_st hp h
  have hip : t.sub p i := by
    have := fi_le (t := t) p hp
    have := la_ge (t := t) p hp
    have := fi_le (t := t) i hi
    have := la_ge (t := t) i hi
    unfold Tr.sub
    rcases hk with ⟨a1, a2, a3⟩ | ⟨a1, a2, a3⟩ <;> omega
  have hci : ¬ t.sub i c := fun h9 => hne (sub_anti hi hc h9 hs)
  have hfi := fi_le (t := t) i hi
  have hla := la_ge (t := t) i hi
  have hsid : (i < c → p ≤ c) ∧ (c < i → c ≤ p) := by
    unfold Tr.sub at hci
    rcases hk with ⟨a1, a2, a3⟩ | ⟨a1, a2, a3⟩ <;> omega
  refine ⟨?_, hsid⟩
  rcases sub_cmp c p i hc hp hi hs hip with h1 | h1
  · exact h1
  · have hfc := fi_le (t := t) c hc
    have hlc := la_ge (t := t) c hc
    have hin := sub_in p c hp hc h1
    unfold Tr.sub at hs h1 hci ⊢
    rcases hk with ⟨a1, a2, a3⟩ | ⟨a1, a2, a3⟩ <;> omega
