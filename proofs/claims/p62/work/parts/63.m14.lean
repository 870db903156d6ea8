/-! ===== mathematics, 14: children and parents; the reference's loops ===== -/
theorem kL_t {p : Nat} {c : Tr} {k : List Fr} : (kL ((true, p, c) :: k)).length = (kL k).length := rfl
theorem kL_f {p : Nat} {c : Tr} {k : List Fr} : (kL ((false, p, c) :: k)).length = (kL k).length + (c.size + 1) := by rw [kL, List.length_append, List.length_append, Tr.len, List.length_singleton]
theorem fi_plug : ∀ (k : List Fr) (u : Tr) (i : Nat), i < u.size → (plug u k).fi ((kL k).length + i) = (kL k).length + u.fi i
  | [], u, i, _ => by rw [plug, kL, List.length_nil, Nat.zero_add, Nat.zero_add]
  | (true, p, c) :: k, u, i, h => by
    rw [plug, kL_t, fi_plug k (Tr.node u p c) i (by rw [Tr.size_node]; omega), fi_node, if_pos h]
  | (false, p, c) :: k, u, i, h => by
    rw [plug, kL_f, show (kL k).length + (c.size + 1) + i = (kL k).length + (c.size + 1 + i) by omega, fi_plug k (Tr.node c p u) (c.size + 1 + i) (by rw [Tr.size_node]; omega), fi_node, if_neg (by omega), if_neg (by omega), show c.size + 1 + i - c.size - 1 = i by omega]; omega
theorem la_plug : ∀ (k : List Fr) (u : Tr) (i : Nat), i < u.size → (plug u k).la ((kL k).length + i) = (kL k).length + u.la i
  | [], u, i, _ => by rw [plug, kL, List.length_nil, Nat.zero_add, Nat.zero_add]
  | (true, p, c) :: k, u, i, h => by
    rw [plug, kL_t, la_plug k (Tr.node u p c) i (by rw [Tr.size_node]; omega), la_node, if_pos h]
  | (false, p, c) :: k, u, i, h => by
    rw [plug, kL_f, show (kL k).length + (c.size + 1) + i = (kL k).length + (c.size + 1 + i) by omega, la_plug k (Tr.node c p u) (c.size + 1 + i) (by rw [Tr.size_node]; omega), la_node, if_neg (by omega), if_neg (by omega), show c.size + 1 + i - c.size - 1 = i by omega]; omega
theorem tp_plug : ∀ (k : List Fr) (u : Tr) (a b : Nat), a ≤ b → b < u.size → (plug u k).tp ((kL k).length + a) ((kL k).length + b) = (kL k).length + u.tp a b
  | [], u, a, b, _, _ => by rw [plug, kL, List.length_nil, Nat.zero_add, Nat.zero_add, Nat.zero_add]
  | (true, p, c) :: k, u, a, b, hab, h => by
    rw [plug, kL_t, tp_plug k (Tr.node u p c) a b hab (by rw [Tr.size_node]; omega), tp_node, if_pos h]
  | (false, p, c) :: k, u, a, b, hab, h => by
    rw [plug, kL_f, show (kL k).length + (c.size + 1) + a = (kL k).length + (c.size + 1 + a) by omega, show (kL k).length + (c.size + 1) + b = (kL k).length + (c.size + 1 + b) by omega, tp_plug k (Tr.node c p u) (c.size + 1 + a) (c.size + 1 + b) (by omega) (by rw [Tr.size_node]; omega), tp_node, if_neg (by omega), if_pos (by omega), show c.size + 1 + a - c.size - 1 = a by omega, show c.size + 1 + b - c.size - 1 = b by omega]; omega
theorem sl_plug (k : List Fr) (u : Tr) {i : Nat} (h : i < u.size) : (plug u k).sl ((kL k).length + i) = u.sl i := by
  rw [Tr.sl, Tr.sl, plug_lr, List.append_assoc, List.getD_eq_getElem?_getD, List.getD_eq_getElem?_getD, List.getElem?_append, if_neg (by omega), Nat.add_sub_cancel_left, List.getElem?_append, if_pos (by rw [Tr.len]; exact h)]
theorem root_tp {t : Tr} (h : t ≠ Tr.nil) : t.sl (t.tp 0 (t.size - 1)) = t.root ∧ t.tp 0 (t.size - 1) < t.size ∧ 0 < t.size := by
  cases t using Tr.cas with
  | nil => exact absurd rfl h
  | node l s r =>
    rw [tp_node, Tr.size_node, if_neg (by omega), if_neg (by omega), sl_node, if_neg (Nat.lt_irrefl _), if_pos rfl]
    exact ⟨rfl, by omega, by omega⟩
/-- the place of the left child, and of the right one; beyond all places without one -/
def Tr.lp (t : Tr) (i : Nat) : Nat := if t.fi i < i then t.tp (t.fi i) (i - 1) else 1000
def Tr.rp (t : Tr) (i : Nat) : Nat := if i < t.la i then t.tp (i + 1) (t.la i) else 1000
def Tr.pp (t : Tr) (i : Nat) : Nat := t.slots.idxOf 0 + i
theorem hole3 {t : Tr} {k : List Fr} {l r : Tr} {s i : Nat} (e : plug (Tr.node l s r) k = t) (e2 : (kL k).length + l.size = i) : t.fi i = (kL k).length ∧ t.la i = (kL k).length + l.size + r.size := by
  have h1 := fi_plug k (Tr.node l s r) l.size (by rw [Tr.size_node]; omega)
  have h2 := la_plug k (Tr.node l s r) l.size (by rw [Tr.size_node]; omega)
  rw [e, e2, fi_node, if_neg (Nat.lt_irrefl _), if_pos rfl] at h1
  rw [e, e2, la_node, if_neg (Nat.lt_irrefl _), if_pos rfl] at h2
  omega
theorem left_ok {T : TreeS} {t : Tr} (h : TB T t) {i : Nat} (hi : i < t.size) : T.lf (t.sl i) = nI (t.sl (t.lp i)) := by
  have h24 := h.size_le
  obtain ⟨k, l, r, e, e2, -⟩ := hole_ok h hi
  obtain ⟨f1, f2⟩ := hole3 e e2
  have h2 : TB T (plug (Tr.node l (t.sl i) r) k) := by rw [e]; exact h
  obtain ⟨⟨-, -, -, sl, -, -, -⟩, -, -⟩ := h2.parts
  rw [show T.lf (t.sl i) = nI l.root from sl, Tr.lp, f1]
  by_cases hn : l = Tr.nil
  · rw [hn, Tr.size_nil] at e2
    rw [hn, if_neg (by omega), sl_out (by omega)]; rfl
  · obtain ⟨g1, g2, g3⟩ := root_tp hn
    rw [if_pos (by omega)]
    have h3 := tp_plug k (Tr.node l (t.sl i) r) 0 (l.size - 1) (by omega) (by rw [Tr.size_node]; omega)
    rw [e, tp_node, if_pos (by omega), Nat.add_zero, show (kL k).length + (l.size - 1) = i - 1 by omega] at h3
    have h4 := sl_plug k (Tr.node l (t.sl i) r) (i := l.tp 0 (l.size - 1)) (by rw [Tr.size_node]; omega)
    rw [e, sl_node, if_pos g2, g1] at h4
    rw [h3, h4]
theorem right_ok {T : TreeS} {t : Tr} (h : TB T t) {i : Nat} (hi : i < t.size) : T.rt (t.sl i) = nI (t.sl (t.rp i)) := by
  have h24 := h.size_le
  obtain ⟨k, l, r, e, e2, -⟩ := hole_ok h hi
  obtain ⟨f1, f2⟩ := hole3 e e2
  have h2 : TB T (plug (Tr.node l (t.sl i) r) k) := by rw [e]; exact h
  obtain ⟨⟨-, -, -, -, sr, -, -⟩, -, -⟩ := h2.parts
  rw [show T.rt (t.sl i) = nI r.root from sr, Tr.rp, f2]
  by_cases hn : r = Tr.nil
  · rw [hn, Tr.size_nil, if_neg (by omega), sl_out (by omega)]; rfl
  · obtain ⟨g1, g2, g3⟩ := root_tp hn
    rw [if_pos (by omega)]
    have h3 := tp_plug k (Tr.node l (t.sl i) r) (l.size + 1) (l.size + r.size) (by omega) (by rw [Tr.size_node]; omega)
    rw [e, tp_node, if_neg (by omega), if_pos (by omega), show l.size + 1 - l.size - 1 = 0 by omega, show l.size + r.size - l.size - 1 = r.size - 1 by omega, show (kL k).length + (l.size + 1) = i + 1 by omega, show (kL k).length + (l.size + r.size) = (kL k).length + l.size + r.size by omega] at h3
    have h4 := sl_plug k (Tr.node l (t.sl i) r) (i := l.size + 1 + r.tp 0 (r.size - 1)) (by rw [Tr.size_node]; omega)
    rw [e, sl_node, if_neg (by omega), if_neg (by omega), show l.size + 1 + r.tp 0 (r.size - 1) - l.size - 1 = r.tp 0 (r.size - 1) by omega, g1] at h4
    rw [h3, h4]
theorem lp_lt {t : Tr} {i : Nat} (hi : i < t.size) (h : t.fi i < i) : t.lp i < i := by
  rw [Tr.lp, if_pos h]
  have := tp_in (t := t) (t.fi i) (i - 1) (by omega) (by omega)
  omega
theorem rp_lt {t : Tr} {i : Nat} (hi : i < t.size) (h : i < t.la i) : t.rp i < t.size ∧ i < t.rp i := by
  rw [Tr.rp, if_pos h]
  have h2 := la_ge (t := t) i hi
  have := tp_in (t := t) (i + 1) (t.la i) (by omega) (by omega)
  omega
theorem leftAtR {M : ModS} {T : TreeS} {t : Tr} (h : WF T t) (hM : MR M T t) {i : Nat} (hi : i < t.size) : f_X7_leftAt M (nI i) = some (if t.fi i < i then nI (t.lp i) else -1) := by
  have h24 := h.le
  unfold f_X7_leftAt
  rw [if_pos (nI_pos' (by omega)), (firstR_ok hM.1 h24 (h.th hM) hi).1, Option.bind_some]
  have := fi_le i hi
  by_cases e : t.fi i < i
  · obtain ⟨j, rfl⟩ : ∃ j, i = j + 1 := ⟨i - 1, by omega⟩
    rw [nI_pred, topR_ok (h.th hM) h24 (by omega) (by omega), if_pos e, Tr.lp, if_pos e]; rfl
  · rw [if_neg e, show t.fi i = i by omega, top_none (by omega) (nI_dec_lt i (by omega))]; rfl
theorem rightAtR {M : ModS} {T : TreeS} {t : Tr} (h : WF T t) (hM : MR M T t) {i : Nat} (hi : i < t.size) : f_X7_rightAt M (nI i) = some (if i < t.la i then nI (t.rp i) else -1) := by
  have h24 := h.le
  unfold f_X7_rightAt
  have := la_ge (t := t) i hi
  rw [if_pos (nI_pos' (by omega)), (firstR_ok hM.1 h24 (h.th hM) hi).2, Option.bind_some, nI_1]
  by_cases e : i < t.la i
  · rw [topR_ok (h.th hM) h24 (by omega) (by omega), if_pos e, Tr.rp, if_pos e]; rfl
  · rw [if_neg e, show t.la i = i by omega, top_none (by omega) (nI_lt (by omega) (by omega))]; rfl
theorem sizeAtR {M : ModS} {T : TreeS} {t : Tr} (h : WF T t) (hM : MR M T t) {i : Nat} (hi : i < t.size) : f_X7_sizeAt M (nI i) = some (nI (t.sz i)) := by
  have h24 := h.le
  have h1 := fi_le i hi
  have h2 := la_ge (t := t) i hi
  unfold f_X7_sizeAt
  rw [if_pos (nI_pos' (by omega)), (firstR_ok hM.1 h24 (h.th hM) hi).2, (firstR_ok hM.1 h24 (h.th hM) hi).1, Option.bind_some, Option.bind_some, nI_sub (by omega), nI_1]; rfl
theorem sizeAt_none {M : ModS} : f_X7_sizeAt M (-1) = some 0 := rfl
/-- what is beside a subtree belongs above all of it -/
theorem beside {M : ModS} {N : Nat} {t : Tr} : ∀ o, th M o t → (o = 0 ∨ ∀ j, o ≤ j → j < o + t.size → mab M (o - 1) j) → (o + t.size = N ∨ ∀ j, o ≤ j → j < o + t.size → mab M (o + t.size) j) → ∀ i, i < t.size → (o + t.fi i = 0 ∨ ∀ j, o + t.fi i ≤ j → j ≤ o + t.la i → mab M (o + t.fi i - 1) j) ∧ (o + t.la i + 1 = N ∨ ∀ j, o + t.fi i ≤ j → j ≤ o + t.la i → mab M (o + t.la i + 1) j) := by
  induction t using Tr.ind with
  | nil => intro o _ _ _ i h; rw [Tr.size_nil] at h; omega
  | node l s r hl hr =>
    intro o ht hlo hhi i hi
    rw [Tr.size_node] at hlo hhi hi
    rw [th_node] at ht
    rw [fi_node, la_node]
    by_cases h1 : i < l.size
    · rw [if_pos h1, if_pos h1]
      refine hl o ht.2.1 ?_ (Or.inr fun j j1 j2 => ht.1 j j1 (by omega) (by omega)) i h1
      rcases hlo with e | e
      · exact Or.inl e
      · exact Or.inr fun j j1 j2 => e j j1 (by omega)
    · rw [if_neg h1, if_neg h1]
      by_cases h2 : i = l.size
      · rw [if_pos h2, if_pos h2]
        simp only [Nat.add_zero]
        refine ⟨?_, ?_⟩
        · rcases hlo with e | e
          · exact Or.inl e
          · exact Or.inr fun j j1 j2 => e j j1 (by omega)
        · rw [show o + (l.size + r.size) + 1 = o + (l.size + 1 + r.size) by omega]
          rcases hhi with e | e
          · exact Or.inl e
          · exact Or.inr fun j j1 j2 => e j j1 (by omega)
      · rw [if_neg h2, if_neg h2]
        have := hr (o + l.size + 1) ht.2.2 (Or.inr fun j j1 j2 => by rw [Nat.add_sub_cancel]; exact ht.1 j (by omega) (by omega) (by omega)) (by
          rcases hhi with e | e
          · exact Or.inl (by omega)
          · refine Or.inr fun j j1 j2 => ?_
            rw [show o + l.size + 1 + r.size = o + (l.size + 1 + r.size) by omega]
            exact e j (by omega) (by omega)) (i - l.size - 1) (by omega)
        rw [show o + l.size + 1 + r.fi (i - l.size - 1) = o + (l.size + 1 + r.fi (i - l.size - 1)) by omega, show o + l.size + 1 + r.la (i - l.size - 1) = o + (l.size + 1 + r.la (i - l.size - 1)) by omega] at this
        exact this
theorem besideR {M : ModS} {t : Tr} (ht : th M 0 t) {i : Nat} (hi : i < t.size) : (t.fi i = 0 ∨ ∀ j, t.fi i ≤ j → j ≤ t.la i → mab M (t.fi i - 1) j) ∧ (t.la i + 1 = t.size ∨ ∀ j, t.fi i ≤ j → j ≤ t.la i → mab M (t.la i + 1) j) := by
  have := beside (N := t.size) 0 ht (Or.inl rfl) (Or.inl (by omega)) i hi
  rw [Nat.zero_add, Nat.zero_add] at this
  exact this
/-- the parent: the class's slot, the reference's place -/
theorem parent_ok {M : ModS} {T : TreeS} {t : Tr} (h : WF T t) (hM : MR M T t) {i : Nat} (hi : i < t.size) : (T.par (t.sl i) = 0 ∧ f_X7_parentAt M (nI i) = some (-1)) ∨ (∃ j, j < t.size ∧ T.par (t.sl i) = nI (t.sl j) ∧ f_X7_parentAt M (nI i) = some (nI j)) := by
  have h24 := h.le
  have hth := h.th hM
  obtain ⟨k, l, r, e, e2, -⟩ := hole_ok h.1 hi
  obtain ⟨f1, f2⟩ := hole3 e e2
  have h2 : TB T (plug (Tr.node l (t.sl i) r) k) := by rw [e]; exact h.1
  obtain ⟨⟨-, -, sp, -, -, -, -⟩, -, -⟩ := h2.parts
  have hpar : f_X7_parentAt M (nI i) = (if 0 ≤ (nI (t.fi i) - 1) then if nI t.size ≤ nI (t.la i + 1) then some (nI (t.fi i) - 1) else (f_X7_isAbove M (nI (t.fi i) - 1) (nI (t.la i + 1))).bind fun q9 => if q9 = 0 then some (nI (t.fi i) - 1) else some (nI (t.la i + 1)) else if nI t.size ≤ nI (t.la i + 1) then some (-1) else some (nI (t.la i + 1))) := by
    unfold f_X7_parentAt
    rw [if_pos (nI_pos' (by omega)), (firstR_ok hM.1 h24 hth hi).1, (firstR_ok hM.1 h24 hth hi).2, Option.bind_some, Option.bind_some, nI_1, hM.1]
  have l2 := la_ge (t := t) i hi
  have l1 := fi_le i hi
  match k, e, e2, f1, f2, sp with
  | [], e, e2, f1, f2, sp =>
    refine Or.inl ⟨sp, ?_⟩
    have hsz : t.size = l.size + 1 + r.size := by rw [← e]; rfl
    have k0 : (kL []).length = 0 := rfl
    rw [k0] at f1 f2 e2
    rw [hpar, f1, if_neg (by decide), if_pos (nI_le (by omega) (by omega))]
  | (true, p, c) :: k, e, e2, f1, f2, sp =>
    replace e : plug (Tr.node (Tr.node l (t.sl i) r) p c) k = t := e
    rw [kL_t] at e2 f1 f2
    have e3 : (kL k).length + (Tr.node l (t.sl i) r).size = t.la i + 1 := by rw [Tr.size_node]; omega
    have hsz : t.la i + 1 < t.size := by
      have := Tr.len t
      rw [← e, plug_lr, List.length_append, List.length_append, Tr.len, Tr.size_node, e] at this
      omega
    have hj := sl_hole (l := Tr.node l (t.sl i) r) (r := c) (s := p) (k := k)
    rw [e, e3] at hj
    obtain ⟨g1, g2⟩ := hole3 e e3
    refine Or.inr ⟨t.la i + 1, hsz, by rw [hj]; exact sp, ?_⟩
    have hb := (besideR hth hsz).1
    have lj := la_ge (t := t) _ hsz
    rw [hpar, if_neg (c := nI t.size ≤ nI (t.la i + 1)) (nI_ge hsz (by omega)), if_neg (c := nI t.size ≤ nI (t.la i + 1)) (nI_ge hsz (by omega))]
    by_cases e0 : t.fi i = 0
    · rw [e0, if_neg (by decide)]
    · rcases hb with hb | hb
      · omega
      · have hab := hb (t.la i + 1) (by omega) (by omega)
        rw [g1, ← f1] at hab
        obtain ⟨q, hq⟩ : ∃ q, t.fi i = q + 1 := ⟨t.fi i - 1, by omega⟩
        rw [hq, Nat.add_sub_cancel] at hab
        rw [hq, nI_pred, if_pos (nI_pos' (by omega)), isAbove_ok (by omega) (by omega), Option.bind_some, if_pos hab, if_neg (by decide)]
  | (false, p, c) :: k, e, e2, f1, f2, sp =>
    replace e : plug (Tr.node c p (Tr.node l (t.sl i) r)) k = t := e
    rw [kL_f] at e2 f1 f2
    have e3 : (kL k).length + c.size = t.fi i - 1 := by omega
    have hj := sl_hole (l := c) (r := Tr.node l (t.sl i) r) (s := p) (k := k)
    rw [e, e3] at hj
    obtain ⟨g1, g2⟩ := hole3 e e3
    rw [Tr.size_node] at g2
    refine Or.inr ⟨t.fi i - 1, by omega, by rw [hj]; exact sp, ?_⟩
    have hb := (besideR hth (i := t.fi i - 1) (by omega)).2
    obtain ⟨q, hq⟩ : ∃ q, t.fi i = q + 1 := ⟨t.fi i - 1, by omega⟩
    rw [hpar, hq, nI_pred, if_pos (nI_pos' (by omega)), Nat.add_sub_cancel]
    by_cases e0 : t.la i + 1 = t.size
    · rw [if_pos (nI_le (by omega) (by omega))]
    · rw [if_neg (nI_ge (by omega) (by omega)), isAbove_ok (by omega) (by omega), Option.bind_some]
      rcases hb with hb | hb
      · omega
      · have hab := hb (t.fi i - 1) (by omega) (by omega)
        rw [hq, Nat.add_sub_cancel, show t.la q + 1 = t.la i + 1 by rw [hq, Nat.add_sub_cancel] at g2; omega] at hab
        rw [if_neg (fun h9 => mab_asymm h9 hab), if_pos rfl]
/-! loops of the reference over all places -/
theorem height_c9 {M : ModS} {t : Tr} (hN : mNs M t.size) (h24 : t.size ≤ 24) (ht : th M 0 t) : ∀ (n i : Nat) (m : Int32), i ≤ t.size → isMax t.dep (fun j => j < i) m → t.size - i < n → ∃ m', f_X7_height_c9 n M m (nI i) = some (m', M) ∧ isMax t.dep (fun j => j < t.size) m'
  | 0, i, m, _, _, hn => absurd hn (by omega)
  | n + 1, i, m, hi, hm, hn => by
    rw [f_X7_height_c9, hN]
    by_cases e : i = t.size
    · rw [if_pos (nI_le (by omega) (by omega))]
      exact ⟨m, rfl, by rw [e] at hm; exact hm⟩
    · rw [if_neg (nI_ge (by omega) (by omega)), depthR_ok hN h24 ht (by omega), Option.bind_some, Option.bind_some, nI_1]
      by_cases e1 : nI (t.dep i) ≤ m
      · rw [if_pos e1]
        refine height_c9 hN h24 ht n (i + 1) m (by omega) ⟨fun s hs => ?_, ?_⟩ (by omega)
        · by_cases e2 : s = i
          · rw [e2]; exact e1
          · exact hm.1 s (by omega)
        · rcases hm.2 with e2 | ⟨s, e2, e3⟩
          · exact Or.inl e2
          · exact Or.inr ⟨s, by omega, e3⟩
      · rw [if_neg e1]
        refine height_c9 hN h24 ht n (i + 1) _ (by omega) ⟨fun s hs => ?_, Or.inr ⟨i, by omega, rfl⟩⟩ (by omega)
        by_cases e2 : s = i
        · rw [e2]; exact Int32.le_refl _
        · exact Int32.le_of_lt (Int32.lt_of_le_of_lt (hm.1 s (by omega)) (Int32.not_le.mp e1))
theorem leaves_c4 {M : ModS} {T : TreeS} {t : Tr} (h : WF T t) (hM : MR M T t) : ∀ (n i v : Nat), i ≤ t.size → t.size - i < n → f_X7_leaves_c4 n M (nI v) (nI i) = some (nI (v + sumR (fun i => if t.sz i = 1 then 1 else 0) i (t.size - i)))
  | 0, i, v, _, hn => absurd hn (by omega)
  | n + 1, i, v, hi, hn => by
    have h24 := h.le
    rw [f_X7_leaves_c4, hM.1]
    by_cases e : i = t.size
    · rw [if_pos (nI_le (by omega) (by omega)), e, Nat.sub_self]; rfl
    · have hsz : t.sz i < 2 ^ 31 := by have := la_ge (t := t) i (by omega); rw [Tr.sz]; omega
      rw [if_neg (nI_ge (by omega) (by omega)), sizeAtR h hM (by omega), Option.bind_some, nI_1, nI_1, Int32.add_zero, show t.size - i = (t.size - (i + 1)) + 1 by omega, sumR, ← Nat.add_assoc, leaves_c4 h hM n (i + 1) v (by omega) (by omega), leaves_c4 h hM n (i + 1) (v + 1) (by omega) (by omega)]
      by_cases e1 : t.sz i = 1
      · rw [if_pos (by rw [e1]; rfl), if_pos e1]
      · rw [if_neg (show ¬ nI (t.sz i) = 1 from fun h9 => e1 ((nI_eq (b := 1) hsz (by omega)).mp h9)), if_neg e1] <;> rfl
theorem leavesR {M : ModS} {T : TreeS} {t : Tr} (h : WF T t) (hM : MR M T t) : f_X7_leaves M = some (nI (sumR (fun i => if t.sz i = 1 then 1 else 0) 0 t.size)) := by
  have h24 := h.le
  have := leaves_c4 h hM 200 0 0 (by omega) (by omega)
  rw [Nat.zero_add, Nat.sub_zero] at this
  exact this
theorem countAbove_c39 {M : ModS} {T : TreeS} {t : Tr} (h : WF T t) (hM : MR M T t) {hi p : Int32} (hh : hi ≤ 1000) : ∀ (n i v : Nat), i ≤ cnt T (ple hi) t.slots → cnt T (ple hi) t.slots - i < n → f_X7_countAbove_c39 n M hi p (nI v) (nI i) = some (nI (v + sumR (fun i => if p ≤ T.2.1 (t.sl i) then 1 else 0) i (cnt T (ple hi) t.slots - i)), M)
  | 0, i, v, _, hn => absurd hn (by omega)
  | n + 1, i, v, hib, hn => by
    have h24 := h.le
    have hle := cnt_le (T := T) (p := ple hi) (t := t)
    rw [f_X7_countAbove_c39, belowR h hM, Option.bind_some, plt_succ hh]
    by_cases e : i = cnt T (ple hi) t.slots
    · rw [if_pos (nI_le (by omega) (by omega)), e, Nat.sub_self]; rfl
    · rw [if_neg (nI_ge (by omega) (by omega)), pri_ok (by omega), Option.bind_some, (hM.at (by omega)).2, nI_1, nI_1, Int32.add_zero, show cnt T (ple hi) t.slots - i = (cnt T (ple hi) t.slots - (i + 1)) + 1 by omega, sumR, ← Nat.add_assoc, countAbove_c39 h hM hh n (i + 1) v (by omega) (by omega), countAbove_c39 h hM hh n (i + 1) (v + 1) (by omega) (by omega)]
      by_cases e1 : T.2.1 (t.sl i) < p
      · rw [if_pos e1, if_neg (c := p ≤ T.2.1 (t.sl i)) (Int32.not_le.mpr e1)] <;> rfl
      · rw [if_neg e1, if_pos (c := p ≤ T.2.1 (t.sl i)) (Int32.not_lt.mp e1)]
theorem sumInRange_c23 {M : ModS} {T : TreeS} {t : Tr} (h : WF T t) (hM : MR M T t) {hi : Int32} (hh : hi ≤ 1000) : ∀ (n i v : Nat), i ≤ cnt T (ple hi) t.slots → v + 99 * (24 - i) < 2 ^ 31 → cnt T (ple hi) t.slots - i < n → f_X7_sumInRange_c23 n M hi (nI v) (nI i) = some (lN (v + sumR (fun i => pn T (t.sl i)) i (cnt T (ple hi) t.slots - i)), M)
  | 0, i, v, _, _, hn => absurd hn (by omega)
  | n + 1, i, v, hib, hv, hn => by
    have h24 := h.le
    have hle := cnt_le (T := T) (p := ple hi) (t := t)
    rw [f_X7_sumInRange_c23, belowR h hM, Option.bind_some, plt_succ hh]
    by_cases e : i = cnt T (ple hi) t.slots
    · rw [if_pos (nI_le (by omega) (by omega)), e, Nat.sub_self, nI_l (by omega)]; rfl
    · obtain ⟨p, p1, p2⟩ := (h.2.2.2 _ (sl_mem (t := t) (i := i) (by omega))).2
      have e9 : pn T (t.sl i) = p := by rw [pn, p2, nI_clamp (by omega)]
      rw [if_neg (nI_ge (by omega) (by omega)), pri_ok (by omega), Option.bind_some, (hM.at (by omega)).2, p2, nI_1, nI_add, show cnt T (ple hi) t.slots - i = (cnt T (ple hi) t.slots - (i + 1)) + 1 by omega, sumR, ← Nat.add_assoc, sumInRange_c23 h hM hh n (i + 1) (v + p) (by omega) (by omega) (by omega), e9]
