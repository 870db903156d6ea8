/-! ===== mathematics, 6: a point goes down; leaves come and go ===== -/
def srt (T : TreeS) (L : List Nat) : Prop := L.Pairwise (fun x y => T.1 x < T.1 y)
theorem srt_inj {T : TreeS} : ∀ {L : List Nat}, srt T L → ∀ x ∈ L, ∀ y ∈ L, T.1 x = T.1 y → x = y
  | [], _, _, hx, _, _, _ => by cases hx
  | a :: L, h, x, hx, y, hy, e => by
    rw [srt, List.pairwise_cons] at h
    rcases List.mem_cons.mp hx with rfl | hx'
    · rcases List.mem_cons.mp hy with rfl | hy
      · rfl
      · have := h.1 y hy; rw [e] at this; exact absurd this Int32.lt_irrefl
    · rcases List.mem_cons.mp hy with rfl | hy
      · have := h.1 x hx'; rw [e] at this; exact absurd this Int32.lt_irrefl
      · exact srt_inj h.2 x hx' y hy e
theorem hpx_root {T : TreeS} {z x : Nat} {t : Tr} (h : hpx T z t) (hz : z ∉ t.slots) (hx : t = Tr.nil ∨ abv T x t.root) : ∀ y ∈ t.slots, abv T x y := by
  cases t using Tr.cas with
  | nil => intro y hy; cases hy
  | node a w b =>
    rcases hx with hx | hx
    · exact absurd hx Tr.ne_nil
    · intro y hy
      rw [hpx_node] at h
      simp only [Tr.slots_node, List.mem_append, List.mem_cons] at hy hz
      by_cases e : y = w
      · rw [e]; exact hx
      · rcases h.1 y (by grind) with e1 | e1 | e1
        · exact absurd e1 (by grind)
        · exact absurd e1 (by grind)
        · exact abv_trans hx e1
theorem upc_cases {T : TreeS} {l r : Tr} {p q : Nat} (hl : trp T p l) (hr : trp T q r) (hK : l ≠ Tr.nil → r ≠ Tr.nil → T.1 l.root ≠ T.1 r.root) : (l = Tr.nil ∧ r = Tr.nil ∧ upc T l r = 0) ∨ (∃ a x b, l = Tr.node a x b ∧ upc T l r = x ∧ 1 ≤ x ∧ x ≤ 24 ∧ (r = Tr.nil ∨ abv T x r.root)) ∨ (∃ a x b, r = Tr.node a x b ∧ upc T l r = x ∧ 1 ≤ x ∧ x ≤ 24 ∧ (l = Tr.nil ∨ abv T x l.root)) := by
  cases l using Tr.cas with
  | nil =>
    cases r using Tr.cas with
    | nil => exact Or.inl ⟨rfl, rfl, rfl⟩
    | node a x b => exact Or.inr (Or.inr ⟨a, x, b, rfl, by simp [upc, Tr.root_nil, Tr.root_node], hr.1.1, hr.1.2, Or.inl rfl⟩)
  | node a x b =>
    have hx : x ≠ 0 := by have := hl.1.1; omega
    cases r using Tr.cas with
    | nil => exact Or.inr (Or.inl ⟨a, x, b, rfl, by simp [upc, Tr.root_nil, Tr.root_node, hx], hl.1.1, hl.1.2, Or.inl rfl⟩)
    | node c y d =>
      have hy : y ≠ 0 := by have := hr.1.1; omega
      by_cases hab : abv T x y
      · refine Or.inr (Or.inl ⟨a, x, b, rfl, ?_, hl.1.1, hl.1.2, Or.inr hab⟩)
        rw [upc, Tr.root_node, Tr.root_node, if_neg hx, if_neg hy, if_pos hab]
      · refine Or.inr (Or.inr ⟨c, y, d, rfl, ?_, hr.1.1, hr.1.2, Or.inr (abv_total (hK Tr.ne_nil Tr.ne_nil) hab)⟩)
        rw [upc, Tr.root_node, Tr.root_node, if_neg hx, if_neg hy, if_neg hab]
theorem hp_stepl {T : TreeS} {s x : Nat} {a b r : Tr} (h : hpx T s (Tr.node (Tr.node a x b) s r)) (hsa : s ∉ a.slots) (hsb : s ∉ b.slots) (hsr : s ∉ r.slots) (hxs : x ≠ s) (hr : r = Tr.nil ∨ abv T x r.root) : hpx T s (Tr.node b s r) ∧ hpx T s a ∧ (∀ y, y ∈ a.slots ∨ y ∈ b.slots ∨ y ∈ r.slots → abv T x y) := by
  rw [hpx_node, hpx_node] at h
  rw [hpx_node]
  refine ⟨⟨fun y _ => Or.inr (Or.inl rfl), h.2.1.2.2, h.2.2⟩, h.2.1.2.1, fun y hy => ?_⟩
  rcases hy with hy | hy | hy
  · rcases h.2.1.1 y (Or.inl hy) with e | e | e
    · exact absurd (e ▸ hy) hsa
    · exact absurd e hxs
    · exact e
  · rcases h.2.1.1 y (Or.inr hy) with e | e | e
    · exact absurd (e ▸ hy) hsb
    · exact absurd e hxs
    · exact e
  · exact hpx_root h.2.2 hsr hr y hy
theorem hp_stepr {T : TreeS} {s x : Nat} {a b l : Tr} (h : hpx T s (Tr.node l s (Tr.node a x b))) (hsa : s ∉ a.slots) (hsb : s ∉ b.slots) (hsl : s ∉ l.slots) (hxs : x ≠ s) (hl : l = Tr.nil ∨ abv T x l.root) : hpx T s (Tr.node l s a) ∧ hpx T s b ∧ (∀ y, y ∈ a.slots ∨ y ∈ b.slots ∨ y ∈ l.slots → abv T x y) := by
  rw [hpx_node, hpx_node] at h
  rw [hpx_node]
  refine ⟨⟨fun y _ => Or.inr (Or.inl rfl), h.2.1, h.2.2.2.1⟩, h.2.2.2.2, fun y hy => ?_⟩
  rcases hy with hy | hy | hy
  · rcases h.2.2.1 y (Or.inl hy) with e | e | e
    · exact absurd (e ▸ hy) hsa
    · exact absurd e hxs
    · exact e
  · rcases h.2.2.1 y (Or.inr hy) with e | e | e
    · exact absurd (e ▸ hy) hsb
    · exact absurd e hxs
    · exact e
  · exact hpx_root h.2.1 hsl hl y hy
theorem plug_mem {l r : Tr} {s : Nat} {k : List Fr} (x : Nat) : x ∈ (plug (Tr.node l s r) k).slots ↔ ((x ∈ l.slots ∨ x = s ∨ x ∈ r.slots) ∨ x ∈ kslots k) := by
  rw [(plug_perm _ _).mem_iff]
  simp only [Tr.slots_node, List.mem_append, List.mem_cons]
theorem downL_ok (z : Nat) : ∀ (k : List Fr) (T : TreeS) (l r : Tr) (s v n : Nat), l.size + r.size ≤ z → TB T (plug (Tr.node l s r) k) → (∀ x ∈ (plug (Tr.node l s r) k).slots, ∀ y ∈ (plug (Tr.node l s r) k).slots, T.1 x = T.1 y → x = y) → hpx T s (plug (Tr.node l s r) k) → v + (l.size + r.size) ≤ 24 → z < n →
    ∃ (T' : TreeS) (k' : List Fr) (m : Nat), f_X4_rotateDown_c9 n T (nI s) 1 (nI v) (nI (upc T l r)) = some (nI (v + m), T') ∧ TB T' (plug (Tr.node Tr.nil s Tr.nil) k') ∧ (plug (Tr.node Tr.nil s Tr.nil) k').slots = (plug (Tr.node l s r) k).slots ∧ hpx T' s (plug (Tr.node Tr.nil s Tr.nil) k') ∧ k'.length = k.length + m ∧ T'.1 = T.1 ∧ T'.2.1 = T.2.1 := by
  induction z using Nat.strongRecOn with
  | _ z ih =>
  intro k T l r s v n hz hT hK hh hv hn
  obtain ⟨⟨hk, s1, sp, sl, sr, tl, tr⟩, -, hn2⟩ := hT.parts
  obtain ⟨n, rfl⟩ : ∃ n', n = n' + 1 := ⟨n - 1, by omega⟩
  have hh2 := (hpx_plug _ _).mp hh
  simp only [Tr.slots_node, List.nodup_append, List.nodup_cons, List.mem_append, List.mem_cons] at hn2
  have hKr : l ≠ Tr.nil → r ≠ Tr.nil → T.1 l.root ≠ T.1 r.root := fun h1 h2 e => by
    cases l using Tr.cas with
    | nil => exact h1 rfl
    | node a x b =>
      cases r using Tr.cas with
      | nil => exact h2 rfl
      | node c y d =>
        have := hK x ((plug_mem x).mpr (by simp [Tr.slots_node])) y ((plug_mem y).mpr (by simp [Tr.slots_node])) e
        simp only [Tr.slots_node, List.mem_append, List.mem_cons] at hn2
        grind
  rcases upc_cases tl tr hKr with ⟨rfl, rfl, e⟩ | ⟨a, x, b, rfl, e, x1, x2, hr⟩ | ⟨a, x, b, rfl, e, x1, x2, hl⟩
  · rw [f_X4_rotateDown_c9, e]
    refine ⟨T, k, 0, ?_, hT, rfl, hh, rfl, rfl, rfl⟩
    rw [if_pos (show nI 0 = 0 from rfl)]; split <;> rfl
  · simp only [Tr.slots_node, Tr.size_node, List.mem_append, List.mem_cons, List.nodup_append, List.nodup_cons] at hn2 hz hv
    obtain ⟨g1, g2, g3⟩ := hp_stepl hh2.1 (by grind) (by grind) (by grind) (by grind) hr
    obtain ⟨T1, f1, f2, f3, f4⟩ := rotate_true_ok (T := T) (l := a) (r := b) (c := r) (s := x) (p := s) (k := k) hT
    replace f2 : TB T1 (plug (Tr.node b s r) ((false, x, a) :: k)) := f2
    have e1 : (plug (Tr.node b s r) ((false, x, a) :: k)).slots = (plug (Tr.node (Tr.node a x b) s r) k).slots := plug_slots k (by simp only [Tr.slots_node, List.append_assoc, List.cons_append])
    rw [f_X4_rotateDown_c9, e, if_neg (show ¬ (24 : Int32) ≤ nI v from nI_ge (b := 24) (by omega) (by decide)), if_neg (nI_ne0 (by omega) (by omega)), if_neg (by decide), f_X4_rotateDown_c34, f1, Option.bind_some, upperChild_ok f2.parts.1.2, Option.bind_some, ← nI_succ]
    have hin : hpx T s (plug (Tr.node b s r) ((false, x, a) :: k)) := (hpx_plug _ _).mpr ⟨g1, fun y hy => by
      simp only [Tr.slots_node, List.mem_append, List.mem_cons] at hy
      by_cases e : y = s
      · exact Or.inl e
      · exact Or.inr (Or.inr (g3 y (by grind))), g2, (hpk_iff (fun x => by simp only [Tr.slots_node, List.mem_append, List.mem_cons]; grind)).mp hh2.2⟩
    obtain ⟨T2, k2, m, q1, q2, q3, q4, q5, q6, q7⟩ := ih (z - 1) (by omega) ((false, x, a) :: k) T1 b r s (v + 1) n (by omega) f2 (by rw [e1, f3]; exact hK) (hpx.congr f3 f4 hin) (by omega) (by omega)
    exact ⟨T2, k2, m + 1, by rw [q1, show v + 1 + m = v + (m + 1) by omega], q2, q3.trans e1, q4, by rw [q5, List.length_cons]; omega, q6.trans f3, q7.trans f4⟩
  · simp only [Tr.slots_node, Tr.size_node, List.mem_append, List.mem_cons, List.nodup_append, List.nodup_cons] at hn2 hz hv
    obtain ⟨g1, g2, g3⟩ := hp_stepr hh2.1 (by grind) (by grind) (by grind) (by grind) hl
    obtain ⟨T1, f1, f2, f3, f4⟩ := rotate_false_ok (T := T) (l := a) (r := b) (c := l) (s := x) (p := s) (k := k) hT
    replace f2 : TB T1 (plug (Tr.node l s a) ((true, x, b) :: k)) := f2
    have e1 : (plug (Tr.node l s a) ((true, x, b) :: k)).slots = (plug (Tr.node l s (Tr.node a x b)) k).slots := plug_slots k (by simp only [Tr.slots_node, List.append_assoc, List.cons_append])
    rw [f_X4_rotateDown_c9, e, if_neg (show ¬ (24 : Int32) ≤ nI v from nI_ge (b := 24) (by omega) (by decide)), if_neg (nI_ne0 (by omega) (by omega)), if_neg (by decide), f_X4_rotateDown_c34, f1, Option.bind_some, upperChild_ok f2.parts.1.2, Option.bind_some, ← nI_succ]
    have hin : hpx T s (plug (Tr.node l s a) ((true, x, b) :: k)) := (hpx_plug _ _).mpr ⟨g1, fun y hy => by
      simp only [Tr.slots_node, List.mem_append, List.mem_cons] at hy
      by_cases e : y = s
      · exact Or.inl e
      · exact Or.inr (Or.inr (g3 y (by grind))), g2, (hpk_iff (fun x => by simp only [Tr.slots_node, List.mem_append, List.mem_cons]; grind)).mp hh2.2⟩
    obtain ⟨T2, k2, m, q1, q2, q3, q4, q5, q6, q7⟩ := ih (z - 1) (by omega) ((true, x, b) :: k) T1 l a s (v + 1) n (by omega) f2 (by rw [e1, f3]; exact hK) (hpx.congr f3 f4 hin) (by omega) (by omega)
    exact ⟨T2, k2, m + 1, by rw [q1, show v + 1 + m = v + (m + 1) by omega], q2, q3.trans e1, q4, by rw [q5, List.length_cons]; omega, q6.trans f3, q7.trans f4⟩
/-- a point goes down until its children belong below it -/
theorem downN_ok (z : Nat) : ∀ (k : List Fr) (T : TreeS) (l r : Tr) (s v n : Nat), l.size + r.size ≤ z → TB T (plug (Tr.node l s r) k) → (∀ x ∈ (plug (Tr.node l s r) k).slots, ∀ y ∈ (plug (Tr.node l s r) k).slots, T.1 x = T.1 y → x = y) → hpx T s (Tr.node l s r) → hpk T 0 (fun x => x ∈ (Tr.node l s r).slots) k → v + (l.size + r.size) ≤ 24 → z < n →
    ∃ (T' : TreeS) (l' r' : Tr) (k' : List Fr) (m : Nat), f_X4_rotateDown_c9 n T (nI s) 0 (nI v) (nI (upc T l r)) = some (nI (v + m), T') ∧ TB T' (plug (Tr.node l' s r') k') ∧ (plug (Tr.node l' s r') k').slots = (plug (Tr.node l s r) k).slots ∧ hpx T' 0 (plug (Tr.node l' s r') k') ∧ k'.length = k.length + m ∧ T'.1 = T.1 ∧ T'.2.1 = T.2.1 ∧ ((∀ x, x ∈ l.slots ∨ x ∈ r.slots → abv T s x) → m = 0) := by
  induction z using Nat.strongRecOn with
  | _ z ih =>
  intro k T l r s v n hz hT hK hh hkk hv hn
  obtain ⟨⟨hk, s1, sp, sl, sr, tl, tr⟩, -, hn2⟩ := hT.parts
  obtain ⟨n, rfl⟩ : ∃ n', n = n' + 1 := ⟨n - 1, by omega⟩
  have htl := trp.mem (T := T) (t := l) (p := s) tl
  have htr := trp.mem (T := T) (t := r) (p := s) tr
  simp only [Tr.slots_node, List.nodup_append, List.nodup_cons, List.mem_append, List.mem_cons] at hn2
  have hKr : l ≠ Tr.nil → r ≠ Tr.nil → T.1 l.root ≠ T.1 r.root := fun h1 h2 e => by
    cases l using Tr.cas with
    | nil => exact h1 rfl
    | node a x b =>
      cases r using Tr.cas with
      | nil => exact h2 rfl
      | node c y d =>
        have := hK x ((plug_mem x).mpr (by simp [Tr.slots_node])) y ((plug_mem y).mpr (by simp [Tr.slots_node])) e
        simp only [Tr.slots_node, List.mem_append, List.mem_cons] at hn2
        grind
  have hstop : (∀ x, x ∈ l.slots ∨ x ∈ r.slots → abv T s x) → hpx T 0 (plug (Tr.node l s r) k) := fun h => (hpx_plug _ _).mpr ⟨hpx_node0 hh h (by grind) (by grind) (fun x hx => by rcases hx with hx | hx; exact (htl x hx).1; exact (htr x hx).1), hkk⟩
  rcases upc_cases tl tr hKr with ⟨rfl, rfl, e⟩ | ⟨a, x, b, rfl, e, x1, x2, hr⟩ | ⟨a, x, b, rfl, e, x1, x2, hl⟩
  · rw [f_X4_rotateDown_c9, e]
    refine ⟨T, Tr.nil, Tr.nil, k, 0, ?_, hT, rfl, hstop (fun x hx => by rcases hx with hx | hx <;> cases hx), rfl, rfl, rfl, fun _ => rfl⟩
    rw [if_pos (show nI 0 = 0 from rfl)]; split <;> rfl
  · simp only [Tr.slots_node, Tr.size_node, List.mem_append, List.mem_cons, List.nodup_append, List.nodup_cons] at hn2 hz hv htl
    obtain ⟨g1, g2, g3⟩ := hp_stepl hh (by grind) (by grind) (by grind) (by grind) hr
    rw [f_X4_rotateDown_c9, e, if_neg (show ¬ (24 : Int32) ≤ nI v from nI_ge (b := 24) (by omega) (by decide)), if_neg (nI_ne0 (by omega) (by omega)), if_pos rfl, belongsAbove_ok x2 s1.2, Option.bind_some]
    by_cases hab : abv T x s
    · obtain ⟨T1, f1, f2, f3, f4⟩ := rotate_true_ok (T := T) (l := a) (r := b) (c := r) (s := x) (p := s) (k := k) hT
      replace f2 : TB T1 (plug (Tr.node b s r) ((false, x, a) :: k)) := f2
      have e1 : (plug (Tr.node b s r) ((false, x, a) :: k)).slots = (plug (Tr.node (Tr.node a x b) s r) k).slots := plug_slots k (by simp only [Tr.slots_node, List.append_assoc, List.cons_append])
      rw [if_pos hab, if_neg (by decide), f_X4_rotateDown_c34, f1, Option.bind_some, upperChild_ok f2.parts.1.2, Option.bind_some, ← nI_succ]
      have hin : hpk T 0 (fun y => y ∈ (Tr.node b s r).slots) ((false, x, a) :: k) := ⟨fun y hy => by
        simp only [Tr.slots_node, List.mem_append, List.mem_cons] at hy
        by_cases e : y = s
        · rw [e]; exact Or.inr (Or.inr hab)
        · exact Or.inr (Or.inr (g3 y (by grind))), hpx_out (by grind) (fun h0 => by have := htl 0 (by grind); omega) g2, (hpk_iff (fun x => by simp only [Tr.slots_node, List.mem_append, List.mem_cons]; grind)).mp hkk⟩
      obtain ⟨T2, l2, r2, k2, m, q1, q2, q3, q4, q5, q6, q7, q8⟩ := ih (z - 1) (by omega) ((false, x, a) :: k) T1 b r s (v + 1) n (by omega) f2 (by rw [e1, f3]; exact hK) (hpx.congr f3 f4 g1) (hpk.congr f3 f4 hin) (by omega) (by omega)
      refine ⟨T2, l2, r2, k2, m + 1, by rw [q1, show v + 1 + m = v + (m + 1) by omega], q2, q3.trans e1, q4, by rw [q5, List.length_cons]; omega, q6.trans f3, q7.trans f4, fun h => ?_⟩
      exact absurd (h x (Or.inl (by simp [Tr.slots_node]))) (fun h => abv_asymm h hab)
    · rw [if_neg hab, if_pos rfl]
      have hsx : abv T s x := abv_total (fun e => by have := hK x ((plug_mem x).mpr (by simp [Tr.slots_node])) s ((plug_mem s).mpr (by simp)) e; grind) hab
      refine ⟨T, _, _, k, 0, by rw [Nat.add_zero], hT, rfl, hstop (fun y hy => ?_), rfl, rfl, rfl, fun _ => rfl⟩
      by_cases e : y = x
      · rw [e]; exact hsx
      · simp only [Tr.slots_node, List.mem_append, List.mem_cons] at hy
        exact abv_trans hsx (g3 y (by grind))
  · simp only [Tr.slots_node, Tr.size_node, List.mem_append, List.mem_cons, List.nodup_append, List.nodup_cons] at hn2 hz hv htr
    obtain ⟨g1, g2, g3⟩ := hp_stepr hh (by grind) (by grind) (by grind) (by grind) hl
    rw [f_X4_rotateDown_c9, e, if_neg (show ¬ (24 : Int32) ≤ nI v from nI_ge (b := 24) (by omega) (by decide)), if_neg (nI_ne0 (by omega) (by omega)), if_pos rfl, belongsAbove_ok x2 s1.2, Option.bind_some]
    by_cases hab : abv T x s
    · obtain ⟨T1, f1, f2, f3, f4⟩ := rotate_false_ok (T := T) (l := a) (r := b) (c := l) (s := x) (p := s) (k := k) hT
      replace f2 : TB T1 (plug (Tr.node l s a) ((true, x, b) :: k)) := f2
      have e1 : (plug (Tr.node l s a) ((true, x, b) :: k)).slots = (plug (Tr.node l s (Tr.node a x b)) k).slots := plug_slots k (by simp only [Tr.slots_node, List.append_assoc, List.cons_append])
      rw [if_pos hab, if_neg (by decide), f_X4_rotateDown_c34, f1, Option.bind_some, upperChild_ok f2.parts.1.2, Option.bind_some, ← nI_succ]
      have hin : hpk T 0 (fun y => y ∈ (Tr.node l s a).slots) ((true, x, b) :: k) := ⟨fun y hy => by
        simp only [Tr.slots_node, List.mem_append, List.mem_cons] at hy
        by_cases e : y = s
        · rw [e]; exact Or.inr (Or.inr hab)
        · exact Or.inr (Or.inr (g3 y (by grind))), hpx_out (by grind) (fun h0 => by have := htr 0 (by grind); omega) g2, (hpk_iff (fun x => by simp only [Tr.slots_node, List.mem_append, List.mem_cons]; grind)).mp hkk⟩
      obtain ⟨T2, l2, r2, k2, m, q1, q2, q3, q4, q5, q6, q7, q8⟩ := ih (z - 1) (by omega) ((true, x, b) :: k) T1 l a s (v + 1) n (by omega) f2 (by rw [e1, f3]; exact hK) (hpx.congr f3 f4 g1) (hpk.congr f3 f4 hin) (by omega) (by omega)
      refine ⟨T2, l2, r2, k2, m + 1, by rw [q1, show v + 1 + m = v + (m + 1) by omega], q2, q3.trans e1, q4, by rw [q5, List.length_cons]; omega, q6.trans f3, q7.trans f4, fun h => ?_⟩
      exact absurd (h x (Or.inr (by simp [Tr.slots_node]))) (fun h => abv_asymm h hab)
    · rw [if_neg hab, if_pos rfl]
      have hsx : abv T s x := abv_total (fun e => by have := hK x ((plug_mem x).mpr (by simp [Tr.slots_node])) s ((plug_mem s).mpr (by simp)) e; grind) hab
      refine ⟨T, _, _, k, 0, by rw [Nat.add_zero], hT, rfl, hstop (fun y hy => ?_), rfl, rfl, rfl, fun _ => rfl⟩
      by_cases e : y = x
      · rw [e]; exact hsx
      · simp only [Tr.slots_node, List.mem_append, List.mem_cons] at hy
        exact abv_trans hsx (g3 y (by grind))
