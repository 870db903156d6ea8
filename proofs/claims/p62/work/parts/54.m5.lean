/-! ===== mathematics, 5: heaps; a point goes up, a point goes down ===== -/
/-- heap order, z left out of it -/
def hpxF (T : TreeS) (z : Nat) : Std.Format → Prop
  | .append l (.tag s r) => (∀ x, x ∈ trSlotsF l ∨ x ∈ trSlotsF r → x = z ∨ s = z ∨ abv T s x) ∧ hpxF T z l ∧ hpxF T z r
  | _ => True
def hpx (T : TreeS) (z : Nat) (t : Tr) : Prop := hpxF T z t.1
theorem hpx_node {T : TreeS} {z : Nat} {l r : Tr} {s : Nat} : hpx T z (Tr.node l s r) = ((∀ x, x ∈ l.slots ∨ x ∈ r.slots → x = z ∨ s = z ∨ abv T s x) ∧ hpx T z l ∧ hpx T z r) := rfl
/-- the heap order of what is around a hole with the slots S -/
def hpk (T : TreeS) (z : Nat) : (Nat → Prop) → List Fr → Prop
  | _, [] => True
  | S, (_, p, c) :: k => (∀ x, S x ∨ x ∈ c.slots → x = z ∨ p = z ∨ abv T p x) ∧ hpx T z c ∧ hpk T z (fun x => S x ∨ x = p ∨ x ∈ c.slots) k
theorem hpk_iff {T : TreeS} {z : Nat} : ∀ {k : List Fr} {S S' : Nat → Prop}, (∀ x, S x ↔ S' x) → (hpk T z S k ↔ hpk T z S' k)
  | [], _, _, _ => Iff.rfl
  | (b, p, c) :: k, S, S', h => by
    have e : S = S' := funext fun x => propext (h x)
    rw [e]
theorem hpx_plug {T : TreeS} {z : Nat} : ∀ (k : List Fr) (t : Tr), hpx T z (plug t k) ↔ (hpx T z t ∧ hpk T z (fun x => x ∈ t.slots) k)
  | [], t => ⟨fun h => ⟨h, trivial⟩, fun h => h.1⟩
  | (true, p, c) :: k, t => by
    rw [plug, hpx_plug k (Tr.node t p c), hpx_node]
    have e : hpk T z (fun x => x ∈ (Tr.node t p c).slots) k ↔ hpk T z (fun x => x ∈ t.slots ∨ x = p ∨ x ∈ c.slots) k := hpk_iff fun x => by rw [Tr.slots_node, List.mem_append, List.mem_cons]
    rw [e]
    constructor
    · rintro ⟨⟨h1, h2, h3⟩, h4⟩; exact ⟨h2, h1, h3, h4⟩
    · rintro ⟨h2, h1, h3, h4⟩; exact ⟨⟨h1, h2, h3⟩, h4⟩
  | (false, p, c) :: k, t => by
    rw [plug, hpx_plug k (Tr.node c p t), hpx_node]
    have e : hpk T z (fun x => x ∈ (Tr.node c p t).slots) k ↔ hpk T z (fun x => x ∈ t.slots ∨ x = p ∨ x ∈ c.slots) k := hpk_iff fun x => by rw [Tr.slots_node, List.mem_append, List.mem_cons]; grind
    rw [e]
    constructor
    · rintro ⟨⟨h1, h2, h3⟩, h4⟩; exact ⟨h3, fun x hx => h1 x hx.symm, h2, h4⟩
    · rintro ⟨h3, h1, h2, h4⟩; exact ⟨⟨fun x hx => h1 x hx.symm, h2, h3⟩, h4⟩
theorem plug_slots : ∀ (k : List Fr) {t u : Tr}, t.slots = u.slots → (plug t k).slots = (plug u k).slots
  | [], _, _, h => h
  | (true, p, c) :: k, t, u, h => plug_slots k (by rw [Tr.slots_node, Tr.slots_node, h])
  | (false, p, c) :: k, t, u, h => plug_slots k (by rw [Tr.slots_node, Tr.slots_node, h])
theorem hpx.congr {T T' : TreeS} {z : Nat} {t : Tr} (h1 : T'.1 = T.1) (h2 : T'.2.1 = T.2.1) (h : hpx T z t) : hpx T' z t := by
  induction t using Tr.ind with
  | nil => trivial
  | node l s r hl hr =>
    rw [hpx_node] at h ⊢
    refine ⟨fun x hx => ?_, hl h.2.1, hr h.2.2⟩
    rw [abv_congr h1 h2]
    exact h.1 x hx
theorem hpk.congr {T T' : TreeS} {z : Nat} (h1 : T'.1 = T.1) (h2 : T'.2.1 = T.2.1) : ∀ {k : List Fr} {S : Nat → Prop}, hpk T z S k → hpk T' z S k
  | [], _, _ => trivial
  | (b, p, c) :: k, S, ⟨a1, a2, a3⟩ => ⟨fun x hx => by rw [abv_congr h1 h2]; exact a1 x hx, hpx.congr h1 h2 a2, hpk.congr h1 h2 a3⟩
/-- z left out: nothing changes where z isn't -/
theorem hpx_out {T : TreeS} {z w : Nat} {t : Tr} (hz : z ∉ t.slots) (hw : w ∉ t.slots) (h : hpx T z t) : hpx T w t := by
  induction t using Tr.ind with
  | nil => trivial
  | node l s r hl hr =>
    rw [hpx_node] at h ⊢
    simp only [Tr.slots_node, List.mem_append, List.mem_cons] at hz hw
    refine ⟨fun x hx => ?_, hl (by grind) (by grind) h.2.1, hr (by grind) (by grind) h.2.2⟩
    rcases h.1 x hx with e | e | e
    · exact absurd e (by grind)
    · exact absurd e (by grind)
    · exact Or.inr (Or.inr e)
theorem nodup_le : ∀ (n : Nat) (l : List Nat), l.Nodup → (∀ x ∈ l, 1 ≤ x ∧ x ≤ n) → l.length ≤ n
  | 0, l, _, h => by
    cases l with
    | nil => exact Nat.le_refl _
    | cons a l => have := h a (by simp); omega
  | n + 1, l, hn, h => by
    by_cases hm : n + 1 ∈ l
    · have h1 := nodup_le n (l.erase (n + 1)) (hn.erase _) (fun x hx => by
        have h2 := (hn.mem_erase_iff.mp hx)
        have h3 := h x h2.2
        omega)
      rw [List.length_erase_of_mem hm] at h1
      have := List.length_pos_of_mem hm
      omega
    · have h1 := nodup_le n l hn (fun x hx => by
        have h3 := h x hx
        have : x ≠ n + 1 := by rintro rfl; exact hm hx
        omega)
      omega
theorem TB.size_le {T : TreeS} {t : Tr} (h : TB T t) : t.size ≤ 24 := by
  rw [← Tr.len]
  exact nodup_le 24 _ h.2.2.1 (h.1.2.mem)
theorem kslots_len : ∀ k : List Fr, k.length ≤ (kslots k).length
  | [] => Nat.le_refl _
  | (b, p, c) :: k => by
    have := kslots_len k
    simp only [kslots, List.length_append, List.length_cons]
    omega
theorem TB.depth {T : TreeS} {u : Tr} {k : List Fr} (h : TB T (plug u k)) : u.size + k.length ≤ 24 := by
  have h1 := h.size_le
  rw [plug_size] at h1
  have := kslots_len k
  omega
theorem hpx_node0 {T : TreeS} {l r : Tr} {s : Nat} (h : hpx T s (Tr.node l s r)) (hs : ∀ x, x ∈ l.slots ∨ x ∈ r.slots → abv T s x) (hl : s ∉ l.slots) (hr : s ∉ r.slots) (h0 : ∀ x, x ∈ l.slots ∨ x ∈ r.slots → 1 ≤ x) : hpx T 0 (Tr.node l s r) := by
  rw [hpx_node] at h ⊢
  exact ⟨fun x hx => Or.inr (Or.inr (hs x hx)), hpx_out hl (fun e => by have := h0 0 (Or.inl e); omega) h.2.1, hpx_out hr (fun e => by have := h0 0 (Or.inr e); omega) h.2.2⟩
theorem hpk_ex {T : TreeS} {s : Nat} : ∀ {k : List Fr} {S : Nat → Prop} {a : Nat}, hpk T s S k → S a → a ≠ s → abv T a s → s ∉ kslots k → (∀ x ∈ kslots k, 1 ≤ x) → hpk T 0 S k
  | [], _, _, _, _, _, _, _, _ => trivial
  | (b, p, c) :: k, S, a, ⟨h1, h2, h3⟩, ha, has, hab, hn, hp => by
    simp only [kslots, List.mem_append, List.mem_cons] at hn hp
    have hps : abv T p s := by
      rcases h1 a (Or.inl ha) with e | e | e
      · exact absurd e has
      · exact absurd e.symm (by grind)
      · exact abv_trans e hab
    refine ⟨fun x hx => ?_, hpx_out (by grind) (fun e => by have := hp 0 (by grind); omega) h2, hpk_ex h3 (Or.inl ha) has hab (by grind) (fun x hx => hp x (by grind))⟩
    rcases h1 x hx with e | e | e
    · rw [e]; exact Or.inr (Or.inr hps)
    · exact absurd e.symm (by grind)
    · exact Or.inr (Or.inr e)
/-- a point goes up as far as it belongs -/
theorem up_ok : ∀ (k : List Fr) (T : TreeS) (l r : Tr) (s v n : Nat), TB T (plug (Tr.node l s r) k) → (∀ x ∈ (plug (Tr.node l s r) k).slots, ∀ y ∈ (plug (Tr.node l s r) k).slots, T.1 x = T.1 y → x = y) → hpx T s (plug (Tr.node l s r) k) → (∀ x, x ∈ l.slots ∨ x ∈ r.slots → abv T s x) → v + k.length ≤ 24 → k.length < n →
    ∃ (T' : TreeS) (l' r' : Tr) (k' : List Fr) (m : Nat), f_X4_rotateUp_c11 n T (nI s) (nI v) (T.2.2.1 s) = some (nI (v + m), T') ∧ TB T' (plug (Tr.node l' s r') k') ∧ (plug (Tr.node l' s r') k').slots = (plug (Tr.node l s r) k).slots ∧ hpx T' 0 (plug (Tr.node l' s r') k') ∧ k.length = k'.length + m ∧ T'.1 = T.1 ∧ T'.2.1 = T.2.1
  | [], T, l, r, s, v, n, hT, hK, hh, hs, hv, hn => by
    obtain ⟨⟨hk, s1, sp, sl, sr, tl, tr⟩, -, hn2⟩ := hT.parts
    obtain ⟨n, rfl⟩ : ∃ n', n = n' + 1 := ⟨n - 1, by omega⟩
    refine ⟨T, l, r, [], 0, ?_, hT, rfl, ?_, rfl, rfl, rfl⟩
    · rw [f_X4_rotateUp_c11, show T.2.2.1 s = 0 from sp, if_pos rfl]
      split <;> rfl
    · have hm := hT.1.2.mem
      rw [plug] at hm hh ⊢
      simp only [Tr.slots_node, kslots, List.append_nil, List.mem_append, List.mem_cons, List.nodup_append, List.nodup_cons] at hn2 hm
      exact hpx_node0 hh hs (by grind) (by grind) (fun x hx => (hm x (by grind)).1)
  | (b, p, c) :: k, T, l, r, s, v, n, hT, hK, hh, hs, hv, hn => by
    obtain ⟨⟨⟨p1, pp, pl, pr, tc, hk⟩, s1, sp, sl, sr, tl, tr⟩, -, hn2⟩ := hT.parts
    obtain ⟨n, rfl⟩ : ∃ n', n = n' + 1 := ⟨n - 1, by omega⟩
    replace sp : T.2.2.1 s = nI p := sp
    have hmem : ∀ x, x ∈ (plug (Tr.node l s r) ((b, p, c) :: k)).slots ↔ ((x ∈ l.slots ∨ x = s ∨ x ∈ r.slots) ∨ (x = p ∨ x ∈ c.slots) ∨ x ∈ kslots k) := fun x => by
      rw [(plug_perm _ _).mem_iff]
      simp only [Tr.slots_node, kslots, List.mem_append, List.mem_cons]
    simp only [List.length_cons] at hv hn
    obtain ⟨hx1, hx2, hx3, hx4⟩ := (hpx_plug ((b, p, c) :: k) (Tr.node l s r)).mp hh
    rw [hpx_node] at hx1
    have hmz := hT.1.2.mem
    simp only [Tr.slots_node, kslots, List.nodup_append, List.nodup_cons, List.mem_append, List.mem_cons] at hn2 hx2
    have hsp : s ≠ p := by grind
    rw [f_X4_rotateUp_c11, sp, if_neg (show ¬ (24 : Int32) ≤ nI v from nI_ge (b := 24) (by omega) (by decide)), if_neg (nI_ne0 (by omega) (by omega)), belongsAbove_ok s1.2 p1.2, Option.bind_some]
    by_cases hab : abv T s p
    · rw [if_pos hab, if_neg (by decide)]
      have hcs : s ∉ c.slots := by grind
      have hpc : ∀ x ∈ c.slots, abv T p x := fun x hx => by
        rcases hx2 x (Or.inr hx) with e | e | e
        · exact absurd e (by grind)
        · exact absurd e.symm hsp
        · exact e
      cases b with
      | true =>
        obtain ⟨T1, g1, g2, g3, g4⟩ := rotate_true_ok hT
        rw [g1, Option.bind_some, show (nI v + 1) = nI (v + 1) from (nI_succ v).symm]
        have e1 : (plug (Tr.node l s (Tr.node r p c)) k).slots = (plug (Tr.node l s r) ((true, p, c) :: k)).slots := plug_slots k (by simp only [Tr.slots_node, List.append_assoc, List.cons_append])
        have hq : T1.2.2.1 s = T1.2.2.1 s := rfl
        have hrd : pq_rd 25 T1.2.2.1 (nI s) = T1.2.2.1 s := rd25 s1.2
        have hin : hpx T s (plug (Tr.node l s (Tr.node r p c)) k) := by
          refine (hpx_plug _ _).mpr ⟨?_, (hpk_iff (fun x => by simp only [Tr.slots_node, List.mem_append, List.mem_cons]; grind)).mp hx4⟩
          rw [hpx_node, hpx_node]
          refine ⟨fun x _ => Or.inr (Or.inl rfl), hx1.2.1, fun x hx => ?_, hx1.2.2, hx3⟩
          exact hx2 x (by grind)
        obtain ⟨T2, l2, r2, k2, m, f1, f2, f3, f4, f5, f6, f7⟩ := up_ok k T1 l (Tr.node r p c) s (v + 1) n g2 (by rw [e1, g3]; exact hK) (hpx.congr g3 g4 hin) (fun x hx => by
          rw [abv_congr g3 g4]
          simp only [Tr.slots_node, List.mem_append, List.mem_cons] at hx
          rcases hx with hx | hx | rfl | hx
          · exact hs x (Or.inl hx)
          · exact hs x (Or.inr hx)
          · exact hab
          · exact abv_trans hab (hpc x hx)) (by omega) (by omega)
        rw [hrd, f1]
        exact ⟨T2, l2, r2, k2, m + 1, by rw [show v + 1 + m = v + (m + 1) by omega], f2, f3.trans e1, f4, by simp only [List.length_cons]; omega, f6.trans g3, f7.trans g4⟩
      | false =>
        obtain ⟨T1, g1, g2, g3, g4⟩ := rotate_false_ok hT
        rw [g1, Option.bind_some, show (nI v + 1) = nI (v + 1) from (nI_succ v).symm]
        have e1 : (plug (Tr.node (Tr.node c p l) s r) k).slots = (plug (Tr.node l s r) ((false, p, c) :: k)).slots := plug_slots k (by simp only [Tr.slots_node, List.append_assoc, List.cons_append])
        have hrd : pq_rd 25 T1.2.2.1 (nI s) = T1.2.2.1 s := rd25 s1.2
        have hin : hpx T s (plug (Tr.node (Tr.node c p l) s r) k) := by
          refine (hpx_plug _ _).mpr ⟨?_, (hpk_iff (fun x => by simp only [Tr.slots_node, List.mem_append, List.mem_cons]; grind)).mp hx4⟩
          rw [hpx_node, hpx_node]
          refine ⟨fun x _ => Or.inr (Or.inl rfl), ⟨fun x hx => ?_, hx3, hx1.2.1⟩, hx1.2.2⟩
          exact hx2 x (by grind)
        obtain ⟨T2, l2, r2, k2, m, f1, f2, f3, f4, f5, f6, f7⟩ := up_ok k T1 (Tr.node c p l) r s (v + 1) n g2 (by rw [e1, g3]; exact hK) (hpx.congr g3 g4 hin) (fun x hx => by
          rw [abv_congr g3 g4]
          simp only [Tr.slots_node, List.mem_append, List.mem_cons] at hx
          rcases hx with (hx | rfl | hx) | hx
          · exact abv_trans hab (hpc x hx)
          · exact hab
          · exact hs x (Or.inl hx)
          · exact hs x (Or.inr hx)) (by omega) (by omega)
        rw [hrd, f1]
        exact ⟨T2, l2, r2, k2, m + 1, by rw [show v + 1 + m = v + (m + 1) by omega], f2, f3.trans e1, f4, by simp only [List.length_cons]; omega, f6.trans g3, f7.trans g4⟩
    · rw [if_neg hab, if_pos rfl]
      refine ⟨T, l, r, (b, p, c) :: k, 0, by rw [Nat.add_zero], hT, rfl, ?_, rfl, rfl, rfl⟩
      have hps : abv T p s := abv_total (fun e => hsp (hK s ((hmem _).mpr (by grind)) p ((hmem _).mpr (by grind)) e)) hab
      have hk0 := hk.mem
      refine (hpx_plug _ _).mpr ⟨hpx_node0 (by rw [hpx_node]; exact hx1) hs (by grind) (by grind) (fun x hx => (hmz x ((hmem _).mpr (by grind))).1), fun x hx => ?_, hpx_out (by grind) (fun h0 => by have := hmz 0 ((hmem _).mpr (by grind)); omega) hx3, hpk_ex hx4 (Or.inr (Or.inl rfl)) (Ne.symm hsp) hps (by grind) (fun x hx => (hk0 x hx).1)⟩
      rcases hx2 x (by replace hx : x ∈ (Tr.node l s r).slots ∨ x ∈ c.slots := hx; rw [Tr.slots_node, List.mem_append, List.mem_cons] at hx; grind) with e | e | e
      · rw [e]; exact Or.inr (Or.inr hps)
      · exact absurd e.symm hsp
      · exact Or.inr (Or.inr e)
