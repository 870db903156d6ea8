/-! ===== mathematics, 1: trees in slots (a tree is written as a text of the core's own, for want of a type of its own) ===== -/
def trOk : Std.Format → Prop
  | .nil => True
  | .append l (.tag _ r) => trOk l ∧ trOk r
  | _ => False
def Tr : Type := { f : Std.Format // trOk f }
def Tr.nil : Tr := ⟨.nil, trivial⟩
def Tr.node (l : Tr) (s : Nat) (r : Tr) : Tr := ⟨.append l.1 (.tag s r.1), l.2, r.2⟩
theorem Tr.indF {P : Tr → Prop} (h0 : P Tr.nil) (h1 : ∀ l s r, P l → P r → P (Tr.node l s r)) : ∀ (f : Std.Format) (h : trOk f), P ⟨f, h⟩
  | .nil, _ => h0
  | .append l (.tag s r), h => h1 ⟨l, h.1⟩ s ⟨r, h.2⟩ (Tr.indF h0 h1 l h.1) (Tr.indF h0 h1 r h.2)
theorem Tr.ind {P : Tr → Prop} (nil : P Tr.nil) (node : ∀ l s r, P l → P r → P (Tr.node l s r)) (t : Tr) : P t := Tr.indF nil node t.1 t.2
theorem Tr.cas {P : Tr → Prop} (nil : P Tr.nil) (node : ∀ l s r, P (Tr.node l s r)) (t : Tr) : P t := Tr.ind nil (fun l s r _ _ => node l s r) t
def trRootF : Std.Format → Nat
  | .append _ (.tag s _) => s
  | _ => 0
def Tr.root (t : Tr) : Nat := trRootF t.1
def trSizeF : Std.Format → Nat
  | .append l (.tag _ r) => trSizeF l + 1 + trSizeF r
  | _ => 0
def Tr.size (t : Tr) : Nat := trSizeF t.1
def trSlotsF : Std.Format → List Nat
  | .append l (.tag s r) => trSlotsF l ++ s :: trSlotsF r
  | _ => []
def Tr.slots (t : Tr) : List Nat := trSlotsF t.1
theorem Tr.root_nil : Tr.nil.root = 0 := rfl
theorem Tr.root_node (l : Tr) (s : Nat) (r : Tr) : (Tr.node l s r).root = s := rfl
theorem Tr.size_nil : Tr.nil.size = 0 := rfl
theorem Tr.size_node (l : Tr) (s : Nat) (r : Tr) : (Tr.node l s r).size = l.size + 1 + r.size := rfl
theorem Tr.slots_nil : Tr.nil.slots = [] := rfl
theorem Tr.slots_node (l : Tr) (s : Nat) (r : Tr) : (Tr.node l s r).slots = l.slots ++ s :: r.slots := rfl
theorem Tr.len (t : Tr) : t.slots.length = t.size := by
  induction t using Tr.ind with
  | nil => rfl
  | node l s r hl hr => rw [Tr.slots_node, Tr.size_node, List.length_append, List.length_cons, hl, hr]; omega
abbrev TreeS.key (T : TreeS) : Nat → Int32 := T.1
abbrev TreeS.pri (T : TreeS) : Nat → Int32 := T.2.1
abbrev TreeS.par (T : TreeS) : Nat → Int32 := T.2.2.1
abbrev TreeS.lf (T : TreeS) : Nat → Int32 := T.2.2.2.1
abbrev TreeS.rt (T : TreeS) : Nat → Int32 := T.2.2.2.2.1
abbrev TreeS.cn (T : TreeS) : Nat → Int32 := T.2.2.2.2.2.1
abbrev TreeS.top (T : TreeS) : Int32 := T.2.2.2.2.2.2
theorem rdn {n : Nat} {f : Nat → Int32} {s : Nat} (h : s < n) (hn : n < 2 ^ 31) : pq_rd n f (nI s) = f s := by
  unfold pq_rd
  rw [if_neg (nI_pos (by omega)), if_neg (nI_ge h hn), nI_clamp (by omega)]
theorem wrn {n : Nat} {f : Nat → Int32} {s : Nat} {v : Int32} (h : s < n) (hn : n < 2 ^ 31) : pq_wr n f (nI s) v = upd f s v := by
  unfold pq_wr
  rw [if_neg (nI_pos (by omega)), if_neg (nI_ge h hn), nI_clamp (by omega)]
theorem rd25 {f : Nat → Int32} {s : Nat} (h : s ≤ 24) : pq_rd 25 f (nI s) = f s := rdn (by omega) (by decide)
theorem wr25 {f : Nat → Int32} {s : Nat} {v : Int32} (h : s ≤ 24) : pq_wr 25 f (nI s) v = upd f s v := wrn (by omega) (by decide)
theorem upd_eq (f : Nat → Int32) (k : Nat) (v : Int32) : upd f k v k = v := by simp [upd]
theorem upd_ne (f : Nat → Int32) {k j : Nat} (v : Int32) (h : j ≠ k) : upd f k v j = f j := by simp [upd, h]
theorem nI_inj {a b : Nat} (ha : a < 2 ^ 31) (hb : b < 2 ^ 31) (h : nI a = nI b) : a = b := by
  have := congrArg Int32.toNatClampNeg h
  rwa [nI_clamp ha, nI_clamp hb] at this
theorem nI_zero {a : Nat} (ha : a < 2 ^ 31) : nI a = 0 ↔ a = 0 := ⟨fun h => nI_inj ha (by decide) h, fun h => by rw [h]; rfl⟩
/-- the tree t lies in T, its root's parent is p -/
def trpF (T : TreeS) : Nat → Std.Format → Prop
  | p, .append l (.tag s r) => (1 ≤ s ∧ s ≤ 24) ∧ T.par s = nI p ∧ T.lf s = nI (trRootF l) ∧ T.rt s = nI (trRootF r) ∧ trpF T s l ∧ trpF T s r
  | _, _ => True
def trp (T : TreeS) (p : Nat) (t : Tr) : Prop := trpF T p t.1
theorem trp_node {T : TreeS} {p : Nat} {l r : Tr} {s : Nat} : trp T p (Tr.node l s r) = ((1 ≤ s ∧ s ≤ 24) ∧ T.par s = nI p ∧ T.lf s = nI l.root ∧ T.rt s = nI r.root ∧ trp T s l ∧ trp T s r) := rfl
/-- .. and counts its points -/
def tctF (T : TreeS) : Std.Format → Prop
  | .append l (.tag s r) => T.cn s = nI (trSizeF l + 1 + trSizeF r) ∧ tctF T l ∧ tctF T r
  | _ => True
def tct (T : TreeS) (t : Tr) : Prop := tctF T t.1
theorem tct_node {T : TreeS} {l r : Tr} {s : Nat} : tct T (Tr.node l s r) = (T.cn s = nI (l.size + 1 + r.size) ∧ tct T l ∧ tct T r) := rfl
theorem trp.mem {T : TreeS} {t : Tr} : ∀ {p : Nat}, trp T p t → ∀ x ∈ t.slots, 1 ≤ x ∧ x ≤ 24 := by
  induction t using Tr.ind with
  | nil => intro p _ x h; cases h
  | node l s r hl hr =>
    intro p h x hx
    rw [trp_node] at h
    rw [Tr.slots_node, List.mem_append, List.mem_cons] at hx
    rcases hx with hx | rfl | hx
    · exact hl h.2.2.2.2.1 x hx
    · exact h.1
    · exact hr h.2.2.2.2.2 x hx
theorem trp.root_le {T : TreeS} {t : Tr} {p : Nat} (h : trp T p t) : t.root ≤ 24 := by
  cases t using Tr.cas with
  | nil => exact Nat.zero_le _
  | node l s r => exact h.1.2
theorem Tr.ne_nil {l r : Tr} {s : Nat} : Tr.node l s r ≠ Tr.nil := fun h => by
  have := congrArg (fun t : Tr => t.size) h
  simp only [Tr.size_node, Tr.size_nil] at this
  omega
theorem trp.root_pos {T : TreeS} {t : Tr} {p : Nat} (h : trp T p t) : t.root = 0 ↔ t = Tr.nil := by
  cases t using Tr.cas with
  | nil => exact ⟨fun _ => rfl, fun _ => rfl⟩
  | node l s r => exact ⟨fun e => by have := h.1.1; rw [Tr.root_node] at e; omega, fun e => absurd e Tr.ne_nil⟩
theorem trp.congr {T T' : TreeS} {t : Tr} : ∀ {p : Nat}, trp T p t → (∀ x ∈ t.slots, T'.par x = T.par x ∧ T'.lf x = T.lf x ∧ T'.rt x = T.rt x) → trp T' p t := by
  induction t using Tr.ind with
  | nil => intro p _ _; trivial
  | node l s r hl hr =>
    intro p ⟨h1, h2, h3, h4, h5, h6⟩ h
    obtain ⟨e1, e2, e3⟩ := h s (by simp [Tr.slots_node])
    exact ⟨h1, e1.trans h2, e2.trans h3, e3.trans h4, hl h5 (fun x hx => h x (by simp [Tr.slots_node, hx])), hr h6 (fun x hx => h x (by simp [Tr.slots_node, hx]))⟩
/-- a subtree gets another parent -/
theorem trp.move {T T' : TreeS} {t : Tr} {p p' : Nat} (ht : trp T p t) (hnd : t.slots.Nodup) (h : ∀ x ∈ t.slots, T'.lf x = T.lf x ∧ T'.rt x = T.rt x ∧ (x ≠ t.root → T'.par x = T.par x)) (hr : t ≠ Tr.nil → T'.par t.root = nI p') : trp T' p' t := by
  cases t using Tr.cas with
  | nil => trivial
  | node l s r =>
    obtain ⟨h1, h2, h3, h4, hl, hrr⟩ := ht
    obtain ⟨e2, e3, -⟩ := h s (by simp [Tr.slots_node])
    simp only [Tr.slots_node, List.nodup_append, List.nodup_cons, List.mem_cons] at hnd
    refine ⟨h1, hr Tr.ne_nil, e2.trans h3, e3.trans h4, trp.congr hl (fun x hx => ?_), trp.congr hrr (fun x hx => ?_)⟩
    · obtain ⟨a1, a2, a3⟩ := h x (by simp [Tr.slots_node, hx])
      exact ⟨a3 (by rw [Tr.root_node]; rintro rfl; exact hnd.2.2 x hx x (Or.inl rfl) rfl), a1, a2⟩
    · obtain ⟨a1, a2, a3⟩ := h x (by simp [Tr.slots_node, hx])
      exact ⟨a3 (by rw [Tr.root_node]; rintro rfl; exact hnd.2.1.1 hx), a1, a2⟩
theorem tct.congr {T T' : TreeS} {t : Tr} (ht : tct T t) (h : ∀ x ∈ t.slots, T'.cn x = T.cn x) : tct T' t := by
  induction t using Tr.ind with
  | nil => trivial
  | node l s r hl hr =>
    obtain ⟨h1, h2, h3⟩ := ht
    exact ⟨(h s (by simp [Tr.slots_node])).trans h1, hl h2 (fun x hx => h x (by simp [Tr.slots_node, hx])), hr h3 (fun x hx => h x (by simp [Tr.slots_node, hx]))⟩
theorem tct.root {T : TreeS} {t : Tr} (h : tct T t) (h0 : T.cn 0 = 0) : T.cn t.root = nI t.size := by
  cases t using Tr.cas with
  | nil => exact h0
  | node l s r => exact h.1
/-! a tree with a hole: from the hole upwards; true: the hole is to the left -/
abbrev Fr : Type := Bool × Nat × Tr
def plug : Tr → List Fr → Tr
  | t, [] => t
  | t, (true, p, c) :: k => plug (Tr.node t p c) k
  | t, (false, p, c) :: k => plug (Tr.node c p t) k
def parOf : List Fr → Nat
  | [] => 0
  | (_, p, _) :: _ => p
def kslots : List Fr → List Nat
  | [] => []
  | (_, p, c) :: k => p :: c.slots ++ kslots k
def trk (T : TreeS) : Nat → List Fr → Prop
  | h, [] => T.top = nI h
  | h, (b, p, c) :: k => (1 ≤ p ∧ p ≤ 24) ∧ T.par p = nI (parOf k) ∧ T.lf p = nI (if b then h else c.root) ∧ T.rt p = nI (if b then c.root else h) ∧ trp T p c ∧ trk T p k
/-- the counts above a hole of n points -/
def tck (T : TreeS) : Nat → List Fr → Prop
  | _, [] => True
  | n, (_, p, c) :: k => T.cn p = nI (n + 1 + c.size) ∧ tct T c ∧ tck T (n + 1 + c.size) k
theorem plug_perm : ∀ (k : List Fr) (t : Tr), List.Perm (plug t k).slots (t.slots ++ kslots k)
  | [], t => by simp [plug, kslots]
  | (true, p, c) :: k, t => by
    refine (plug_perm k (Tr.node t p c)).trans ?_
    simp [Tr.slots_node, kslots, List.append_assoc]
  | (false, p, c) :: k, t => by
    refine (plug_perm k (Tr.node c p t)).trans ?_
    rw [Tr.slots_node, kslots, List.append_assoc]
    have h1 : List.Perm (c.slots ++ (p :: t.slots ++ kslots k)) (p :: t.slots ++ kslots k ++ c.slots) := List.perm_append_comm
    refine h1.trans ?_
    have h2 : List.Perm (p :: t.slots ++ kslots k ++ c.slots) (p :: (t.slots ++ (c.slots ++ kslots k))) := by
      simp only [List.cons_append, List.append_assoc]
      exact List.Perm.cons _ (List.Perm.append_left _ List.perm_append_comm)
    refine h2.trans ?_
    have h3 : List.Perm (t.slots ++ p :: (c.slots ++ kslots k)) (p :: (t.slots ++ (c.slots ++ kslots k))) := List.perm_middle
    exact h3.symm
theorem plug_size : ∀ (k : List Fr) (t : Tr), (plug t k).size = t.size + (kslots k).length := fun k t => by
  rw [← Tr.len, (plug_perm k t).length_eq, List.length_append, Tr.len]
/-- the whole tree, seen from a hole -/
theorem trp_plug {T : TreeS} : ∀ (k : List Fr) (t : Tr), (T.top = nI (plug t k).root ∧ trp T 0 (plug t k)) ↔ (trk T t.root k ∧ trp T (parOf k) t)
  | [], t => Iff.rfl
  | (true, p, c) :: k, t => by
    rw [plug, trp_plug k (Tr.node t p c)]
    constructor
    · rintro ⟨h, h1, h2, h3, h4, h5, h6⟩
      exact ⟨⟨h1, h2, h3, h4, h6, h⟩, h5⟩
    · rintro ⟨⟨h1, h2, h3, h4, h6, h⟩, h5⟩
      exact ⟨h, h1, h2, h3, h4, h5, h6⟩
  | (false, p, c) :: k, t => by
    rw [plug, trp_plug k (Tr.node c p t)]
    constructor
    · rintro ⟨h, h1, h2, h3, h4, h5, h6⟩
      exact ⟨⟨h1, h2, h3, h4, h5, h⟩, h6⟩
    · rintro ⟨⟨h1, h2, h3, h4, h6, h⟩, h5⟩
      exact ⟨h, h1, h2, h3, h4, h6, h5⟩
theorem tct_plug {T : TreeS} : ∀ (k : List Fr) (t : Tr), tct T (plug t k) ↔ (tck T t.size k ∧ tct T t)
  | [], t => ⟨fun h => ⟨trivial, h⟩, fun h => h.2⟩
  | (true, p, c) :: k, t => by
    rw [plug, tct_plug k (Tr.node t p c)]
    constructor
    · rintro ⟨h, h1, h2, h3⟩
      exact ⟨⟨h1, h3, h⟩, h2⟩
    · rintro ⟨⟨h1, h3, h⟩, h2⟩
      exact ⟨h, h1, h2, h3⟩
  | (false, p, c) :: k, t => by
    rw [plug, tct_plug k (Tr.node c p t)]
    have e : c.size + 1 + t.size = t.size + 1 + c.size := by omega
    constructor
    · rintro ⟨h, h1, h2, h3⟩
      rw [Tr.size_node, e] at h
      replace h1 : T.cn p = nI (c.size + 1 + t.size) := h1
      rw [e] at h1
      exact ⟨⟨h1, h2, h⟩, h3⟩
    · rintro ⟨⟨h1, h3, h⟩, h2⟩
      refine ⟨?_, ?_, h3, h2⟩
      · rw [Tr.size_node, e]; exact h
      · show T.cn p = nI (c.size + 1 + t.size)
        rw [e]; exact h1
theorem trk.congr {T T' : TreeS} : ∀ {k : List Fr} {h : Nat}, trk T h k → (∀ x ∈ kslots k, T'.par x = T.par x ∧ T'.lf x = T.lf x ∧ T'.rt x = T.rt x) → T'.top = T.top → trk T' h k
  | [], h, hk, _, ht => ht.trans hk
  | (b, p, c) :: k, h, ⟨h1, h2, h3, h4, h5, h6⟩, ha, ht => by
    obtain ⟨e1, e2, e3⟩ := ha p (by simp [kslots])
    exact ⟨h1, e1.trans h2, e2.trans h3, e3.trans h4, h5.congr (fun x hx => ha x (by simp [kslots, hx])), h6.congr (fun x hx => ha x (by simp [kslots, hx])) ht⟩
theorem tck.congr {T T' : TreeS} : ∀ {k : List Fr} {n : Nat}, tck T n k → (∀ x ∈ kslots k, T'.cn x = T.cn x) → tck T' n k
  | [], _, _, _ => trivial
  | (b, p, c) :: k, n, ⟨h1, h2, h3⟩, ha => ⟨(ha p (by simp [kslots])).trans h1, h2.congr (fun x hx => ha x (by simp [kslots, hx])), h3.congr (fun x hx => ha x (by simp [kslots, hx]))⟩
theorem trk.mem {T : TreeS} : ∀ {k : List Fr} {h : Nat}, trk T h k → ∀ x ∈ kslots k, 1 ≤ x ∧ x ≤ 24
  | [], _, _, x, hx => by cases hx
  | (b, p, c) :: k, h, ⟨h1, h2, h3, h4, h5, h6⟩, x, hx => by
    rw [kslots, List.mem_append, List.mem_cons] at hx
    rcases hx with (rfl | hx) | hx
    · exact h1
    · exact h5.mem x hx
    · exact h6.mem x hx
theorem trk.par_le {T : TreeS} {k : List Fr} {h : Nat} (hk : trk T h k) : parOf k ≤ 24 := by
  match k, hk with
  | [], _ => exact Nat.zero_le _
  | (b, p, c) :: k, hk => exact hk.1.2
