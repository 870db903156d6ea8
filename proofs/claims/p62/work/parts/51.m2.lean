/-! ===== mathematics, 2: a rotation ===== -/
/-- a tree that lies in T as it should: links, counts, free slots -/
def TB (T : TreeS) (t : Tr) : Prop := (T.top = nI t.root ∧ trp T 0 t) ∧ tct T t ∧ t.slots.Nodup ∧ (∀ s, 1 ≤ s → s ≤ 24 → s ∉ t.slots → T.cn s = 0) ∧ T.cn 0 = 0
/-- another tree hangs in the hole -/
def setHole (T : TreeS) (k : List Fr) (h : Nat) : TreeS := match k with
  | [] => (T.1, T.2.1, T.2.2.1, T.2.2.2.1, T.2.2.2.2.1, T.2.2.2.2.2.1, nI h)
  | (true, q, _) :: _ => (T.1, T.2.1, T.2.2.1, upd T.2.2.2.1 q (nI h), T.2.2.2.2.1, T.2.2.2.2.2.1, T.2.2.2.2.2.2)
  | (false, q, _) :: _ => (T.1, T.2.1, T.2.2.1, T.2.2.2.1, upd T.2.2.2.2.1 q (nI h), T.2.2.2.2.2.1, T.2.2.2.2.2.2)
theorem setHole_key (T : TreeS) (k : List Fr) (h : Nat) : (setHole T k h).1 = T.1 ∧ (setHole T k h).2.1 = T.2.1 ∧ (setHole T k h).2.2.1 = T.2.2.1 ∧ (setHole T k h).2.2.2.2.2.1 = T.2.2.2.2.2.1 := by
  match k with
  | [] => exact ⟨rfl, rfl, rfl, rfl⟩
  | (true, q, c) :: k => exact ⟨rfl, rfl, rfl, rfl⟩
  | (false, q, c) :: k => exact ⟨rfl, rfl, rfl, rfl⟩
theorem setHole_at (T : TreeS) (k : List Fr) (h : Nat) {x : Nat} (hx : x ∉ kslots k) : (setHole T k h).lf x = T.lf x ∧ (setHole T k h).rt x = T.rt x := by
  match k, hx with
  | [], _ => exact ⟨rfl, rfl⟩
  | (true, q, c) :: k, hx => exact ⟨upd_ne _ _ (by rintro rfl; exact hx (by simp [kslots])), rfl⟩
  | (false, q, c) :: k, hx => exact ⟨rfl, upd_ne _ _ (by rintro rfl; exact hx (by simp [kslots]))⟩
theorem setHole_trk {T T1 : TreeS} {k : List Fr} {h h1 : Nat} (hk : trk T h k) (hnd : (kslots k).Nodup) (ha : ∀ x ∈ kslots k, T1.par x = T.par x ∧ T1.lf x = T.lf x ∧ T1.rt x = T.rt x) (ht : T1.top = T.top) : trk (setHole T1 k h1) h1 k := by
  match k, hk, hnd, ha with
  | [], _, _, _ => rfl
  | (true, q, c) :: k, ⟨g1, g2, g3, g4, g5, g6⟩, hnd, ha =>
    rw [kslots, List.nodup_append, List.nodup_cons] at hnd
    obtain ⟨e1, e2, e3⟩ := ha q (by simp [kslots])
    refine ⟨g1, e1.trans g2, upd_eq _ _ _, e3.trans g4, g5.congr (fun x hx => ?_), g6.congr (fun x hx => ?_) ht⟩
    · obtain ⟨a1, a2, a3⟩ := ha x (by simp [kslots, hx])
      exact ⟨a1, (upd_ne _ _ (by rintro rfl; exact hnd.1.1 hx)).trans a2, a3⟩
    · obtain ⟨a1, a2, a3⟩ := ha x (by simp [kslots, hx])
      exact ⟨a1, (upd_ne _ _ (by rintro rfl; exact hnd.2.2 x (by simp) x hx rfl)).trans a2, a3⟩
  | (false, q, c) :: k, ⟨g1, g2, g3, g4, g5, g6⟩, hnd, ha =>
    rw [kslots, List.nodup_append, List.nodup_cons] at hnd
    obtain ⟨e1, e2, e3⟩ := ha q (by simp [kslots])
    refine ⟨g1, e1.trans g2, e2.trans g3, upd_eq _ _ _, g5.congr (fun x hx => ?_), g6.congr (fun x hx => ?_) ht⟩
    · obtain ⟨a1, a2, a3⟩ := ha x (by simp [kslots, hx])
      exact ⟨a1, a2, (upd_ne _ _ (by rintro rfl; exact hnd.1.1 hx)).trans a3⟩
    · obtain ⟨a1, a2, a3⟩ := ha x (by simp [kslots, hx])
      exact ⟨a1, a2, (upd_ne _ _ (by rintro rfl; exact hnd.2.2 x (by simp) x hx rfl)).trans a3⟩
/-- replaceChild -/
theorem replaceChild_ok {T T1 : TreeS} {k : List Fr} {h h1 : Nat} (hk : trk T h k) (hh : h ≠ 0) (h24 : h ≤ 24) (hnk : h ∉ kslots k) (ha : ∀ x ∈ kslots k, T1.lf x = T.lf x) : f_X4_replaceChild T1 (nI (parOf k)) (nI h) (nI h1) = some (setHole T1 k h1) := by
  unfold f_X4_replaceChild
  match k, hk, hnk, ha with
  | [], _, _, _ => rw [if_pos (show nI (parOf []) = 0 from rfl)]; rfl
  | (true, q, c) :: k, ⟨g1, g2, g3, g4, g5, g6⟩, _, ha =>
    rw [parOf, if_neg (nI_ne0 (by omega) (by omega)), rd25 g1.2, if_pos (show T1.2.2.2.1 q = nI h from (ha q (by simp [kslots])).trans g3), wr25 g1.2]
    rfl
  | (false, q, c) :: k, ⟨g1, g2, g3, g4, g5, g6⟩, hnk, ha =>
    have hne : ¬ T1.lf q = nI h := by
      rw [ha q (by simp [kslots]), g3]
      intro e
      have e1 : c.root = h := nI_inj (by have := g5.root_le; omega) (by omega) e
      cases c using Tr.cas with
      | nil => exact hh e1.symm
      | node l s r =>
        rw [Tr.root_node] at e1
        exact hnk (by simp [kslots, Tr.slots_node, e1])
    rw [parOf, if_neg (nI_ne0 (by omega) (by omega)), rd25 g1.2, if_neg (show ¬ T1.2.2.2.1 q = nI h from hne), wr25 g1.2]
    rfl
theorem recount_ok {T : TreeS} {s a b x y : Nat} (hs : s ≤ 24) (ha : a ≤ 24) (hb : b ≤ 24) (h1 : T.lf s = nI a) (h2 : T.rt s = nI b) (h3 : T.cn a = nI x) (h4 : T.cn b = nI y) : f_X4_recount T (nI s) = some (T.1, T.2.1, T.2.2.1, T.2.2.2.1, T.2.2.2.2.1, upd T.2.2.2.2.2.1 s (nI (x + 1 + y)), T.2.2.2.2.2.2) := by
  replace h1 : T.2.2.2.1 s = nI a := h1
  replace h2 : T.2.2.2.2.1 s = nI b := h2
  replace h3 : T.2.2.2.2.2.1 a = nI x := h3
  replace h4 : T.2.2.2.2.2.1 b = nI y := h4
  unfold f_X4_recount
  rw [rd25 (f := T.2.2.2.1) hs, rd25 (f := T.2.2.2.2.1) hs, h1, h2, rd25 ha, rd25 hb, h3, h4, wr25 hs]
  rw [show (1 : Int32) + nI x = nI (x + 1) from by rw [nI_succ, Int32.add_comm], nI_add]
