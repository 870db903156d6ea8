/-! ===== mathematics, 3: both rotations keep the tree ===== -/
theorem rot_true {T : TreeS} {l r c : Tr} {s p : Nat} {k : List Fr} (h : TB T (plug (Tr.node l s r) ((true, p, c) :: k))) {par1 : Nat → Int32} (q1 : par1 s = nI (parOf k)) (q2 : par1 p = nI s) (q3 : r ≠ Tr.nil → par1 r.root = nI p) (q4 : ∀ x, 1 ≤ x → x ≠ s → x ≠ p → x ≠ r.root → par1 x = T.par x) : f_X4_rotate_c142 (setHole (T.1, T.2.1, par1, upd T.2.2.2.1 p (nI r.root), upd T.2.2.2.2.1 s (nI p), T.2.2.2.2.2.1, T.2.2.2.2.2.2) k s) (nI s) (nI p) = some (setHole (T.1, T.2.1, par1, upd T.2.2.2.1 p (nI r.root), upd T.2.2.2.2.1 s (nI p), (upd (upd T.2.2.2.2.2.1 p (nI (r.size + 1 + c.size))) s (nI (l.size + 1 + (r.size + 1 + c.size)))), T.2.2.2.2.2.2) k s) ∧ TB (setHole (T.1, T.2.1, par1, upd T.2.2.2.1 p (nI r.root), upd T.2.2.2.2.1 s (nI p), (upd (upd T.2.2.2.2.2.1 p (nI (r.size + 1 + c.size))) s (nI (l.size + 1 + (r.size + 1 + c.size)))), T.2.2.2.2.2.2) k s) (plug (Tr.node l s (Tr.node r p c)) k) := by
  obtain ⟨hr, hc, hnd, hfree, h0⟩ := h
  obtain ⟨⟨p1, pp, pl, pr, tc, hk⟩, s1, sp, sl, sr, tl, tr⟩ := (trp_plug _ _).mp hr
  obtain ⟨⟨cp, cc, ck⟩, cs, cl, cr⟩ := (tct_plug _ _).mp hc
  have hn2 := (plug_perm _ _).nodup_iff.mp hnd
  have hmem : ∀ x, x ∈ (plug (Tr.node l s (Tr.node r p c)) k).slots ↔ x ∈ (plug (Tr.node l s r) ((true, p, c) :: k)).slots := fun x => by
    rw [(plug_perm _ _).mem_iff, (plug_perm _ _).mem_iff]
    simp only [Tr.slots_node, kslots, List.mem_append, List.mem_cons]
    grind
  have hnn : (plug (Tr.node l s (Tr.node r p c)) k).slots.Nodup := by
    rw [(plug_perm _ _).nodup_iff]
    simp only [Tr.slots_node, kslots, List.nodup_append, List.nodup_cons, List.mem_append, List.mem_cons] at hn2 ⊢
    grind
  simp only [Tr.slots_node, kslots, List.nodup_append, List.nodup_cons, List.mem_append, List.mem_cons] at hn2
  have hsp : s ≠ p := by grind
  have hsk : s ∉ kslots k := by grind
  have hpk : p ∉ kslots k := by grind
  have hl : ∀ x ∈ l.slots, 1 ≤ x ∧ x ≠ s ∧ x ≠ p ∧ x ∉ kslots k := fun x hx => ⟨(trp.mem (T := T) (t := l) (p := s) tl x hx).1, by grind, by grind, by grind⟩
  have hrr : ∀ x ∈ r.slots, 1 ≤ x ∧ x ≠ s ∧ x ≠ p ∧ x ∉ kslots k := fun x hx => ⟨(trp.mem (T := T) (t := r) (p := s) tr x hx).1, by grind, by grind, by grind⟩
  have hcc : ∀ x ∈ c.slots, 1 ≤ x ∧ x ≠ s ∧ x ≠ p ∧ x ∉ kslots k := fun x hx => ⟨(tc.mem x hx).1, by grind, by grind, by grind⟩
  have hkk : ∀ x ∈ kslots k, 1 ≤ x ∧ x ≠ s ∧ x ≠ p := fun x hx => ⟨(hk.mem x hx).1, by grind, by grind⟩
  have hroot : ∀ x, 1 ≤ x → x ∉ r.slots → x ≠ r.root := fun x h1 hx e => by
    cases r using Tr.cas with
    | nil => rw [Tr.root_nil] at e; omega
    | node a z d => rw [Tr.root_node] at e; exact hx (by simp [Tr.slots_node, e])
  have hrm : ∀ x, x ≠ r.root ∨ x ∈ r.slots ∨ x = 0 := fun x => by
    cases r using Tr.cas with
    | nil => rw [Tr.root_nil]; omega
    | node a z d => rw [Tr.root_node, Tr.slots_node]; by_cases e : x = z <;> simp [e]
  have hnrl : ∀ x ∈ l.slots, x ∉ r.slots := fun x hx hx2 => by grind
  have hnrc : ∀ x ∈ c.slots, x ∉ r.slots := fun x hx hx2 => by grind
  have hnrk : ∀ x ∈ kslots k, x ∉ r.slots := fun x hx hx2 => by grind
  have at9 : ∀ {x : Nat} {pf cf : Nat → Int32}, x ∉ kslots k → (setHole (T.1, T.2.1, pf, upd T.2.2.2.1 p (nI r.root), upd T.2.2.2.2.1 s (nI p), cf, T.2.2.2.2.2.2) k s).lf x = (upd T.2.2.2.1 p (nI r.root)) x ∧ (setHole (T.1, T.2.1, pf, upd T.2.2.2.1 p (nI r.root), upd T.2.2.2.2.1 s (nI p), cf, T.2.2.2.2.2.2) k s).rt x = (upd T.2.2.2.2.1 s (nI p)) x := fun hx => setHole_at _ k s hx
  have lfs : ∀ {pf cf : Nat → Int32}, (setHole (T.1, T.2.1, pf, upd T.2.2.2.1 p (nI r.root), upd T.2.2.2.2.1 s (nI p), cf, T.2.2.2.2.2.2) k s).lf s = nI (l.root) := fun {pf cf} => ((at9 (pf := pf) (cf := cf) hsk).1).trans ((upd_ne _ _ hsp).trans sl)
  have rts : ∀ {pf cf : Nat → Int32}, (setHole (T.1, T.2.1, pf, upd T.2.2.2.1 p (nI r.root), upd T.2.2.2.2.1 s (nI p), cf, T.2.2.2.2.2.2) k s).rt s = nI (p) := fun {pf cf} => ((at9 (pf := pf) (cf := cf) hsk).2).trans (upd_eq _ _ _)
  have lfp : ∀ {pf cf : Nat → Int32}, (setHole (T.1, T.2.1, pf, upd T.2.2.2.1 p (nI r.root), upd T.2.2.2.2.1 s (nI p), cf, T.2.2.2.2.2.2) k s).lf p = nI (r.root) := fun {pf cf} => ((at9 (pf := pf) (cf := cf) hpk).1).trans (upd_eq _ _ _)
  have rtp : ∀ {pf cf : Nat → Int32}, (setHole (T.1, T.2.1, pf, upd T.2.2.2.1 p (nI r.root), upd T.2.2.2.2.1 s (nI p), cf, T.2.2.2.2.2.2) k s).rt p = nI (c.root) := fun {pf cf} => ((at9 (pf := pf) (cf := cf) hpk).2).trans ((upd_ne _ _ (Ne.symm hsp)).trans pr)
  have e0 : T.cn 0 = nI 0 := h0
  have cr0 : T.cn r.root = nI r.size := tct.root cr h0
  have cc0 : T.cn c.root = nI c.size := tct.root cc h0
  have cl0 : T.cn l.root = nI l.size := tct.root cl h0
  have rp : ∀ x, x ∈ l.slots ∨ x ∈ r.slots ∨ x ∈ c.slots ∨ x = 0 → x ≠ s ∧ x ≠ p := fun x hx => by
    rcases hx with hx | hx | hx | rfl
    · exact ⟨(hl x hx).2.1, (hl x hx).2.2.1⟩
    · exact ⟨(hrr x hx).2.1, (hrr x hx).2.2.1⟩
    · exact ⟨(hcc x hx).2.1, (hcc x hx).2.2.1⟩
    · exact ⟨by omega, by omega⟩
  have rm : ∀ t : Tr, t.root ∈ t.slots ∨ t.root = 0 := fun t => by
    cases t using Tr.cas with
    | nil => exact Or.inr rfl
    | node a z d => exact Or.inl (by simp [Tr.slots_node, Tr.root_node])
  have rl : l.root ≠ s ∧ l.root ≠ p := rp _ (by rcases rm l with h | h <;> simp [h])
  have rr : r.root ≠ s ∧ r.root ≠ p := rp _ (by rcases rm r with h | h <;> simp [h])
  have rc : c.root ≠ s ∧ c.root ≠ p := rp _ (by rcases rm c with h | h <;> simp [h])
  have w : ∀ (pf cf cf2 : Nat → Int32), ((setHole (T.1, T.2.1, pf, upd T.2.2.2.1 p (nI r.root), upd T.2.2.2.2.1 s (nI p), cf, T.2.2.2.2.2.2) k s).1, (setHole (T.1, T.2.1, pf, upd T.2.2.2.1 p (nI r.root), upd T.2.2.2.2.1 s (nI p), cf, T.2.2.2.2.2.2) k s).2.1, (setHole (T.1, T.2.1, pf, upd T.2.2.2.1 p (nI r.root), upd T.2.2.2.2.1 s (nI p), cf, T.2.2.2.2.2.2) k s).2.2.1, (setHole (T.1, T.2.1, pf, upd T.2.2.2.1 p (nI r.root), upd T.2.2.2.2.1 s (nI p), cf, T.2.2.2.2.2.2) k s).2.2.2.1, (setHole (T.1, T.2.1, pf, upd T.2.2.2.1 p (nI r.root), upd T.2.2.2.2.1 s (nI p), cf, T.2.2.2.2.2.2) k s).2.2.2.2.1, cf2, (setHole (T.1, T.2.1, pf, upd T.2.2.2.1 p (nI r.root), upd T.2.2.2.2.1 s (nI p), cf, T.2.2.2.2.2.2) k s).2.2.2.2.2.2) = setHole (T.1, T.2.1, pf, upd T.2.2.2.1 p (nI r.root), upd T.2.2.2.2.1 s (nI p), cf2, T.2.2.2.2.2.2) k s := fun pf cf cf2 => by
    match k with
    | [] => rfl
    | (true, q, d) :: k => rfl
    | (false, q, d) :: k => rfl
  have cnE : ∀ (pf cf : Nat → Int32), (setHole (T.1, T.2.1, pf, upd T.2.2.2.1 p (nI r.root), upd T.2.2.2.2.1 s (nI p), cf, T.2.2.2.2.2.2) k s).cn = cf := fun pf cf => (setHole_key _ k s).2.2.2
  have cnR : ∀ (pf cf : Nat → Int32), (setHole (T.1, T.2.1, pf, upd T.2.2.2.1 p (nI r.root), upd T.2.2.2.2.1 s (nI p), cf, T.2.2.2.2.2.2) k s).2.2.2.2.2.1 = cf := fun pf cf => (setHole_key _ k s).2.2.2
  have parE : ∀ (pf cf : Nat → Int32), (setHole (T.1, T.2.1, pf, upd T.2.2.2.1 p (nI r.root), upd T.2.2.2.2.1 s (nI p), cf, T.2.2.2.2.2.2) k s).par = pf := fun pf cf => (setHole_key _ k s).2.2.1
  refine ⟨?_, ?_, ?_, hnn, ?_, ?_⟩
  · unfold f_X4_rotate_c142
    rw [recount_ok (a := r.root) (b := c.root) (x := r.size) (y := c.size) p1.2 (trp.root_le tr) (trp.root_le tc) lfp rtp ?_ ?_, Option.bind_some, w]
    rotate_left
    · rw [cnE]; exact cr0
    · rw [cnE]; exact cc0
    rw [cnR]
    rw [recount_ok (a := l.root) (b := p) (x := l.size) (y := r.size + 1 + c.size) s1.2 (trp.root_le tl) p1.2 lfs rts ?_ ?_, Option.bind_some, w, cnR]
    all_goals rw [cnE]
    · exact (upd_ne _ _ rl.2).trans cl0
    · exact upd_eq _ _ _
  · refine (trp_plug _ _).mpr ⟨?_, ?_⟩
    · refine setHole_trk hk (by grind) (fun x hx => ⟨q4 x (hkk x hx).1 (hkk x hx).2.1 (hkk x hx).2.2 (hroot x (hkk x hx).1 (hnrk x hx)), ?_, ?_⟩) rfl
      · exact upd_ne _ _ (hkk x hx).2.2
      · exact upd_ne _ _ (hkk x hx).2.1
    · rw [← parE par1 (upd (upd T.2.2.2.2.2.1 p (nI (r.size + 1 + c.size))) s (nI (l.size + 1 + (r.size + 1 + c.size))))] at q1 q2 q3 q4
      refine ⟨s1, q1, lfs, rts, trp.congr tl (fun x hx => ⟨q4 x (hl x hx).1 (hl x hx).2.1 (hl x hx).2.2.1 (hroot x (hl x hx).1 (hnrl x hx)), (at9 (hl x hx).2.2.2).1.trans (upd_ne _ _ (hl x hx).2.2.1), (at9 (hl x hx).2.2.2).2.trans (upd_ne _ _ (hl x hx).2.1)⟩), p1, q2, lfp, rtp, trp.move tr (by grind) (fun x hx => ⟨(at9 (hrr x hx).2.2.2).1.trans (upd_ne _ _ (hrr x hx).2.2.1), (at9 (hrr x hx).2.2.2).2.trans (upd_ne _ _ (hrr x hx).2.1), fun hne => q4 x (hrr x hx).1 (hrr x hx).2.1 (hrr x hx).2.2.1 hne⟩) q3, trp.congr tc (fun x hx => ⟨q4 x (hcc x hx).1 (hcc x hx).2.1 (hcc x hx).2.2.1 (hroot x (hcc x hx).1 (hnrc x hx)), (at9 (hcc x hx).2.2.2).1.trans (upd_ne _ _ (hcc x hx).2.2.1), (at9 (hcc x hx).2.2.2).2.trans (upd_ne _ _ (hcc x hx).2.1)⟩)⟩
  · refine (tct_plug _ _).mpr ⟨?_, ?_⟩
    · have e : (Tr.node l s (Tr.node r p c)).size = (Tr.node l s r).size + 1 + c.size := by simp only [Tr.size_node]; omega
      rw [e]
      exact ck.congr (fun x hx => by rw [cnE]; exact (upd_ne _ _ (hkk x hx).2.1).trans (upd_ne _ _ (hkk x hx).2.2))
    · refine ⟨?_, tct.congr cl (fun x hx => by rw [cnE]; exact (upd_ne _ _ (hl x hx).2.1).trans (upd_ne _ _ (hl x hx).2.2.1)), ?_, tct.congr cr (fun x hx => by rw [cnE]; exact (upd_ne _ _ (hrr x hx).2.1).trans (upd_ne _ _ (hrr x hx).2.2.1)), tct.congr cc (fun x hx => by rw [cnE]; exact (upd_ne _ _ (hcc x hx).2.1).trans (upd_ne _ _ (hcc x hx).2.2.1))⟩
      · rw [cnE]; exact upd_eq _ _ _
      · rw [cnE]; exact (upd_ne _ _ (Ne.symm hsp)).trans (upd_eq _ _ _)
  · intro x h1 h24 hx
    rw [hmem] at hx
    have hx2 := hx
    rw [(plug_perm _ _).mem_iff] at hx
    simp only [Tr.slots_node, kslots, List.mem_append, List.mem_cons] at hx
    rw [cnE]
    exact ((upd_ne _ _ (by grind)).trans (upd_ne _ _ (by grind))).trans (hfree x h1 h24 hx2)
  · rw [cnE]
    exact ((upd_ne _ _ (by omega)).trans (upd_ne _ _ (by omega))).trans h0
theorem rot_false {T : TreeS} {l r c : Tr} {s p : Nat} {k : List Fr} (h : TB T (plug (Tr.node l s r) ((false, p, c) :: k))) {par1 : Nat → Int32} (q1 : par1 s = nI (parOf k)) (q2 : par1 p = nI s) (q3 : l ≠ Tr.nil → par1 l.root = nI p) (q4 : ∀ x, 1 ≤ x → x ≠ s → x ≠ p → x ≠ l.root → par1 x = T.par x) : f_X4_rotate_c142 (setHole (T.1, T.2.1, par1, upd T.2.2.2.1 s (nI p), upd T.2.2.2.2.1 p (nI l.root), T.2.2.2.2.2.1, T.2.2.2.2.2.2) k s) (nI s) (nI p) = some (setHole (T.1, T.2.1, par1, upd T.2.2.2.1 s (nI p), upd T.2.2.2.2.1 p (nI l.root), (upd (upd T.2.2.2.2.2.1 p (nI (c.size + 1 + l.size))) s (nI (c.size + 1 + l.size + 1 + r.size))), T.2.2.2.2.2.2) k s) ∧ TB (setHole (T.1, T.2.1, par1, upd T.2.2.2.1 s (nI p), upd T.2.2.2.2.1 p (nI l.root), (upd (upd T.2.2.2.2.2.1 p (nI (c.size + 1 + l.size))) s (nI (c.size + 1 + l.size + 1 + r.size))), T.2.2.2.2.2.2) k s) (plug (Tr.node (Tr.node c p l) s r) k) := by
  obtain ⟨hr, hc, hnd, hfree, h0⟩ := h
  obtain ⟨⟨p1, pp, pl, pr, tc, hk⟩, s1, sp, sl, sr, tl, tr⟩ := (trp_plug _ _).mp hr
  obtain ⟨⟨cp, cc, ck⟩, cs, cl, cr⟩ := (tct_plug _ _).mp hc
  have hn2 := (plug_perm _ _).nodup_iff.mp hnd
  have hmem : ∀ x, x ∈ (plug (Tr.node (Tr.node c p l) s r) k).slots ↔ x ∈ (plug (Tr.node l s r) ((false, p, c) :: k)).slots := fun x => by
    rw [(plug_perm _ _).mem_iff, (plug_perm _ _).mem_iff]
    simp only [Tr.slots_node, kslots, List.mem_append, List.mem_cons]
    grind
  have hnn : (plug (Tr.node (Tr.node c p l) s r) k).slots.Nodup := by
    rw [(plug_perm _ _).nodup_iff]
    simp only [Tr.slots_node, kslots, List.nodup_append, List.nodup_cons, List.mem_append, List.mem_cons] at hn2 ⊢
    grind
  simp only [Tr.slots_node, kslots, List.nodup_append, List.nodup_cons, List.mem_append, List.mem_cons] at hn2
  have hsp : s ≠ p := by grind
  have hsk : s ∉ kslots k := by grind
  have hpk : p ∉ kslots k := by grind
  have hl : ∀ x ∈ l.slots, 1 ≤ x ∧ x ≠ s ∧ x ≠ p ∧ x ∉ kslots k := fun x hx => ⟨(trp.mem (T := T) (t := l) (p := s) tl x hx).1, by grind, by grind, by grind⟩
  have hrr : ∀ x ∈ r.slots, 1 ≤ x ∧ x ≠ s ∧ x ≠ p ∧ x ∉ kslots k := fun x hx => ⟨(trp.mem (T := T) (t := r) (p := s) tr x hx).1, by grind, by grind, by grind⟩
  have hcc : ∀ x ∈ c.slots, 1 ≤ x ∧ x ≠ s ∧ x ≠ p ∧ x ∉ kslots k := fun x hx => ⟨(tc.mem x hx).1, by grind, by grind, by grind⟩
  have hkk : ∀ x ∈ kslots k, 1 ≤ x ∧ x ≠ s ∧ x ≠ p := fun x hx => ⟨(hk.mem x hx).1, by grind, by grind⟩
  have hroot : ∀ x, 1 ≤ x → x ∉ l.slots → x ≠ l.root := fun x h1 hx e => by
    cases l using Tr.cas with
    | nil => rw [Tr.root_nil] at e; omega
    | node a z d => rw [Tr.root_node] at e; exact hx (by simp [Tr.slots_node, e])
  have hrm : ∀ x, x ≠ l.root ∨ x ∈ l.slots ∨ x = 0 := fun x => by
    cases l using Tr.cas with
    | nil => rw [Tr.root_nil]; omega
    | node a z d => rw [Tr.root_node, Tr.slots_node]; by_cases e : x = z <;> simp [e]
  have hnrr : ∀ x ∈ r.slots, x ∉ l.slots := fun x hx hx2 => by grind
  have hnrc : ∀ x ∈ c.slots, x ∉ l.slots := fun x hx hx2 => by grind
  have hnrk : ∀ x ∈ kslots k, x ∉ l.slots := fun x hx hx2 => by grind
  have at9 : ∀ {x : Nat} {pf cf : Nat → Int32}, x ∉ kslots k → (setHole (T.1, T.2.1, pf, upd T.2.2.2.1 s (nI p), upd T.2.2.2.2.1 p (nI l.root), cf, T.2.2.2.2.2.2) k s).lf x = (upd T.2.2.2.1 s (nI p)) x ∧ (setHole (T.1, T.2.1, pf, upd T.2.2.2.1 s (nI p), upd T.2.2.2.2.1 p (nI l.root), cf, T.2.2.2.2.2.2) k s).rt x = (upd T.2.2.2.2.1 p (nI l.root)) x := fun hx => setHole_at _ k s hx
  have lfs : ∀ {pf cf : Nat → Int32}, (setHole (T.1, T.2.1, pf, upd T.2.2.2.1 s (nI p), upd T.2.2.2.2.1 p (nI l.root), cf, T.2.2.2.2.2.2) k s).lf s = nI (p) := fun {pf cf} => ((at9 (pf := pf) (cf := cf) hsk).1).trans (upd_eq _ _ _)
  have rts : ∀ {pf cf : Nat → Int32}, (setHole (T.1, T.2.1, pf, upd T.2.2.2.1 s (nI p), upd T.2.2.2.2.1 p (nI l.root), cf, T.2.2.2.2.2.2) k s).rt s = nI (r.root) := fun {pf cf} => ((at9 (pf := pf) (cf := cf) hsk).2).trans ((upd_ne _ _ hsp).trans sr)
  have lfp : ∀ {pf cf : Nat → Int32}, (setHole (T.1, T.2.1, pf, upd T.2.2.2.1 s (nI p), upd T.2.2.2.2.1 p (nI l.root), cf, T.2.2.2.2.2.2) k s).lf p = nI (c.root) := fun {pf cf} => ((at9 (pf := pf) (cf := cf) hpk).1).trans ((upd_ne _ _ (Ne.symm hsp)).trans pl)
  have rtp : ∀ {pf cf : Nat → Int32}, (setHole (T.1, T.2.1, pf, upd T.2.2.2.1 s (nI p), upd T.2.2.2.2.1 p (nI l.root), cf, T.2.2.2.2.2.2) k s).rt p = nI (l.root) := fun {pf cf} => ((at9 (pf := pf) (cf := cf) hpk).2).trans (upd_eq _ _ _)
  have e0 : T.cn 0 = nI 0 := h0
  have cr0 : T.cn l.root = nI l.size := tct.root cl h0
  have cc0 : T.cn c.root = nI c.size := tct.root cc h0
  have cl0 : T.cn r.root = nI r.size := tct.root cr h0
  have rp : ∀ x, x ∈ l.slots ∨ x ∈ r.slots ∨ x ∈ c.slots ∨ x = 0 → x ≠ s ∧ x ≠ p := fun x hx => by
    rcases hx with hx | hx | hx | rfl
    · exact ⟨(hl x hx).2.1, (hl x hx).2.2.1⟩
    · exact ⟨(hrr x hx).2.1, (hrr x hx).2.2.1⟩
    · exact ⟨(hcc x hx).2.1, (hcc x hx).2.2.1⟩
    · exact ⟨by omega, by omega⟩
  have rm : ∀ t : Tr, t.root ∈ t.slots ∨ t.root = 0 := fun t => by
    cases t using Tr.cas with
    | nil => exact Or.inr rfl
    | node a z d => exact Or.inl (by simp [Tr.slots_node, Tr.root_node])
  have rl : l.root ≠ s ∧ l.root ≠ p := rp _ (by rcases rm l with h | h <;> simp [h])
  have rr : r.root ≠ s ∧ r.root ≠ p := rp _ (by rcases rm r with h | h <;> simp [h])
  have rc : c.root ≠ s ∧ c.root ≠ p := rp _ (by rcases rm c with h | h <;> simp [h])
  have w : ∀ (pf cf cf2 : Nat → Int32), ((setHole (T.1, T.2.1, pf, upd T.2.2.2.1 s (nI p), upd T.2.2.2.2.1 p (nI l.root), cf, T.2.2.2.2.2.2) k s).1, (setHole (T.1, T.2.1, pf, upd T.2.2.2.1 s (nI p), upd T.2.2.2.2.1 p (nI l.root), cf, T.2.2.2.2.2.2) k s).2.1, (setHole (T.1, T.2.1, pf, upd T.2.2.2.1 s (nI p), upd T.2.2.2.2.1 p (nI l.root), cf, T.2.2.2.2.2.2) k s).2.2.1, (setHole (T.1, T.2.1, pf, upd T.2.2.2.1 s (nI p), upd T.2.2.2.2.1 p (nI l.root), cf, T.2.2.2.2.2.2) k s).2.2.2.1, (setHole (T.1, T.2.1, pf, upd T.2.2.2.1 s (nI p), upd T.2.2.2.2.1 p (nI l.root), cf, T.2.2.2.2.2.2) k s).2.2.2.2.1, cf2, (setHole (T.1, T.2.1, pf, upd T.2.2.2.1 s (nI p), upd T.2.2.2.2.1 p (nI l.root), cf, T.2.2.2.2.2.2) k s).2.2.2.2.2.2) = setHole (T.1, T.2.1, pf, upd T.2.2.2.1 s (nI p), upd T.2.2.2.2.1 p (nI l.root), cf2, T.2.2.2.2.2.2) k s := fun pf cf cf2 => by
    match k with
    | [] => rfl
    | (true, q, d) :: k => rfl
    | (false, q, d) :: k => rfl
  have cnE : ∀ (pf cf : Nat → Int32), (setHole (T.1, T.2.1, pf, upd T.2.2.2.1 s (nI p), upd T.2.2.2.2.1 p (nI l.root), cf, T.2.2.2.2.2.2) k s).cn = cf := fun pf cf => (setHole_key _ k s).2.2.2
  have cnR : ∀ (pf cf : Nat → Int32), (setHole (T.1, T.2.1, pf, upd T.2.2.2.1 s (nI p), upd T.2.2.2.2.1 p (nI l.root), cf, T.2.2.2.2.2.2) k s).2.2.2.2.2.1 = cf := fun pf cf => (setHole_key _ k s).2.2.2
  have parE : ∀ (pf cf : Nat → Int32), (setHole (T.1, T.2.1, pf, upd T.2.2.2.1 s (nI p), upd T.2.2.2.2.1 p (nI l.root), cf, T.2.2.2.2.2.2) k s).par = pf := fun pf cf => (setHole_key _ k s).2.2.1
  refine ⟨?_, ?_, ?_, hnn, ?_, ?_⟩
  · unfold f_X4_rotate_c142
    rw [recount_ok (a := c.root) (b := l.root) (x := c.size) (y := l.size) p1.2 (trp.root_le tc) (trp.root_le tl) lfp rtp ?_ ?_, Option.bind_some, w]
    rotate_left
    · rw [cnE]; exact cc0
    · rw [cnE]; exact cr0
    rw [cnR]
    rw [recount_ok (a := p) (b := r.root) (x := c.size + 1 + l.size) (y := r.size) s1.2 p1.2 (trp.root_le tr) lfs rts ?_ ?_, Option.bind_some, w, cnR]
    all_goals rw [cnE]
    · exact upd_eq _ _ _
    · exact (upd_ne _ _ rr.2).trans cl0
  · refine (trp_plug _ _).mpr ⟨?_, ?_⟩
    · refine setHole_trk hk (by grind) (fun x hx => ⟨q4 x (hkk x hx).1 (hkk x hx).2.1 (hkk x hx).2.2 (hroot x (hkk x hx).1 (hnrk x hx)), ?_, ?_⟩) rfl
      · exact upd_ne _ _ (hkk x hx).2.1
      · exact upd_ne _ _ (hkk x hx).2.2
    · rw [← parE par1 (upd (upd T.2.2.2.2.2.1 p (nI (c.size + 1 + l.size))) s (nI (c.size + 1 + l.size + 1 + r.size)))] at q1 q2 q3 q4
      refine ⟨s1, q1, lfs, rts, ⟨p1, q2, lfp, rtp, trp.congr tc (fun x hx => ⟨q4 x (hcc x hx).1 (hcc x hx).2.1 (hcc x hx).2.2.1 (hroot x (hcc x hx).1 (hnrc x hx)), (at9 (hcc x hx).2.2.2).1.trans (upd_ne _ _ (hcc x hx).2.1), (at9 (hcc x hx).2.2.2).2.trans (upd_ne _ _ (hcc x hx).2.2.1)⟩), trp.move tl (by grind) (fun x hx => ⟨(at9 (hl x hx).2.2.2).1.trans (upd_ne _ _ (hl x hx).2.1), (at9 (hl x hx).2.2.2).2.trans (upd_ne _ _ (hl x hx).2.2.1), fun hne => q4 x (hl x hx).1 (hl x hx).2.1 (hl x hx).2.2.1 hne⟩) q3⟩, trp.congr tr (fun x hx => ⟨q4 x (hrr x hx).1 (hrr x hx).2.1 (hrr x hx).2.2.1 (hroot x (hrr x hx).1 (hnrr x hx)), (at9 (hrr x hx).2.2.2).1.trans (upd_ne _ _ (hrr x hx).2.1), (at9 (hrr x hx).2.2.2).2.trans (upd_ne _ _ (hrr x hx).2.2.1)⟩)⟩
  · refine (tct_plug _ _).mpr ⟨?_, ?_⟩
    · have e : (Tr.node (Tr.node c p l) s r).size = (Tr.node l s r).size + 1 + c.size := by simp only [Tr.size_node]; omega
      rw [e]
      exact ck.congr (fun x hx => by rw [cnE]; exact (upd_ne _ _ (hkk x hx).2.1).trans (upd_ne _ _ (hkk x hx).2.2))
    · refine ⟨?_, ⟨?_, tct.congr cc (fun x hx => by rw [cnE]; exact (upd_ne _ _ (hcc x hx).2.1).trans (upd_ne _ _ (hcc x hx).2.2.1)), tct.congr cl (fun x hx => by rw [cnE]; exact (upd_ne _ _ (hl x hx).2.1).trans (upd_ne _ _ (hl x hx).2.2.1))⟩, tct.congr cr (fun x hx => by rw [cnE]; exact (upd_ne _ _ (hrr x hx).2.1).trans (upd_ne _ _ (hrr x hx).2.2.1))⟩
      · rw [cnE]; exact upd_eq _ _ _
      · rw [cnE]; exact (upd_ne _ _ (Ne.symm hsp)).trans (upd_eq _ _ _)
  · intro x h1 h24 hx
    rw [hmem] at hx
    have hx2 := hx
    rw [(plug_perm _ _).mem_iff] at hx
    simp only [Tr.slots_node, kslots, List.mem_append, List.mem_cons] at hx
    rw [cnE]
    exact ((upd_ne _ _ (by grind)).trans (upd_ne _ _ (by grind))).trans (hfree x h1 h24 hx2)
  · rw [cnE]
    exact ((upd_ne _ _ (by omega)).trans (upd_ne _ _ (by omega))).trans h0
