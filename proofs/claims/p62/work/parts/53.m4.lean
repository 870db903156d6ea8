/-! ===== mathematics, 4: rotate, belongsAbove, upperChild ===== -/
theorem setHole_with (T1 : TreeS) (k : List Fr) (h : Nat) (pf : Nat → Int32) : ((setHole T1 k h).1, (setHole T1 k h).2.1, pf, (setHole T1 k h).2.2.2.1, (setHole T1 k h).2.2.2.2.1, (setHole T1 k h).2.2.2.2.2.1, (setHole T1 k h).2.2.2.2.2.2) = setHole (T1.1, T1.2.1, pf, T1.2.2.2.1, T1.2.2.2.2.1, T1.2.2.2.2.2.1, T1.2.2.2.2.2.2) k h := by
  match k with
  | [] => rfl
  | (true, q, d) :: k => rfl
  | (false, q, d) :: k => rfl
theorem TB.parts {T : TreeS} {u : Tr} {k : List Fr} (h : TB T (plug u k)) : (trk T u.root k ∧ trp T (parOf k) u) ∧ (tck T u.size k ∧ tct T u) ∧ (u.slots ++ kslots k).Nodup := ⟨(trp_plug _ _).mp h.1, (tct_plug _ _).mp h.2.1, (plug_perm _ _).nodup_iff.mp h.2.2.1⟩
theorem rotate_true_ok {T : TreeS} {l r c : Tr} {s p : Nat} {k : List Fr} (h : TB T (plug (Tr.node l s r) ((true, p, c) :: k))) : ∃ T', f_X4_rotate T (nI s) = some T' ∧ TB T' (plug (Tr.node l s (Tr.node r p c)) k) ∧ T'.1 = T.1 ∧ T'.2.1 = T.2.1 := by
  obtain ⟨⟨⟨p1, pp, pl, pr, tc, hk⟩, s1, sp, sl, sr, tl, tr⟩, -, hn2⟩ := h.parts
  replace sp : T.2.2.1 s = nI p := sp
  replace pl : T.2.2.2.1 p = nI s := pl
  replace pp : T.2.2.1 p = nI (parOf k) := pp
  replace sr : T.2.2.2.2.1 s = nI r.root := sr
  replace tr : trp T s r := tr
  simp only [Tr.slots_node, kslots, List.nodup_append, List.nodup_cons, List.mem_append, List.mem_cons] at hn2
  have hsp : s ≠ p := by grind
  have hpk : p ∉ kslots k := by grind
  have hsk : s ∉ kslots k := by grind
  have hrs : ∀ x ∈ r.slots, x ≠ s ∧ x ≠ p := fun x hx => ⟨by grind, by grind⟩
  have hg := hk.par_le
  have rr := trp.root_le tr
  have hrr : r ≠ Tr.nil → r.root ≠ s ∧ r.root ≠ p := fun hne => by
    cases r using Tr.cas with
    | nil => exact absurd rfl hne
    | node a z d => exact hrs z (by simp [Tr.slots_node])
  have hkk : ∀ x ∈ kslots k, x ≠ p := fun x hx => by rintro rfl; exact hpk hx
  have e1 := replaceChild_ok (T := T) (T1 := (T.1, T.2.1, T.2.2.1, upd T.2.2.2.1 p (nI r.root), upd T.2.2.2.2.1 s (nI p), T.2.2.2.2.2.1, T.2.2.2.2.2.2)) (k := k) (h := p) (h1 := s) hk (by omega) p1.2 hpk (fun x hx => upd_ne _ _ (hkk x hx))
  unfold f_X4_rotate
  rw [rd25 s1.2, sp, rd25 p1.2, pl, if_pos rfl, rd25 p1.2, pp]
  unfold f_X4_rotate_c35
  rw [if_neg (by decide), rd25 s1.2, sr, wr25 p1.2, wr25 s1.2, e1, Option.bind_some]
  obtain ⟨z1, z2, z3, z4⟩ := setHole_key (T.1, T.2.1, T.2.2.1, upd T.2.2.2.1 p (nI r.root), upd T.2.2.2.2.1 s (nI p), T.2.2.2.2.2.1, T.2.2.2.2.2.2) k s
  rw [z3, wr25 s1.2, wr25 p1.2, wr25 rr]
  by_cases hnil : r = Tr.nil
  · rw [if_pos (by rw [hnil]; rfl)]
    rw [setHole_with]
    obtain ⟨g1, g2⟩ := rot_true h (par1 := upd (upd T.2.2.1 s (nI (parOf k))) p (nI s)) ((upd_ne _ _ hsp).trans (upd_eq _ _ _)) (upd_eq _ _ _) (fun h => absurd hnil h) (fun x _ h1 h2 _ => (upd_ne _ _ h2).trans (upd_ne _ _ h1))
    exact ⟨_, g1, g2, (setHole_key _ _ _).1, (setHole_key _ _ _).2.1⟩
  · rw [if_neg (fun e => hnil ((trp.root_pos tr).mp ((nI_zero (by omega)).mp e)))]
    rw [setHole_with]
    obtain ⟨h1, h2⟩ := hrr hnil
    obtain ⟨g1, g2⟩ := rot_true h (par1 := upd (upd (upd T.2.2.1 s (nI (parOf k))) p (nI s)) r.root (nI p)) (((upd_ne _ _ (Ne.symm h1)).trans (upd_ne _ _ hsp)).trans (upd_eq _ _ _)) ((upd_ne _ _ (Ne.symm h2)).trans (upd_eq _ _ _)) (fun _ => upd_eq _ _ _) (fun x _ h1 h2 h3 => ((upd_ne _ _ h3).trans (upd_ne _ _ h2)).trans (upd_ne _ _ h1))
    exact ⟨_, g1, g2, (setHole_key _ _ _).1, (setHole_key _ _ _).2.1⟩
theorem rotate_false_ok {T : TreeS} {l r c : Tr} {s p : Nat} {k : List Fr} (h : TB T (plug (Tr.node l s r) ((false, p, c) :: k))) : ∃ T', f_X4_rotate T (nI s) = some T' ∧ TB T' (plug (Tr.node (Tr.node c p l) s r) k) ∧ T'.1 = T.1 ∧ T'.2.1 = T.2.1 := by
  obtain ⟨⟨⟨p1, pp, pl, pr, tc, hk⟩, s1, sp, sl, sr, tl, tr⟩, -, hn2⟩ := h.parts
  replace sp : T.2.2.1 s = nI p := sp
  replace pl : T.2.2.2.1 p = nI c.root := pl
  replace pp : T.2.2.1 p = nI (parOf k) := pp
  replace sl : T.2.2.2.1 s = nI l.root := sl
  replace tl : trp T s l := tl
  simp only [Tr.slots_node, kslots, List.nodup_append, List.nodup_cons, List.mem_append, List.mem_cons] at hn2
  have hsp : s ≠ p := by grind
  have hpk : p ∉ kslots k := by grind
  have hsk : s ∉ kslots k := by grind
  have hls : ∀ x ∈ l.slots, x ≠ s ∧ x ≠ p := fun x hx => ⟨by grind, by grind⟩
  have hcs : ∀ x ∈ c.slots, x ≠ s := fun x hx => by grind
  have hg := hk.par_le
  have rr := trp.root_le tl
  have hrr : l ≠ Tr.nil → l.root ≠ s ∧ l.root ≠ p := fun hne => by
    cases l using Tr.cas with
    | nil => exact absurd rfl hne
    | node a z d => exact hls z (by simp [Tr.slots_node])
  have hcr : ¬ nI c.root = nI s := fun e => by
    have e2 := nI_inj (by have := trp.root_le tc; omega) (by omega) e
    cases c using Tr.cas with
    | nil => rw [Tr.root_nil] at e2; omega
    | node a z d => exact hcs z (by simp [Tr.slots_node]) e2
  have hkk : ∀ x ∈ kslots k, x ≠ s := fun x hx => by rintro rfl; exact hsk hx
  have e1 := replaceChild_ok (T := T) (T1 := (T.1, T.2.1, T.2.2.1, upd T.2.2.2.1 s (nI p), upd T.2.2.2.2.1 p (nI l.root), T.2.2.2.2.2.1, T.2.2.2.2.2.2)) (k := k) (h := p) (h1 := s) hk (by omega) p1.2 hpk (fun x hx => upd_ne _ _ (hkk x hx))
  unfold f_X4_rotate
  rw [rd25 s1.2, sp, rd25 p1.2, pl, if_neg hcr, rd25 p1.2, pp]
  unfold f_X4_rotate_c35
  rw [if_pos rfl, rd25 s1.2, sl, wr25 p1.2, wr25 s1.2, e1, Option.bind_some]
  obtain ⟨z1, z2, z3, z4⟩ := setHole_key (T.1, T.2.1, T.2.2.1, upd T.2.2.2.1 s (nI p), upd T.2.2.2.2.1 p (nI l.root), T.2.2.2.2.2.1, T.2.2.2.2.2.2) k s
  rw [z3, wr25 s1.2, wr25 p1.2, wr25 rr]
  by_cases hnil : l = Tr.nil
  · rw [if_pos (by rw [hnil]; rfl)]
    rw [setHole_with]
    obtain ⟨g1, g2⟩ := rot_false h (par1 := upd (upd T.2.2.1 s (nI (parOf k))) p (nI s)) ((upd_ne _ _ hsp).trans (upd_eq _ _ _)) (upd_eq _ _ _) (fun h => absurd hnil h) (fun x _ h1 h2 _ => (upd_ne _ _ h2).trans (upd_ne _ _ h1))
    exact ⟨_, g1, g2, (setHole_key _ _ _).1, (setHole_key _ _ _).2.1⟩
  · rw [if_neg (fun e => hnil ((trp.root_pos tl).mp ((nI_zero (by omega)).mp e)))]
    rw [setHole_with]
    obtain ⟨h1, h2⟩ := hrr hnil
    obtain ⟨g1, g2⟩ := rot_false h (par1 := upd (upd (upd T.2.2.1 s (nI (parOf k))) p (nI s)) l.root (nI p)) (((upd_ne _ _ (Ne.symm h1)).trans (upd_ne _ _ hsp)).trans (upd_eq _ _ _)) ((upd_ne _ _ (Ne.symm h2)).trans (upd_eq _ _ _)) (fun _ => upd_eq _ _ _) (fun x _ h1 h2 h3 => ((upd_ne _ _ h3).trans (upd_ne _ _ h2)).trans (upd_ne _ _ h1))
    exact ⟨_, g1, g2, (setHole_key _ _ _).1, (setHole_key _ _ _).2.1⟩
/-- a belongs above b -/
abbrev abv (T : TreeS) (a b : Nat) : Prop := T.2.1 b < T.2.1 a ∨ (T.2.1 a = T.2.1 b ∧ T.1 a < T.1 b)
theorem belongsAbove_ok {T : TreeS} {a b : Nat} (ha : a ≤ 24) (hb : b ≤ 24) : f_X4_belongsAbove T (nI a) (nI b) = some (if abv T a b then 1 else 0) := by
  unfold f_X4_belongsAbove
  rw [rd25 (f := T.2.1) ha, rd25 (f := T.2.1) hb, rd25 (f := T.1) ha, rd25 (f := T.1) hb]
  by_cases h1 : T.2.1 b < T.2.1 a
  · rw [if_pos h1, if_pos (Or.inl h1)]
  · rw [if_neg h1]
    by_cases h2 : T.2.1 a = T.2.1 b
    · rw [if_pos h2]
      by_cases h3 : T.1 b ≤ T.1 a
      · rw [if_pos h3, if_neg]
        rintro (h | ⟨-, h⟩)
        · exact h1 h
        · exact absurd h (Int32.not_lt.mpr h3)
      · rw [if_neg h3, if_pos (Or.inr ⟨h2, Int32.not_le.mp h3⟩)]
    · rw [if_neg h2, if_neg]
      rintro (h | ⟨h, -⟩)
      · exact h1 h
      · exact h2 h
theorem abv_trans {T : TreeS} {a b c : Nat} (h1 : abv T a b) (h2 : abv T b c) : abv T a c := by
  simp only [abv, Int32.lt_iff_toInt_lt, ← Int32.toInt_inj] at *
  omega
theorem abv_asymm {T : TreeS} {a b : Nat} (h1 : abv T a b) (h2 : abv T b a) : False := by
  simp only [abv, Int32.lt_iff_toInt_lt, ← Int32.toInt_inj] at *
  omega
theorem abv_total {T : TreeS} {a b : Nat} (hk : T.1 a ≠ T.1 b) (h : ¬ abv T a b) : abv T b a := by
  simp only [abv, Int32.lt_iff_toInt_lt, ne_eq, ← Int32.toInt_inj] at *
  omega
theorem abv_congr {T T' : TreeS} (h1 : T'.1 = T.1) (h2 : T'.2.1 = T.2.1) (a b : Nat) : abv T' a b ↔ abv T a b := by
  unfold abv
  rw [h1, h2]
/-- the child that goes up -/
def upc (T : TreeS) (l r : Tr) : Nat := if l.root = 0 then r.root else if r.root = 0 then l.root else if abv T l.root r.root then l.root else r.root
theorem upperChild_ok {T : TreeS} {l r : Tr} {s p : Nat} (h : trp T p (Tr.node l s r)) : f_X4_upperChild T (nI s) = some (nI (upc T l r)) := by
  obtain ⟨s1, sp, sl, sr, tl, tr⟩ := h
  replace sl : T.2.2.2.1 s = nI l.root := sl
  replace sr : T.2.2.2.2.1 s = nI r.root := sr
  have hl := trp.root_le (T := T) (t := l) (p := s) tl
  have hr := trp.root_le (T := T) (t := r) (p := s) tr
  unfold f_X4_upperChild f_X4_upperChild_c26 upc
  rw [rd25 s1.2, rd25 s1.2, sl, sr, belongsAbove_ok hl hr]
  by_cases h1 : l.root = 0
  · rw [if_pos h1, h1, if_pos (show nI 0 = 0 from rfl), if_pos (show nI 0 = 0 from rfl)]
  · rw [if_neg h1, if_neg (nI_ne0 (by omega) (by omega))]
    by_cases h2 : r.root = 0
    · rw [if_pos h2, h2, if_pos (show nI 0 = 0 from rfl), if_neg (nI_ne0 (by omega) (by omega))]
    · rw [if_neg h2, if_neg (nI_ne0 (by omega) (by omega))]
      by_cases h3 : abv T l.root r.root
      · rw [if_pos h3, if_pos h3]; rfl
      · rw [if_neg h3, if_neg h3]; rfl
