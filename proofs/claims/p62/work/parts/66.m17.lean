/-! ===== mathematics, 17: windows ===== -/
theorem rdW {f : Nat → Int32} {w : Nat} (h : w < 4) : pq_rd 4 f (nI w) = f w := rdn h (by decide)
theorem wrW {f : Nat → Int32} {w : Nat} {v : Int32} (h : w < 4) : pq_wr 4 f (nI w) v = upd f w v := wrn h (by decide)
/-- 1 if a point is in a window's ranges -/
abbrev wB (lo hi p k q : Int32) : Nat := if lo ≤ k ∧ k ≤ hi then (if p ≤ q then 1 else 0) else 0
theorem wB_le (lo hi p k q : Int32) : wB lo hi p k q ≤ 1 := by unfold wB; split; split <;> omega; omega
def WR1 (W : WinS) (a : Nat → Int32) (w : Nat) : Prop := (W.2.2.2 w = 0 ∧ a (50 + 5 * w) = 0) ∨ ∃ lo hi p li : Nat, lo ≤ hi ∧ hi ≤ 99 ∧ p ≤ 99 ∧ 1 ≤ li ∧ li ≤ 24 ∧ W.1 w = nI lo ∧ W.2.1 w = nI hi ∧ W.2.2.1 w = nI p ∧ W.2.2.2 w = nI li ∧ a (50 + 5 * w) = 1 ∧ a (50 + 5 * w + 1) = nI lo ∧ a (50 + 5 * w + 2) = nI hi ∧ a (50 + 5 * w + 3) = nI p ∧ a (50 + 5 * w + 4) = nI li
def WR (W : WinS) (a : Nat → Int32) : Prop := ∀ w, w < 4 → WR1 W a w
/-- the number of points in a window -/
def wc (W : WinS) (T : TreeS) (L : List Nat) (w : Nat) : Nat := sumL (wA T (W.1 w) (W.2.1 w) (W.2.2.1 w)) L
theorem wc_le {W : WinS} {T : TreeS} {L : List Nat} {w : Nat} : wc W T L w ≤ L.length := by
  have := sumL_le (B := 1) (w := wA T (W.1 w) (W.2.1 w) (W.2.2.1 w)) (L := L) (fun x _ => wB_le _ _ _ _ _)
  rw [wc]; omega
theorem countInWindow_ok {D : DataS} {t : Tr} (h : WF D.1 t) {w : Nat} (hw : w < 4) : f_X1_countInWindow D (nI w) = some (nI (wc D.2.1 D.1 t.slots w)) := by
  unfold f_X1_countInWindow
  rw [rdW hw, rdW hw, rdW hw, scanAbove_ok h.1]; rfl
theorem covers_ok {W : WinS} {w : Nat} (hw : w < 4) (k q : Int32) : f_X5_covers W (nI w) k q = some (nI (wB (W.1 w) (W.2.1 w) (W.2.2.1 w) k q)) := by
  unfold f_X5_covers wB
  rw [rdW hw, rdW hw, rdW hw]
  by_cases e1 : k < W.1 w
  · rw [if_pos e1, if_neg (fun h9 => Int32.not_le.mpr e1 h9.1)]; rfl
  · rw [if_neg e1]
    by_cases e2 : W.2.1 w < k
    · rw [if_pos e2, if_neg (fun h9 => Int32.not_le.mpr e2 h9.2)]; rfl
    · rw [if_neg e2, if_pos (show W.1 w ≤ k ∧ k ≤ W.2.1 w from ⟨Int32.not_lt.mp e1, Int32.not_lt.mp e2⟩)]
      by_cases e3 : q < W.2.2.1 w
      · rw [if_pos e3, if_neg (c := W.2.2.1 w ≤ q) (Int32.not_le.mpr e3)]; rfl
      · rw [if_neg e3, if_pos (c := W.2.2.1 w ≤ q) (Int32.not_lt.mp e3)]; rfl
theorem w_ok {M : ModS} {w j : Nat} (hw : w < 4) (hj : j < 5) : f_X7_w M (nI w) (nI j) = some (M.2.1 (50 + 5 * w + j)) := by
  unfold f_X7_w
  rw [show (50 + 5 * nI w + nI j) = nI (50 + 5 * w + j) by rw [show (5 : Int32) = nI 5 from rfl, show (50 : Int32) = nI 50 from rfl, nI_mulX, nI_add, nI_add], if_neg (nI_in (by omega) (by decide)), nI_clamp (by omega)]
theorem isOpen_ok {W : WinS} {a : Nat → Int32} {w : Nat} (hw : w < 4) (h : WR1 W a w) : (W.2.2.2 w = 0 ∧ a (50 + 5 * w) = 0 ∧ f_X5_isOpen W (nI w) = some 0) ∨ (W.2.2.2 w ≠ 0 ∧ a (50 + 5 * w) = 1 ∧ f_X5_isOpen W (nI w) = some 1) := by
  rcases h with ⟨h1, h2⟩ | ⟨lo, hi, p, li, g1, g2, g3, g4, g5, g6, g7, g8, g9, g10, -⟩
  · exact Or.inl ⟨h1, h2, by rw [f_X5_isOpen, rdW hw, h1, if_pos (by decide)]⟩
  · exact Or.inr ⟨by rw [g9]; exact nI_ne0 (by omega) (by omega), g10, by rw [f_X5_isOpen, rdW hw, g9, if_neg (nI_nle (by omega) (by omega))]⟩
theorem isWithin_set {M : ModS} {W : WinS} {w : Nat} (hw : w < 4) (h : WR1 W M.2.1 w) (ho : W.2.2.2 w ≠ 0) (k q : Int32) : f_X7_isWithin M (nI w) k q = some (nI (wB (W.1 w) (W.2.1 w) (W.2.2.1 w) k q)) := by
  rcases h with ⟨h1, -⟩ | ⟨lo, hi, p, li, g1, g2, g3, g4, g5, g6, g7, g8, g9, g10, g11, g12, g13, g14⟩
  · exact absurd h1 ho
  · unfold f_X7_isWithin f_X7_in wB
    rw [show (0 : Int32) = nI 0 from rfl, show (1 : Int32) = nI 1 from rfl, show (2 : Int32) = nI 2 from rfl, show (3 : Int32) = nI 3 from rfl, w_ok hw (by omega), w_ok hw (by omega), w_ok hw (by omega), w_ok hw (by omega), Option.bind_some, Nat.add_zero, g10, g11, g12, g13, g6, g7, g8, if_pos (show (1 : Int32) = nI 1 from rfl), Option.bind_some, Option.bind_some]
    by_cases e1 : k < nI lo
    · rw [if_pos e1, if_neg (fun h9 => Int32.not_le.mpr e1 h9.1)]; rfl
    · rw [if_neg e1]
      by_cases e2 : nI hi < k
      · rw [if_pos e2, if_neg (fun h9 => Int32.not_le.mpr e2 h9.2)]; rfl
      · rw [if_neg e2, if_pos (show nI lo ≤ k ∧ k ≤ nI hi from ⟨Int32.not_lt.mp e1, Int32.not_lt.mp e2⟩), Option.bind_some, if_neg (by decide), Option.bind_some]
        by_cases e3 : q < nI p
        · rw [if_pos e3, if_neg (c := nI p ≤ q) (Int32.not_le.mpr e3)]
        · rw [if_neg e3, if_pos (c := nI p ≤ q) (Int32.not_lt.mp e3)]
theorem isWithin_unset {M : ModS} {w : Nat} (hw : w < 4) (h : M.2.1 (50 + 5 * w) = 0) (k q : Int32) : f_X7_isWithin M (nI w) k q = some 0 := by
  unfold f_X7_isWithin
  rw [show (0 : Int32) = nI 0 from rfl, w_ok hw (by omega), Option.bind_some, Nat.add_zero, h, if_neg (by decide)]
theorem inWindow_c4 {M : ModS} {T : TreeS} {L : List Nat} {W : WinS} {w : Nat} (hM : MRL M T L) (h24 : L.length ≤ 24) (hw : w < 4) (h : WR1 W M.2.1 w) (ho : W.2.2.2 w ≠ 0) : ∀ (n i v : Nat), i ≤ L.length → L.length - i < n → f_X7_inWindow_c4 n M (nI w) (nI v) (nI i) = some (nI (v + sumR (fun i => wA T (W.1 w) (W.2.1 w) (W.2.2.1 w) (L.getD i 0)) i (L.length - i)))
  | 0, i, v, _, hn => absurd hn (by omega)
  | n + 1, i, v, hi, hn => by
    rw [f_X7_inWindow_c4, hM.1]
    by_cases e : i = L.length
    · rw [if_pos (nI_le (by omega) (by omega)), e, Nat.sub_self]; rfl
    · have hm := hM.at (i := i) (by omega)
      rw [if_neg (nI_ge (by omega) (by omega)), key_ok (by omega), pri_ok (by omega), Option.bind_some, Option.bind_some, isWithin_set hw h ho, Option.bind_some, nI_1, nI_1, Int32.add_zero, show L.length - i = (L.length - (i + 1)) + 1 by omega, sumR, ← Nat.add_assoc, inWindow_c4 hM h24 hw h ho n (i + 1) v (by omega) (by omega), inWindow_c4 hM h24 hw h ho n (i + 1) (v + 1) (by omega) (by omega)]
      rw [show mK M i = T.1 (L.getD i 0) from hm.1, show mP M i = T.2.1 (L.getD i 0) from hm.2]
      have hle := wB_le (W.1 w) (W.2.1 w) (W.2.2.1 w) (T.1 (L.getD i 0)) (T.2.1 (L.getD i 0))
      by_cases e1 : wB (W.1 w) (W.2.1 w) (W.2.2.1 w) (T.1 (L.getD i 0)) (T.2.1 (L.getD i 0)) = 0
      · rw [if_pos (by rw [e1]; rfl), show wA T (W.1 w) (W.2.1 w) (W.2.2.1 w) (L.getD i 0) = 0 from e1] <;> rfl
      · rw [if_neg (nI_ne0 (by omega) (by omega)), show wA T (W.1 w) (W.2.1 w) (W.2.2.1 w) (L.getD i 0) = 1 by (show wB (W.1 w) (W.2.1 w) (W.2.2.1 w) (T.1 (L.getD i 0)) (T.2.1 (L.getD i 0)) = 1); omega]
theorem inWindow_set {M : ModS} {T : TreeS} {L : List Nat} {W : WinS} {w : Nat} (hM : MRL M T L) (h24 : L.length ≤ 24) (hw : w < 4) (h : WR1 W M.2.1 w) (ho : W.2.2.2 w ≠ 0) : f_X7_inWindow M (nI w) = some (nI (wc W T L w)) := by
  have := inWindow_c4 hM h24 hw h ho 200 0 0 (by omega) (by omega)
  rw [Nat.zero_add, Nat.sub_zero, sum_places] at this
  exact this
/-- the first set window with more points than its limit, -1 without one -/
def ovf (W : WinS) (c : Nat → Nat) : Nat → Nat → Int32
  | 0, _ => -1
  | n + 1, w => if W.2.2.2 w ≠ 0 ∧ W.2.2.2 w < nI (c w) then nI w else ovf W c n (w + 1)
theorem overfull_c2 {M : ModS} {T : TreeS} {L : List Nat} {W : WinS} (hM : MRL M T L) (h24 : L.length ≤ 24) (h : WR W M.2.1) : ∀ (n d w : Nat), w + d = 4 → d < n → f_X7_overfull_c2 n M (nI w) = some (ovf W (wc W T L) d w)
  | 0, d, w, _, hn => absurd hn (by omega)
  | n + 1, d, w, hd, hn => by
    rw [f_X7_overfull_c2]
    by_cases e : w = 4
    · rw [if_pos (show (4 : Int32) ≤ nI w from nI_le (a := 4) (by omega) (by omega)), show d = 0 by omega]; rfl
    · obtain ⟨d, rfl⟩ : ∃ d', d = d' + 1 := ⟨d - 1, by omega⟩
      have hw : w < 4 := by omega
      have h1 := h w hw
      rw [if_neg (show ¬ (4 : Int32) ≤ nI w from nI_ge (b := 4) (by omega) (by omega)), show (0 : Int32) = nI 0 from rfl, w_ok hw (by omega), Option.bind_some, Nat.add_zero, nI_1, ovf, overfull_c2 hM h24 h n d (w + 1) (by omega) (by omega)]
      rcases isOpen_ok hw h1 with ⟨o1, o2, -⟩ | ⟨o1, o2, -⟩
      · rw [o2, if_neg (by decide), if_neg (fun h9 => h9.1 o1)]
      · rw [o2, if_pos rfl, inWindow_set hM h24 hw h1 o1, Option.bind_some, show (4 : Int32) = nI 4 from rfl, w_ok hw (by omega), Option.bind_some]
        rcases h1 with ⟨g1, -⟩ | ⟨lo, hi, p, li, g1, g2, g3, g4, g5, g6, g7, g8, g9, g10, g11, g12, g13, g14⟩
        · exact absurd g1 o1
        · rw [g14, g9]
          by_cases e1 : nI (wc W T L w) ≤ nI li
          · rw [if_pos e1, if_neg (fun h9 => Int32.not_le.mpr h9.2 e1)]
          · rw [if_neg e1, if_pos ⟨nI_ne0 (by omega) (by omega), Int32.not_le.mp e1⟩]
theorem overfullR {M : ModS} {T : TreeS} {L : List Nat} {W : WinS} (hM : MRL M T L) (h24 : L.length ≤ 24) (h : WR W M.2.1) : f_X7_overfull M = some (ovf W (wc W T L) 4 0) :=
  overfull_c2 hM h24 h 200 4 0 rfl (by omega)
theorem ovf_cases (W : WinS) (c : Nat → Nat) : ∀ (d w : Nat), w + d = 4 → (ovf W c d w = -1 ∧ ∀ v, w ≤ v → v < 4 → W.2.2.2 v ≠ 0 → nI (c v) ≤ W.2.2.2 v) ∨ (∃ v, v < 4 ∧ ovf W c d w = nI v ∧ W.2.2.2 v ≠ 0 ∧ W.2.2.2 v < nI (c v))
  | 0, w, hw => Or.inl ⟨rfl, fun v h1 h2 _ => by omega⟩
  | d + 1, w, hw => by
    rw [ovf]
    by_cases e : W.2.2.2 w ≠ 0 ∧ W.2.2.2 w < nI (c w)
    · rw [if_pos e]; exact Or.inr ⟨w, by omega, rfl, e⟩
    · rw [if_neg e]
      rcases ovf_cases W c d (w + 1) (by omega) with ⟨h1, h2⟩ | h1
      · refine Or.inl ⟨h1, fun v v1 v2 v3 => ?_⟩
        by_cases e2 : v = w
        · rw [e2] at v3 ⊢; exact Int32.not_lt.mp (fun h9 => e ⟨v3, h9⟩)
        · exact h2 v (by omega) v2 v3
      · exact Or.inr h1
theorem ovf_none (W : WinS) (c : Nat → Nat) (h : ∀ v, v < 4 → W.2.2.2 v ≠ 0 → nI (c v) ≤ W.2.2.2 v) : ovf W c 4 0 = -1 := by
  rcases ovf_cases W c 4 0 rfl with ⟨h1, -⟩ | ⟨v, v1, -, v3, v4⟩
  · exact h1
  · exact absurd (h v v1 v3) (Int32.not_le.mpr v4)
theorem ovf_congr {W : WinS} {c c' : Nat → Nat} (h : ∀ w, w < 4 → c w = c' w) : ∀ (d w : Nat), w + d = 4 → ovf W c d w = ovf W c' d w
  | 0, _, _ => rfl
  | d + 1, w, hw => by rw [ovf, ovf, h w (by omega), ovf_congr h d (w + 1) (by omega)]
theorem sumL_mem {w : Nat → Nat} {L : List Nat} {x : Nat} (h : x ∈ L) : w x ≤ sumL w L := by
  induction L with
  | nil => cases h
  | cons a L ih =>
    rw [sumL_cons]
    rcases List.mem_cons.mp h with rfl | h
    · omega
    · have := ih h; omega
/-- the class's check before a change: slot r (or none) gives way to a point K, P -/
theorem firstFull_c3 {D : DataS} {t : Tr} {a : Nat → Int32} (h : WF D.1 t) (hW : WR D.2.1 a) {r : Nat} {K P : Int32} (hr : r = 0 ∨ r ∈ t.slots) {c : Nat → Nat} (hc : ∀ w, w < 4 → c w + (if r = 0 then 0 else wA D.1 (D.2.1.1 w) (D.2.1.2.1 w) (D.2.1.2.2.1 w) r) = wc D.2.1 D.1 t.slots w + wB (D.2.1.1 w) (D.2.1.2.1 w) (D.2.1.2.2.1 w) K P) : ∀ (n d w : Nat), w + d = 4 → d < n → f_X1_firstFullWindow_c3 n D (nI r) K P (nI w) = some (ovf D.2.1 c d w)
  | 0, d, w, _, hn => absurd hn (by omega)
  | n + 1, d, w, hd, hn => by
    rw [f_X1_firstFullWindow_c3]
    by_cases e : w = 4
    · rw [if_pos (show (4 : Int32) ≤ nI w from nI_le (a := 4) (by omega) (by omega)), show d = 0 by omega]; rfl
    · obtain ⟨d, rfl⟩ : ∃ d', d = d' + 1 := ⟨d - 1, by omega⟩
      have hw : w < 4 := by omega
      have h1 := hW w hw
      have hcw := hc w hw
      have ih := firstFull_c3 h hW hr hc n d (w + 1) (by omega) (by omega)
      have hr24 : r ≤ 24 := by
        rcases hr with e1 | e1
        · omega
        · exact (h.1.mem r e1).2
      have hwl := wc_le (W := D.2.1) (T := D.1) (L := t.slots) (w := w)
      have h24 := h.le
      rw [Tr.len] at hwl
      have h69 : f_X1_firstFullWindow_c69 (f_X1_firstFullWindow_c3 n) D (nI r) K P (nI w) (nI (c w)) = some (ovf D.2.1 c (d + 1) w) := by
        rw [f_X1_firstFullWindow_c69, nI_1, ih, ovf]
        rcases isOpen_ok hw h1 with ⟨o1, o2, o3⟩ | ⟨o1, o2, o3⟩
        · rw [o3, Option.bind_some, if_pos rfl, if_neg (fun h9 => h9.1 o1)]
        · rw [o3, Option.bind_some, if_neg (by decide), f_X5_limitIn, rdW hw, Option.bind_some]
          by_cases e1 : nI (c w) ≤ D.2.1.2.2.2 w
          · rw [if_pos e1, if_neg (fun h9 => Int32.not_le.mpr h9.2 e1)]
          · rw [if_neg e1, if_pos ⟨o1, Int32.not_le.mp e1⟩]
      have hB := wB_le (D.2.1.1 w) (D.2.1.2.1 w) (D.2.1.2.2.1 w) K P
      have h52 : ∀ q : Nat, q + wB (D.2.1.1 w) (D.2.1.2.1 w) (D.2.1.2.2.1 w) K P = c w → f_X1_firstFullWindow_c52 (f_X1_firstFullWindow_c3 n) D (nI r) K P (nI w) (nI q) = some (ovf D.2.1 c (d + 1) w) := fun q hq => by
        rw [f_X1_firstFullWindow_c52, covers_ok hw, Option.bind_some, nI_1]
        by_cases e1 : wB (D.2.1.1 w) (D.2.1.2.1 w) (D.2.1.2.2.1 w) K P = 0
        · rw [if_pos (by rw [e1]; rfl), show q = c w by omega]; exact h69
        · rw [if_neg (nI_ne0 (by omega) (by omega)), show q + 1 = c w by omega]; exact h69
      rw [if_neg (show ¬ (4 : Int32) ≤ nI w from nI_ge (b := 4) (by omega) (by omega)), countInWindow_ok h hw, Option.bind_some]
      by_cases e0 : r = 0
      · rw [if_pos e0, Nat.add_zero] at hcw
        rw [if_pos (by rw [e0]; rfl)]
        exact h52 _ hcw.symm
      · have hrm : r ∈ t.slots := by
          rcases hr with e1 | e1
          · exact absurd e1 e0
          · exact e1
        rw [if_neg e0] at hcw
        have hmem := sumL_mem (w := wA D.1 (D.2.1.1 w) (D.2.1.2.1 w) (D.2.1.2.2.1 w)) hrm
        replace hmem : wA D.1 (D.2.1.1 w) (D.2.1.2.1 w) (D.2.1.2.2.1 w) r ≤ wc D.2.1 D.1 t.slots w := hmem
        have hA := wB_le (D.2.1.1 w) (D.2.1.2.1 w) (D.2.1.2.2.1 w) (D.1.1 r) (D.1.2.1 r)
        rw [if_neg (nI_ne0 (by omega) (by omega)), f_X4_keyIn, f_X4_priorityIn, rd25 hr24, rd25 hr24, Option.bind_some, Option.bind_some, covers_ok hw, Option.bind_some]
        replace hcw : c w + wB (D.2.1.1 w) (D.2.1.2.1 w) (D.2.1.2.2.1 w) (D.1.1 r) (D.1.2.1 r) = wc D.2.1 D.1 t.slots w + wB (D.2.1.1 w) (D.2.1.2.1 w) (D.2.1.2.2.1 w) K P := hcw
        replace hmem : wB (D.2.1.1 w) (D.2.1.2.1 w) (D.2.1.2.2.1 w) (D.1.1 r) (D.1.2.1 r) ≤ wc D.2.1 D.1 t.slots w := hmem
        by_cases e1 : wB (D.2.1.1 w) (D.2.1.2.1 w) (D.2.1.2.2.1 w) (D.1.1 r) (D.1.2.1 r) = 0
        · rw [if_pos (by rw [e1]; rfl)]
          exact h52 _ (by omega)
        · rw [if_neg (nI_ne0 (by omega) (by omega)), add_m1]
          obtain ⟨q, hq⟩ : ∃ q, wc D.2.1 D.1 t.slots w = q + 1 := ⟨wc D.2.1 D.1 t.slots w - 1, by omega⟩
          rw [hq, nI_pred]
          exact h52 _ (by omega)
theorem firstFull_ok {D : DataS} {t : Tr} {a : Nat → Int32} (h : WF D.1 t) (hW : WR D.2.1 a) {r : Nat} {K P : Int32} (hr : r = 0 ∨ r ∈ t.slots) {c : Nat → Nat} (hc : ∀ w, w < 4 → c w + (if r = 0 then 0 else wA D.1 (D.2.1.1 w) (D.2.1.2.1 w) (D.2.1.2.2.1 w) r) = wc D.2.1 D.1 t.slots w + wB (D.2.1.1 w) (D.2.1.2.1 w) (D.2.1.2.2.1 w) K P) : f_X1_firstFullWindow D (nI r) K P = some (ovf D.2.1 c 4 0) :=
  firstFull_c3 h hW hr hc 200 4 0 rfl (by omega)
/-- no window has too many points -/
def KL (D : DataS) (t : Tr) : Prop := ∀ w, w < 4 → D.2.1.2.2.2 w ≠ 0 → nI (wc D.2.1 D.1 t.slots w) ≤ D.2.1.2.2.2 w
theorem keepsLimits_c2 {D : DataS} {t : Tr} {a : Nat → Int32} (h : WF D.1 t) (hW : WR D.2.1 a) (hk : KL D t) : ∀ (n w : Nat), w ≤ 4 → 4 - w < n → f_X1_keepsLimits_c2 n D (nI w) = some 1
  | 0, w, _, hn => absurd hn (by omega)
  | n + 1, w, hw, hn => by
    rw [f_X1_keepsLimits_c2]
    by_cases e : w = 4
    · rw [if_pos (show (4 : Int32) ≤ nI w from nI_le (a := 4) (by omega) (by omega))]
    · have hw4 : w < 4 := by omega
      rw [if_neg (show ¬ (4 : Int32) ≤ nI w from nI_ge (b := 4) (by omega) (by omega)), nI_1, keepsLimits_c2 h hW hk n (w + 1) (by omega) (by omega)]
      rcases isOpen_ok hw4 (hW w hw4) with ⟨o1, o2, o3⟩ | ⟨o1, o2, o3⟩
      · rw [o3, Option.bind_some, if_pos rfl]
      · rw [o3, Option.bind_some, if_neg (by decide), countInWindow_ok h hw4, Option.bind_some, f_X5_limitIn, rdW hw4, Option.bind_some, if_pos (hk w hw4 o1)]
theorem keepsLimits_ok {D : DataS} {t : Tr} {a : Nat → Int32} (h : WF D.1 t) (hW : WR D.2.1 a) (hk : KL D t) : f_X1_keepsLimits D = some 1 := keepsLimits_c2 h hW hk 200 0 (by omega) (by omega)
/-- the reference's fields but for thrown, rows, changes, saved -/
abbrev mset (M : ModS) (a : Nat → Int32) (res why det cau : Int32) : ModS := (M.1, a, M.2.2.1, M.2.2.2.1, res, why, det, cau, M.2.2.2.2.2.2.2.2)
theorem rejects_0 (M : ModS) (p2 p3 : Int32) : f_X7_rejects M 0 p2 p3 = some (0, M) := by
  rw [f_X7_rejects, if_pos rfl, if_pos (Or.inl rfl)]
theorem rejects_1 (M : ModS) (p2 p3 : Int32) : f_X7_rejects M 1 p2 p3 = some (1, mset M M.2.1 M.2.2.2.2.1 p2 p3 0) := by
  rw [f_X7_rejects, if_neg (by decide), if_pos (Or.inr rfl)]
theorem countsR {M : ModS} {m v : Int32} (hv : f_X7_overfull (mset M (upd M.2.1 1 (M.2.1 1 + m)) m M.2.2.2.2.2.1 M.2.2.2.2.2.2.1 M.2.2.2.2.2.2.2.1) = some v) : f_X7_counts M m = some (if v < 0 then (0, mset M (upd M.2.1 1 (M.2.1 1 + m)) m M.2.2.2.2.2.1 M.2.2.2.2.2.2.1 M.2.2.2.2.2.2.2.1) else (3, mset M (upd M.2.1 1 (M.2.1 1 + m)) m 3 v 0)) := by
  have e1 : (1 : Int32).toNatClampNeg = 1 := rfl
  unfold f_X7_counts
  rw [e1]
  rw [hv]
  simp only [Option.bind_some, rejects_0, rejects_1]
  by_cases h : v < 0
  · rw [if_pos h, if_pos h, if_pos trivial]
  · rw [if_neg h, if_neg h, if_neg (by decide)]
