/-! ===== p62, mathematics 4: what the class writes ===== -/
/-- the letters of a number below 100 -/
def decL (k : Nat) : List Nat := if k < 10 then [48 + k] else [48 + k / 10, 48 + k % 10]
theorem decL_lt {k : Nat} (h : k < 100) : ∀ c ∈ decL k, c < 128 := by
  intro c hc
  unfold decL at hc
  split at hc
  · simp at hc; omega
  · simp at hc; omega
theorem decL_1 {k : Nat} (h : k < 10) : decL k = [48 + k] := if_pos h
theorem decL_2 {k : Nat} (h : ¬ k < 10) : decL k = [48 + k / 10, 48 + k % 10] := if_neg h
theorem decL_len (k : Nat) : 1 ≤ (decL k).length ∧ (decL k).length ≤ 2 := by
  by_cases h : k < 10
  · rw [decL_1 h]; exact ⟨Nat.le_refl _, Nat.le_succ 1⟩
  · rw [decL_2 h]; exact ⟨Nat.le_succ 1, Nat.le_refl _⟩
/-- the output is a text -/
def OT (O : OutS) (L : List Nat) : Prop := O.2 = nI L.length ∧ L.length ≤ 168 ∧ (∀ j, j < L.length → O.1 j = nI (L.getD j 0)) ∧ ∀ c ∈ L, c ≤ 126
theorem getD_app {L M : List Nat} {j : Nat} : (L ++ M).getD j 0 = if j < L.length then L.getD j 0 else M.getD (j - L.length) 0 := by
  rw [List.getD_eq_getElem?_getD, List.getD_eq_getElem?_getD, List.getD_eq_getElem?_getD, List.getElem?_append]
  split <;> rfl
theorem ot_nil (f : Nat → Int32) : OT (f, 0) [] := ⟨rfl, Nat.zero_le _, fun j hj => absurd hj (Nat.not_lt_zero j), fun c hc => absurd hc List.not_mem_nil⟩
theorem ot_write {O : OutS} {L : List Nat} {c : Nat} (h : OT O L) (hl : L.length + 1 ≤ 168) (hc : c ≤ 126) : ∃ O', f_X3_write O (nI c) = some O' ∧ OT O' (L ++ [c]) := by
  obtain ⟨h1, h2, h3, h4⟩ := h
  refine ⟨(upd O.1 L.length (nI c), nI (L.length + 1)), ?_, ?_, ?_, fun j hj => ?_, fun x hx => ?_⟩
  · unfold f_X3_write
    rw [h1, if_neg (show ¬ (168 : Int32) ≤ nI L.length from nI_ge (b := 168) (by omega) (by omega)), wrn (by omega) (by decide), nI_1]
  · rw [List.length_append]; rfl
  · rw [List.length_append]; exact hl
  · rw [List.length_append] at hj
    rw [getD_app]
    show upd O.1 L.length (nI c) j = _
    by_cases e : j = L.length
    · rw [e, upd_eq, if_neg (Nat.lt_irrefl _), Nat.sub_self]; rfl
    · have hj9 : j < L.length := by
        have : j < L.length + 1 := hj
        omega
      rw [upd_ne _ _ e, if_pos hj9]
      exact h3 j hj9
  · rcases List.mem_append.mp hx with h9 | h9
    · exact h4 x h9
    · rw [List.mem_singleton.mp h9]; exact hc
theorem ot_num {O : OutS} {L : List Nat} {k : Nat} (h : OT O L) (hl : L.length + 2 ≤ 168) (hk : k ≤ 99) : ∃ O', f_X3_writeNumber O (nI k) = some O' ∧ OT O' (L ++ decL k) := by
  obtain ⟨d1, d2, d3⟩ := dg_id hk
  unfold f_X3_writeNumber f_X3_writeNumber_c17
  rw [d2, d3]
  by_cases e : k < 10
  · obtain ⟨O1, w1, w3⟩ := ot_write (c := 48 + k % 10) h (by omega) (by omega)
    refine ⟨O1, ?_, ?_⟩
    · rw [if_pos (show nI k < 10 from nI_lt (b := 10) e (by omega)), w1]; rfl
    · rw [decL_1 e]
      rw [Nat.mod_eq_of_lt e] at w3
      exact w3
  · obtain ⟨O1, w1, w3⟩ := ot_write (c := 48 + k / 10) h (by omega) (by omega)
    obtain ⟨O2, v1, v3⟩ := ot_write (c := 48 + k % 10) w3 (by rw [List.length_append, List.length_singleton]; omega) (by omega)
    refine ⟨O2, ?_, ?_⟩
    · rw [if_neg (show ¬ nI k < 10 from nI_nlt (b := 10) (by omega) (by omega)), w1, Option.bind_some, v1]; rfl
    · rw [decL_2 e]
      rw [List.append_assoc] at v3
      exact v3
/-- the text of a subtree, by places -/
def txP (T : TreeS) (t : Tr) : Nat → Nat → List Nat
  | 0, _ => []
  | n + 1, i => [40] ++ (if t.fi i < i then txP T t n (t.lp i) else []) ++ decL (kN T t i) ++ [58] ++ decL (qN T t i) ++ (if i < t.la i then txP T t n (t.rp i) else []) ++ [41]
theorem decL_le {k c : Nat} (hk : k ≤ 99) (h : c ∈ decL k) : c ≤ 126 := by
  unfold decL at h
  split at h
  · rw [List.mem_singleton.mp h]; omega
  · rcases List.mem_cons.mp h with e | e
    · omega
    · rw [List.mem_singleton.mp e]; omega
theorem txP_ok {T : TreeS} {t : Tr} (h : WF T t) : ∀ (n i : Nat), i < t.size → t.sz i ≤ n → (txP T t n i).length ≤ 7 * t.sz i ∧ ∀ c ∈ txP T t n i, c ≤ 126
  | 0, i, hi, hs => by have := sz_lr hi; omega
  | n + 1, i, hi, hs => by
    have hz := sz_lr hi
    have k1 := (kN_ok h hi).2
    have q1 := (qN_ok h hi).2
    have hL : ((if t.fi i < i then txP T t n (t.lp i) else []).length ≤ 7 * t.zl i) ∧ ∀ c ∈ (if t.fi i < i then txP T t n (t.lp i) else []), c ≤ 126 := by
      by_cases e : t.fi i < i
      · have := txP_ok h n (t.lp i) (by have := lp_lt hi e; omega) (by rw [sz_l hi e]; omega)
        rw [sz_l hi e] at this
        rw [if_pos e]; exact this
      · rw [if_neg e]; exact ⟨Nat.zero_le _, fun c hc => absurd hc List.not_mem_nil⟩
    have hR : ((if i < t.la i then txP T t n (t.rp i) else []).length ≤ 7 * t.zr i) ∧ ∀ c ∈ (if i < t.la i then txP T t n (t.rp i) else []), c ≤ 126 := by
      by_cases e : i < t.la i
      · have := txP_ok h n (t.rp i) (rp_lt hi e).1 (by rw [sz_r hi e]; omega)
        rw [sz_r hi e] at this
        rw [if_pos e]; exact this
      · rw [if_neg e]; exact ⟨Nat.zero_le _, fun c hc => absurd hc List.not_mem_nil⟩
    have d1 := decL_len (kN T t i)
    have d2 := decL_len (qN T t i)
    rw [txP]
    generalize (if t.fi i < i then txP T t n (t.lp i) else []) = X at *
    generalize (if i < t.la i then txP T t n (t.rp i) else []) = Y at *
    refine ⟨?_, fun c hc => ?_⟩
    · simp only [List.length_append, List.length_singleton]
      omega
    · simp only [List.mem_append, List.mem_singleton] at hc
      rcases hc with (((((hc | hc) | hc) | hc) | hc) | hc) | hc
      · omega
      · exact hL.2 c hc
      · exact decL_le k1 hc
      · omega
      · exact decL_le q1 hc
      · exact hR.2 c hc
      · omega
section ANS4
variable {T : MainS} {t : Tr}
theorem wt_ok (h : WF T.1.1 t) : ∀ (n i v d : Nat) (O : OutS) (L : List Nat), i < t.size → t.sz i ≤ n → v + t.sz i ≤ 24 → t.sz i < d → OT O L → L.length + 7 * t.sz i ≤ 168 → ∃ O', f_X6_writeSubtree d O T.1.1 (nI (t.sl i)) (nI v) = some O' ∧ OT O' (L ++ txP T.1.1 t n i)
  | 0, i, _, _, _, _, hi, hs, _, _, _, _ => by have := sz_lr hi; omega
  | n + 1, i, v, d, O, L, hi, hs, hv, hd, hO, hl => by
    have h24 := h.le
    have hz := sz_lr hi
    have k1 := kN_ok h hi
    have q1 := qN_ok h hi
    have d1 := decL_len (kN T.1.1 t i)
    have d2 := decL_len (qN T.1.1 t i)
    obtain ⟨d, rfl⟩ : ∃ n', d = n' + 1 := ⟨d - 1, by omega⟩
    obtain ⟨O1, w1, o1⟩ := ot_write (c := 40) hO (by omega) (by omega)
    have hL : ∃ O2, f_X6_writeSubtree d O1 T.1.1 (nI (t.sl (t.lp i))) (nI (v + 1)) = some O2 ∧ OT O2 (L ++ [40] ++ (if t.fi i < i then txP T.1.1 t n (t.lp i) else [])) ∧ (if t.fi i < i then txP T.1.1 t n (t.lp i) else []).length ≤ 7 * t.zl i := by
      by_cases e : t.fi i < i
      · have hlp : t.lp i < t.size := by have := lp_lt hi e; omega
        have e9 := sz_l hi e
        have hlen := (txP_ok h n (t.lp i) hlp (by omega)).1
        obtain ⟨O2, w2, o2⟩ := wt_ok h n (t.lp i) (v + 1) d O1 (L ++ [40]) hlp (by omega) (by omega) (by omega) o1 (by rw [List.length_append, List.length_singleton]; omega)
        rw [if_pos e]
        exact ⟨O2, w2, o2, by omega⟩
      · obtain ⟨d', rfl⟩ : ∃ n', d = n' + 1 := ⟨d - 1, by omega⟩
        refine ⟨O1, ?_, ?_, ?_⟩
        · rw [lp_no e h24, f_X6_writeSubtree, if_pos (show nI 0 = 0 from rfl)]
        · rw [if_neg e, List.append_nil]; exact o1
        · rw [if_neg e]; exact Nat.zero_le _
    rw [txP]
    generalize (if t.fi i < i then txP T.1.1 t n (t.lp i) else []) = X at *
    obtain ⟨O2, w2, o2, xl⟩ := hL
    obtain ⟨O3, w3, o3⟩ := ot_num (k := kN T.1.1 t i) o2 (by simp only [List.length_append, List.length_singleton]; omega) k1.2
    obtain ⟨O4, w4, o4⟩ := ot_write (c := 58) o3 (by simp only [List.length_append, List.length_singleton]; omega) (by omega)
    obtain ⟨O5, w5, o5⟩ := ot_num (k := qN T.1.1 t i) o4 (by simp only [List.length_append, List.length_singleton]; omega) q1.2
    have hR : ∃ O6, f_X6_writeSubtree d O5 T.1.1 (nI (t.sl (t.rp i))) (nI (v + 1)) = some O6 ∧ OT O6 (L ++ [40] ++ X ++ decL (kN T.1.1 t i) ++ [58] ++ decL (qN T.1.1 t i) ++ (if i < t.la i then txP T.1.1 t n (t.rp i) else [])) ∧ (if i < t.la i then txP T.1.1 t n (t.rp i) else []).length ≤ 7 * t.zr i := by
      by_cases e : i < t.la i
      · have hrp := (rp_lt hi e).1
        have e9 := sz_r hi e
        have hlen := (txP_ok h n (t.rp i) hrp (by omega)).1
        obtain ⟨O6, w6, o6⟩ := wt_ok h n (t.rp i) (v + 1) d O5 _ hrp (by omega) (by omega) (by omega) o5 (by simp only [List.length_append, List.length_singleton]; omega)
        rw [if_pos e]
        exact ⟨O6, w6, o6, by omega⟩
      · obtain ⟨d', rfl⟩ : ∃ n', d = n' + 1 := ⟨d - 1, by omega⟩
        refine ⟨O5, ?_, ?_, ?_⟩
        · rw [rp_no e h24, f_X6_writeSubtree, if_pos (show nI 0 = 0 from rfl)]
        · rw [if_neg e, List.append_nil]; exact o5
        · rw [if_neg e]; exact Nat.zero_le _
    generalize (if i < t.la i then txP T.1.1 t n (t.rp i) else []) = Y at *
    obtain ⟨O6, w6, o6, yl⟩ := hR
    obtain ⟨O7, w7, o7⟩ := ot_write (c := 41) o6 (by simp only [List.length_append, List.length_singleton]; omega) (by omega)
    refine ⟨O7, ?_, ?_⟩
    · rw [f_X6_writeSubtree, if_neg (sl_pos h hi), if_pos (show nI v < 24 from nI_lt (b := 24) (by omega) (by omega)), nI_1]
      show (f_X3_write O (nI 40)).bind _ = _
      rw [w1, Option.bind_some, (a_child h hi).1, Option.bind_some, w2, Option.bind_some, f_X4_keyIn, rd25 (a_slot h hi), Option.bind_some, k1.1, w3, Option.bind_some]
      show (f_X3_write O3 (nI 58)).bind _ = _
      rw [w4, Option.bind_some, f_X4_priorityIn, rd25 (a_slot h hi), Option.bind_some, q1.1, w5, Option.bind_some, (a_child h hi).2, Option.bind_some, w6, Option.bind_some]
      show (f_X3_write O6 (nI 41)).bind _ = _
      rw [w7]; rfl
    · have e : L ++ ([40] ++ X ++ decL (kN T.1.1 t i) ++ [58] ++ decL (qN T.1.1 t i) ++ Y ++ [41]) = L ++ [40] ++ X ++ decL (kN T.1.1 t i) ++ [58] ++ decL (qN T.1.1 t i) ++ Y ++ [41] := by simp only [List.append_assoc]
      rw [e]; exact o7
/-- the text of the tree -/
def trX (T : TreeS) (t : Tr) : List Nat := if 0 < t.size then txP T t 24 t.rt0 else []
theorem sz_root (h0 : 0 < t.size) : t.sz t.rt0 = t.size := by
  obtain ⟨-, g2, g3, -, -⟩ := root_pl h0
  unfold Tr.sz
  rw [g2, g3]
  omega
theorem a_writeTree (h : WF T.1.1 t) : ∃ O', f_X6_writeTree T = some (nI (trX T.1.1 t).length, mo T O') ∧ OT O' (trX T.1.1 t) := by
  have h24 := h.le
  unfold f_X6_writeTree f_X3_clear f_X4_topmost trX
  rw [Option.bind_some, Option.bind_some, show T.1.1.2.2.2.2.2.2 = nI t.root from h.1.1.1]
  by_cases e : 0 < t.size
  · have hz := sz_root e
    obtain ⟨O', w1, o1⟩ := wt_ok h 24 t.rt0 0 40 (T.2.2.2.2.2.2.1.1, 0) [] (root_pl e).1 (by omega) (by omega) (by omega) (ot_nil _) (by rw [List.length_nil]; omega)
    refine ⟨O', ?_, by rw [if_pos e]; exact o1⟩
    rw [if_pos e, ← (root_pl e).2.2.2.2]
    show (f_X6_writeSubtree 40 (T.2.2.2.2.2.2.1.1, 0) T.1.1 (nI (t.sl t.rt0)) (nI 0)).bind _ = _
    rw [w1, Option.bind_some, o1.1]; rfl
  · have hn : t.root = 0 := by
      cases t using Tr.cas with
      | nil => rfl
      | node l s r => exact absurd (show 0 < (Tr.node l s r).size by rw [Tr.size_node]; omega) e
    refine ⟨(T.2.2.2.2.2.2.1.1, 0), ?_, by rw [if_neg e]; exact ot_nil _⟩
    rw [if_neg e, hn, f_X6_writeSubtree, if_pos (show nI 0 = 0 from rfl)]; rfl
theorem a_outputAt {O : OutS} {L : List Nat} (h : OT O L) {j : Nat} (hj : j < L.length) (T : MainS) : f_X6_outputAt (mo T O) (nI j) = some (.inr (nI (L.getD j 0)), mo T O) := by
  obtain ⟨h1, h2, h3, h4⟩ := h
  have hc : L.getD j 0 ≤ 126 := h4 _ (getD_mem hj)
  unfold f_X6_outputAt
  rw [if_neg (nI_pos (by omega))]
  show (if nI j < O.2 then (f_X3_characterAt O (nI j)).bind _ else _) = _
  rw [h1, if_pos (nI_lt hj (by omega)), f_X3_characterAt, rdn (show j < 168 by omega) (by decide), Option.bind_some, h3 j hj, (ch_id hc).1, (ch_id hc).2, if_pos rfl]
/-! windows -/
/-- the k-th place that counts -/
def wplG (g : Nat → Nat) : Nat → Nat → Nat
  | 0, _ => 0
  | n + 1, k => if k < sumR g 0 n then wplG g n k else n
theorem wplG_ok {g : Nat → Nat} (hg : ∀ i, g i ≤ 1) : ∀ (n k : Nat), k < sumR g 0 n → wplG g n k < n ∧ g (wplG g n k) = 1 ∧ sumR g 0 (wplG g n k) = k
  | 0, k, h => absurd h (Nat.not_lt_zero k)
  | n + 1, k, h => by
    have hs := sumR_succ g n
    have h1 := hg n
    rw [wplG]
    by_cases e : k < sumR g 0 n
    · rw [if_pos e]
      obtain ⟨a1, a2, a3⟩ := wplG_ok hg n k e
      exact ⟨by omega, a2, a3⟩
    · rw [if_neg e]
      exact ⟨by omega, by omega, by omega⟩
abbrev wpl (D : DataS) (t : Tr) (w k : Nat) : Nat := wplG (gW D t w) t.size k
abbrev wN (D : DataS) (t : Tr) (w : Nat) : Nat := sumR (gW D t w) 0 t.size
theorem gW_le (D : DataS) (t : Tr) (w : Nat) : ∀ i, gW D t w i ≤ 1 := fun _ => wB_le _ _ _ _ _
theorem wN_le (D : DataS) (t : Tr) (w : Nat) : wN D t w ≤ t.size := by
  have := sumR_le (g := gW D t w) (B := 1) t.size 0 (fun i _ _ => gW_le D t w i)
  unfold wN
  omega
theorem wpl_lt {D : DataS} {t : Tr} {w i j : Nat} (hij : i < j) (hj : j < wN D t w) : wpl D t w i < wpl D t w j := by
  obtain ⟨-, a2, a3⟩ := wplG_ok (gW_le D t w) t.size i (by unfold wN at hj; omega)
  obtain ⟨-, b2, b3⟩ := wplG_ok (gW_le D t w) t.size j hj
  apply Classical.byContradiction
  intro h
  have := sumR_mono0 (gW D t w) (Nat.le_of_not_lt h)
  unfold wpl at this h
  omega
theorem a_slotInWindow (h : WF T.1.1 t) {w k : Nat} (hw : w < 4) (hk : k < wN T.1 t w) : f_X1_slotInWindow T.1 (nI w) (nI k) = some (nI (t.sl (wpl T.1 t w k))) := by
  have h24 := h.le
  obtain ⟨a1, a2, a3⟩ := wplG_ok (gW_le T.1 t w) t.size k hk
  have := siw_c14 h hw a1 a2 200 0 (Nat.zero_le _) (by omega)
  unfold f_X1_slotInWindow
  rw [pointCount_ok h, Option.bind_some]
  rw [a3] at this
  exact this
theorem siw_no {D : DataS} {t : Tr} (h : WF D.1 t) {w : Nat} (hw : w < 4) : ∀ (n i : Nat), i ≤ t.size → t.size - i < n → f_X1_slotInWindow_c14 n D (nI w) (nI (wN D t w)) (nI (sumR (gW D t w) 0 i)) (nI t.size) (nI i) = some 0
  | 0, i, _, hn => absurd hn (by omega)
  | n + 1, i, hi, hn => by
    have h24 := h.le
    have hwn := wN_le D t w
    rw [f_X1_slotInWindow_c14]
    by_cases e : i = t.size
    · rw [if_pos (nI_le (by omega) (by omega))]
    · have hs := (h.1.mem _ (sl_mem (t := t) (i := i) (by omega))).2
      have hB : gW D t w i ≤ 1 := gW_le D t w i
      have hs1 := sumR_succ (gW D t w) i
      have hmn := sumR_mono0 (gW D t w) (show i + 1 ≤ t.size by omega)
      have ih := siw_no h hw n (i + 1) (by omega) (by omega)
      rw [if_neg (nI_ge (by omega) (by omega)), if_neg (nI_24 (by omega)), slotAt_ok h (by omega), Option.bind_some, f_X4_keyIn, f_X4_priorityIn, rd25 hs, rd25 hs, Option.bind_some, Option.bind_some, covers_ok hw, Option.bind_some, nI_1, nI_1]
      show (if nI (gW D t w i) = 0 then _ else _) = _
      by_cases e1 : gW D t w i = 0
      · rw [hs1, e1, Nat.add_zero] at ih
        rw [e1, if_pos (show nI 0 = 0 from rfl)]
        exact ih
      · rw [hs1, show gW D t w i = 1 by omega] at ih
        rw [if_neg (nI_ne0 (by omega) (by omega)), if_neg (fun h9 => by have := (nI_eq (by unfold wN at hwn; omega) (by omega)).mp h9; unfold wN at this; omega)]
        exact ih
theorem a_open {a : Nat → Int32} {w : Nat} (hw : w < 4) (hW : WR1 T.1.2.1 a w) : (T.1.2.1.2.2.2 w = 0 ∧ f_X6_requireOpenWindow T (nI w) = some (.inl NSE, T) ∧ f_X6_isWindowSet T (nI w) = some (.inr 0, T)) ∨ (T.1.2.1.2.2.2 w ≠ 0 ∧ f_X6_requireOpenWindow T (nI w) = some (.inr (), T) ∧ f_X6_isWindowSet T (nI w) = some (.inr 1, T)) := by
  unfold f_X6_requireOpenWindow f_X6_isWindowSet
  rw [reqW_ok hw, tu_r, tu_r]
  rcases isOpen_ok hw hW with ⟨o1, o2, o3⟩ | ⟨o1, o2, o3⟩
  · refine Or.inl ⟨o1, ?_, ?_⟩
    · show (f_X5_isOpen T.1.2.1 (nI w)).bind _ = _
      rw [o3, Option.bind_some, if_pos rfl]
    · show (f_X5_isOpen T.1.2.1 (nI w)).bind _ = _
      rw [o3, Option.bind_some, if_pos (show (0 : Int32) = 0 ∨ (0 : Int32) = 1 from Or.inl rfl)]
  · refine Or.inr ⟨o1, ?_, ?_⟩
    · show (f_X5_isOpen T.1.2.1 (nI w)).bind _ = _
      rw [o3, Option.bind_some, if_neg n10]
    · show (f_X5_isOpen T.1.2.1 (nI w)).bind _ = _
      rw [o3, Option.bind_some, if_pos (show (1 : Int32) = 0 ∨ (1 : Int32) = 1 from Or.inr rfl)]
theorem wc_wN {D : DataS} {t : Tr} {w : Nat} : wc D.2.1 D.1 t.slots w = wN D t w := by
  unfold wc wN
  rw [← sum_pl]
theorem a_points (h : WF T.1.1 t) {w : Nat} (hw : w < 4) (ho : f_X6_requireOpenWindow T (nI w) = some (.inr (), T)) : f_X6_pointsInWindow T (nI w) = some (.inr (nI (wN T.1 t w)), T) := by
  unfold f_X6_pointsInWindow
  rw [ho, tr_r]
  show (f_X1_countInWindow T.1 (nI w)).bind _ = _
  rw [countInWindow_ok h hw, Option.bind_some, wc_wN]
theorem a_points_no {w : Nat} (ho : f_X6_requireOpenWindow T (nI w) = some (.inl NSE, T)) : f_X6_pointsInWindow T (nI w) = some (.inl NSE, T) := by
  unfold f_X6_pointsInWindow
  rw [ho]; rfl
/-- what room a window has -/
theorem a_room {a : Nat → Int32} (h : DR T.1 a t) {w : Nat} (hw : w < 4) (h0 : T.1.2.1.2.2.2 w ≠ 0) (ho : f_X6_requireOpenWindow T (nI w) = some (.inr (), T)) : ∃ li : Nat, wN T.1 t w ≤ li ∧ li ≤ 24 ∧ f_X6_roomInWindow T (nI w) = some (.inr (nI (li - wN T.1 t w)), T) := by
  have h24 := h.1.le
  have hwn := wN_le T.1 t w
  rcases h.2.2.2.1 w hw with ⟨g1, -⟩ | ⟨lo, hi, p, li, g1, g2, g3, g4, g5, g6, g7, g8, g9, -⟩
  · exact absurd g1 h0
  · have hk := h.2.2.2.2 w hw h0
    rw [g9, wc_wN, nI_leI (by omega) (by omega)] at hk
    refine ⟨li, hk, g5, ?_⟩
    unfold f_X6_roomInWindow
    rw [ho, tr_r]
    show (f_X5_limitIn T.1.2.1 (nI w)).bind _ = _
    rw [f_X5_limitIn, rdW hw, Option.bind_some]
    show (f_X1_countInWindow T.1 (nI w)).bind _ = _
    rw [countInWindow_ok h.1 hw, Option.bind_some, g9, wc_wN, nI_sub hk]
theorem a_windowKeyAt (h : WF T.1.1 t) {w k : Nat} (hw : w < 4) (ho : f_X6_requireOpenWindow T (nI w) = some (.inr (), T)) (hk : k < wN T.1 t w) : f_X6_windowKeyAt T (nI w) (nI k) = some (.inr (nI (kN T.1.1 t (wpl T.1 t w k))), T) := by
  obtain ⟨a1, -, -⟩ := wplG_ok (gW_le T.1 t w) t.size k hk
  unfold f_X6_windowKeyAt
  rw [ho, tr_r]
  show ((f_X1_slotInWindow T.1 (nI w) (nI k)).bind fun q5 => pq_tr (f_X6_keyInFound T q5) fun q6 T8 => some (.inr q6, T8)) = _
  rw [a_slotInWindow h hw hk, Option.bind_some, tr_id]
  exact a_found h a1
theorem a_windowKeyAt_no (h : WF T.1.1 t) {w : Nat} (hw : w < 4) (ho : f_X6_requireOpenWindow T (nI w) = some (.inr (), T)) : f_X6_windowKeyAt T (nI w) (nI (wN T.1 t w)) = some (.inl NSE, T) := by
  have h24 := h.le
  unfold f_X6_windowKeyAt
  rw [ho, tr_r]
  show ((f_X1_slotInWindow T.1 (nI w) (nI (wN T.1 t w))).bind fun q5 => pq_tr (f_X6_keyInFound T q5) fun q6 T8 => some (.inr q6, T8)) = _
  unfold f_X1_slotInWindow
  rw [pointCount_ok h, Option.bind_some]
  have := siw_no h hw 200 0 (Nat.zero_le _) (by omega)
  rw [show (0 : Int32) = nI 0 from rfl]
  rw [show sumR (gW T.1 t w) 0 0 = 0 from rfl] at this
  rw [this, Option.bind_some, tr_id]
  exact keyIn_no T
/-- the text of a window's first k keys -/
def wtX (D : DataS) (t : Tr) (w : Nat) : Nat → List Nat
  | 0 => []
  | k + 1 => wtX D t w k ++ (if 0 < k then [44] else []) ++ decL (kN D.1 t (wpl D t w k))
theorem wtX_ok (h : WF T.1.1 t) {w : Nat} : ∀ k, k ≤ wN T.1 t w → (wtX T.1 t w k).length ≤ 3 * k ∧ (0 < k → 0 < (wtX T.1 t w k).length) ∧ ∀ c ∈ wtX T.1 t w k, c ≤ 126
  | 0, _ => ⟨Nat.zero_le _, fun h => absurd h (Nat.lt_irrefl 0), fun c hc => absurd hc List.not_mem_nil⟩
  | k + 1, hk => by
    obtain ⟨i1, i2, i3⟩ := wtX_ok h (w := w) k (by omega)
    obtain ⟨a1, -, -⟩ := wplG_ok (gW_le T.1 t w) t.size k hk
    have d1 := decL_len (kN T.1.1 t (wpl T.1 t w k))
    have hc : (if 0 < k then [44] else []).length ≤ 1 ∧ ∀ c ∈ (if 0 < k then [44] else ([] : List Nat)), c ≤ 126 := by
      split
      · exact ⟨Nat.le_refl _, fun c hc => by rw [List.mem_singleton.mp hc]; omega⟩
      · exact ⟨Nat.zero_le _, fun c hc => absurd hc List.not_mem_nil⟩
    rw [wtX]
    generalize (if 0 < k then [44] else ([] : List Nat)) = X at *
    refine ⟨?_, fun _ => ?_, fun c h9 => ?_⟩
    · simp only [List.length_append]; omega
    · simp only [List.length_append]; omega
    · simp only [List.mem_append] at h9
      rcases h9 with (h9 | h9) | h9
      · exact i3 c h9
      · exact hc.2 c h9
      · exact decL_le (kN_ok h a1).2 h9
theorem ww_ok (h : WF T.1.1 t) {w : Nat} (hw : w < 4) : ∀ (n k : Nat) (O : OutS), k ≤ wN T.1 t w → wN T.1 t w - k < n → OT O (wtX T.1 t w k) → ∃ O', f_X6_writeWindow_c23 n (mo T O) (nI w) (nI (wN T.1 t w)) (nI k) = some (.inr (nI (wtX T.1 t w (wN T.1 t w)).length), mo T O') ∧ OT O' (wtX T.1 t w (wN T.1 t w))
  | 0, k, _, _, hn, _ => absurd hn (by omega)
  | n + 1, k, O, hk, hn, hO => by
    have h24 := h.le
    have hwn := wN_le T.1 t w
    rw [f_X6_writeWindow_c23]
    by_cases e : k = wN T.1 t w
    · rw [if_pos (nI_le (by omega) (by omega))]
      rw [e] at hO
      exact ⟨O, by show some (Sum.inr O.2, _) = _; rw [hO.1], hO⟩
    · obtain ⟨a1, -, -⟩ := wplG_ok (gW_le T.1 t w) t.size k (by unfold wN at hk e; omega)
      have k1 := kN_ok h a1
      obtain ⟨i1, i2, i3⟩ := wtX_ok h (w := w) k hk
      rw [if_neg (nI_ge (by omega) (by omega)), if_neg (nI_24 (by omega))]
      have fin : ∀ (O1 : OutS) (X : List Nat), OT O1 (wtX T.1 t w k ++ X) → X = (if 0 < k then [44] else []) → ∃ O', f_X6_writeWindow_c47 (f_X6_writeWindow_c23 n) (mo T O1) (nI w) (nI (wN T.1 t w)) (nI k) = some (.inr (nI (wtX T.1 t w (wN T.1 t w)).length), mo T O') ∧ OT O' (wtX T.1 t w (wN T.1 t w)) := fun O1 X hO1 hX => by
        have hXl : X.length ≤ 1 := by
          rw [hX]
          split
          · exact Nat.le_refl _
          · exact Nat.zero_le _
        obtain ⟨O2, w2, o2⟩ := ot_num (k := kN T.1.1 t (wpl T.1 t w k)) hO1 (by rw [List.length_append]; omega) k1.2
        rw [hX] at o2
        obtain ⟨O3, w3, o3⟩ := ww_ok h hw n (k + 1) O2 (by omega) (by omega) o2
        refine ⟨O3, ?_, o3⟩
        unfold f_X6_writeWindow_c47
        show (f_X1_slotInWindow T.1 (nI w) (nI k)).bind _ = _
        rw [a_slotInWindow h hw (by omega), Option.bind_some]
        show (f_X4_keyIn T.1.1 (nI (t.sl (wpl T.1 t w k)))).bind _ = _
        rw [f_X4_keyIn, rd25 (a_slot h a1), Option.bind_some, k1.1]
        show (f_X3_writeNumber O1 (nI (kN T.1.1 t (wpl T.1 t w k)))).bind _ = _
        rw [w2, Option.bind_some, nI_1]
        exact w3
      by_cases e3 : k = 0
      · rw [e3, if_pos (show nI 0 ≤ 0 by decide)]
        rw [e3] at fin
        exact fin O [] (by rw [List.append_nil, ← e3]; exact hO) (by rw [if_neg (Nat.lt_irrefl 0)])
      · rw [if_neg (nI_nle (by omega) (by omega))]
        obtain ⟨O1, v1, o1⟩ := ot_write (c := 44) hO (by omega) (by omega)
        show ∃ O', (f_X3_write O (nI 44)).bind _ = _ ∧ _
        rw [v1, Option.bind_some]
        exact fin O1 [44] o1 (by rw [if_pos (by omega)])
theorem a_writeWindow (h : WF T.1.1 t) {w : Nat} (hw : w < 4) (ho : f_X6_requireOpenWindow T (nI w) = some (.inr (), T)) : ∃ O', f_X6_writeWindow T (nI w) = some (.inr (nI (wtX T.1 t w (wN T.1 t w)).length), mo T O') ∧ OT O' (wtX T.1 t w (wN T.1 t w)) := by
  have h24 := h.le
  have hwn := wN_le T.1 t w
  obtain ⟨O', w1, o1⟩ := ww_ok h hw 200 0 (T.2.2.2.2.2.2.1.1, 0) (Nat.zero_le _) (by omega) (ot_nil _)
  refine ⟨O', ?_, o1⟩
  unfold f_X6_writeWindow
  rw [ho, tr_r]
  show (f_X1_countInWindow T.1 (nI w)).bind (fun q18 => f_X6_writeWindow_c23 200 (mo T (T.2.2.2.2.2.2.1.1, 0)) (nI w) q18 0) = _
  rw [countInWindow_ok h hw, Option.bind_some, wc_wN]
  exact w1
end ANS4
