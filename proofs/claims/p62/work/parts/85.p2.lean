/-! ===== p62, mathematics 2: what the class answers, by places ===== -/
def kN (T : TreeS) (t : Tr) (i : Nat) : Nat := (T.1 (t.sl i)).toNatClampNeg
def qN (T : TreeS) (t : Tr) (i : Nat) : Nat := (T.2.1 (t.sl i)).toNatClampNeg
theorem kN_ok {T : TreeS} {t : Tr} (h : WF T t) {i : Nat} (hi : i < t.size) : T.1 (t.sl i) = nI (kN T t i) ∧ kN T t i ≤ 99 := by
  obtain ⟨⟨k, k1, k2⟩, -⟩ := h.2.2.2 _ (sl_mem hi)
  unfold kN
  rw [k2, nI_clamp (by omega)]
  exact ⟨rfl, k1⟩
theorem qN_ok {T : TreeS} {t : Tr} (h : WF T t) {i : Nat} (hi : i < t.size) : T.2.1 (t.sl i) = nI (qN T t i) ∧ qN T t i ≤ 99 := by
  obtain ⟨-, k, k1, k2⟩ := h.2.2.2 _ (sl_mem hi)
  unfold qN
  rw [k2, nI_clamp (by omega)]
  exact ⟨rfl, k1⟩
theorem kN_lt {T : TreeS} {t : Tr} (h : WF T t) {i j : Nat} (hij : i < j) (hj : j < t.size) : kN T t i < kN T t j := by
  have h1 : T.1 (t.sl i) < T.1 (t.sl j) := srt_lt h.2.1 hij (by rw [Tr.len]; exact hj)
  have k1 := kN_ok h (i := i) (by omega)
  have k2 := kN_ok h hj
  rw [k1.1, k2.1] at h1
  rcases Nat.lt_or_ge (kN T t i) (kN T t j) with q | q
  · exact q
  · exact absurd h1 (nI_nlt q (by omega))
theorem kN_lt_iff {T : TreeS} {t : Tr} (h : WF T t) {i j : Nat} (hi : i < t.size) (hj : j < t.size) : kN T t i < kN T t j ↔ i < j := by
  refine ⟨fun h1 => ?_, fun h1 => kN_lt h h1 hj⟩
  rcases Nat.lt_trichotomy i j with q | q | q
  · exact q
  · rw [q] at h1; omega
  · have := kN_lt h q hi; omega
theorem kN_inj {T : TreeS} {t : Tr} (h : WF T t) {i j : Nat} (hi : i < t.size) (hj : j < t.size) (e : kN T t i = kN T t j) : i = j := by
  rcases Nat.lt_trichotomy i j with q | q | q
  · have := kN_lt h q hj; omega
  · exact q
  · have := kN_lt h q hi; omega
theorem abvN {T : TreeS} {t : Tr} (h : WF T t) {i j : Nat} (hi : i < t.size) (hj : j < t.size) : abv T (t.sl i) (t.sl j) ↔ qN T t j < qN T t i ∨ (qN T t i = qN T t j ∧ i < j) := by
  have k1 := kN_ok h hi
  have k2 := kN_ok h hj
  have q1 := qN_ok h hi
  have q2 := qN_ok h hj
  unfold abv
  rw [k1.1, k2.1, q1.1, q2.1, ← kN_lt_iff h hi hj]
  constructor
  · rintro (h1 | ⟨h1, h2⟩)
    · left
      rcases Nat.lt_or_ge (qN T t j) (qN T t i) with q | q
      · exact q
      · exact absurd h1 (nI_nlt q (by omega))
    · right
      refine ⟨(nI_eq (by omega) (by omega)).mp h1, ?_⟩
      rcases Nat.lt_or_ge (kN T t i) (kN T t j) with q | q
      · exact q
      · exact absurd h2 (nI_nlt q (by omega))
  · rintro (h1 | ⟨h1, h2⟩)
    · exact Or.inl (nI_lt h1 (by omega))
    · exact Or.inr ⟨by rw [h1], nI_lt h2 (by omega)⟩
section ANS
variable {T : MainS} {t : Tr}
theorem a_slot (h : WF T.1.1 t) {i : Nat} (hi : i < t.size) : t.sl i ≤ 24 := (h.1.mem _ (sl_mem hi)).2
theorem a_size (h : WF T.1.1 t) : f_X6_size T = some (nI t.size) := by
  unfold f_X6_size
  rw [pointCount_ok h]; rfl
theorem a_found (h : WF T.1.1 t) {i : Nat} (hi : i < t.size) : f_X6_keyInFound T (nI (t.sl i)) = some (.inr (nI (kN T.1.1 t i)), T) := by rw [keyIn_ok h hi, (kN_ok h hi).1]
theorem a_req (h : WF T.1.1 t) {i : Nat} (hi : i < t.size) : f_X6_requirePoint T (nI (kN T.1.1 t i)) = some (.inr (nI (t.sl i)), T) := reqP_hit h hi (kN_ok h hi).1
theorem a_keyAt (h : WF T.1.1 t) {i : Nat} (hi : i < t.size) : f_X6_keyAt T (nI i) = some (.inr (nI (kN T.1.1 t i)), T) := by
  have h24 := h.le
  unfold f_X6_keyAt
  rw [slotAt_ok h (by omega), Option.bind_some, tr_id, a_found h hi]
theorem a_keyAt_no (h : WF T.1.1 t) : f_X6_keyAt T (nI t.size) = some (.inl NSE, T) := by
  have h24 := h.le
  unfold f_X6_keyAt
  rw [slotAt_ok h (by omega), Option.bind_some, tr_id, sl_out (Nat.le_refl _)]
  exact keyIn_no T
theorem a_contains (h : WF T.1.1 t) {i : Nat} (hi : i < t.size) : f_X6_contains T (nI (kN T.1.1 t i)) = some 1 := by
  unfold f_X6_contains
  rw [slotOf_hit h hi (kN_ok h hi).1, Option.bind_some, if_neg (sl_pos h hi)]
theorem a_priorityOf (h : WF T.1.1 t) {i : Nat} (hi : i < t.size) : f_X6_priorityOf T (nI (kN T.1.1 t i)) = some (.inr (nI (qN T.1.1 t i)), T) := by
  unfold f_X6_priorityOf
  rw [a_req h hi, tr_r, f_X4_priorityIn, rd25 (a_slot h hi), Option.bind_some, (qN_ok h hi).1]
theorem a_rankOf (h : WF T.1.1 t) (x : Int32) : f_X6_rankOf T x = some (nI (cnt T.1.1 (plt x) t.slots)) := by
  unfold f_X6_rankOf
  rw [countBelow_ok h]; rfl
theorem a_rank0 (h : WF T.1.1 t) {i : Nat} (hi : i < t.size) : f_X6_rankOf T (nI (kN T.1.1 t i)) = some (nI i) := by rw [a_rankOf h, (cnt_hit h.2.1 hi (kN_ok h hi).1).1]
theorem a_rank1 (h : WF T.1.1 t) {i : Nat} (hi : i < t.size) : f_X6_rankOf T (nI (kN T.1.1 t i) + 1) = some (nI (i + 1)) := by
  have hk := (kN_ok h hi).2
  rw [a_rankOf h, plt_succ (nI_le (b := 1000) (by omega) (by decide)), (cnt_hit h.2.1 hi (kN_ok h hi).1).2]
theorem a_child (h : WF T.1.1 t) {i : Nat} (hi : i < t.size) : f_X4_leftIn T.1.1 (nI (t.sl i)) = some (nI (t.sl (t.lp i))) ∧ f_X4_rightIn T.1.1 (nI (t.sl i)) = some (nI (t.sl (t.rp i))) := by
  rw [f_X4_leftIn, f_X4_rightIn, rd25 (a_slot h hi), rd25 (a_slot h hi)]
  exact ⟨congrArg some (left_ok h.1 hi), congrArg some (right_ok h.1 hi)⟩
theorem lp_no {i : Nat} (hn : ¬ t.fi i < i) (h24 : t.size ≤ 24) : t.sl (t.lp i) = 0 := by rw [Tr.lp, if_neg hn, sl_out (by omega)]
theorem rp_no {i : Nat} (hn : ¬ i < t.la i) (h24 : t.size ≤ 24) : t.sl (t.rp i) = 0 := by rw [Tr.rp, if_neg hn, sl_out (by omega)]
theorem a_leftOf (h : WF T.1.1 t) {i : Nat} (hi : i < t.size) : f_X6_leftOf T (nI (kN T.1.1 t i)) = if t.fi i < i then some (.inr (nI (kN T.1.1 t (t.lp i))), T) else some (.inl NSE, T) := by
  have h24 := h.le
  unfold f_X6_leftOf
  rw [a_req h hi, tr_r, (a_child h hi).1, Option.bind_some, tr_id]
  by_cases e : t.fi i < i
  · rw [if_pos e, a_found h (by have := lp_lt hi e; omega)]
  · rw [if_neg e, lp_no e h24]; exact keyIn_no T
theorem a_rightOf (h : WF T.1.1 t) {i : Nat} (hi : i < t.size) : f_X6_rightOf T (nI (kN T.1.1 t i)) = if i < t.la i then some (.inr (nI (kN T.1.1 t (t.rp i))), T) else some (.inl NSE, T) := by
  have h24 := h.le
  unfold f_X6_rightOf
  rw [a_req h hi, tr_r, (a_child h hi).2, Option.bind_some, tr_id]
  by_cases e : i < t.la i
  · rw [if_pos e, a_found h (rp_lt hi e).1]
  · rw [if_neg e, rp_no e h24]; exact keyIn_no T
theorem a_hasLeft (h : WF T.1.1 t) {i : Nat} (hi : i < t.size) : f_X6_hasLeft T (nI (kN T.1.1 t i)) = some (.inr (if t.fi i < i then 1 else 0), T) := by
  have h24 := h.le
  unfold f_X6_hasLeft
  rw [a_req h hi, tr_r, (a_child h hi).1, Option.bind_some]
  by_cases e : t.fi i < i
  · rw [if_pos e, if_neg (sl_pos h (by have := lp_lt hi e; omega))]
  · rw [if_neg e, lp_no e h24, if_pos (show nI 0 = 0 from rfl)]
theorem a_hasRight (h : WF T.1.1 t) {i : Nat} (hi : i < t.size) : f_X6_hasRight T (nI (kN T.1.1 t i)) = some (.inr (if i < t.la i then 1 else 0), T) := by
  have h24 := h.le
  unfold f_X6_hasRight
  rw [a_req h hi, tr_r, (a_child h hi).2, Option.bind_some]
  by_cases e : i < t.la i
  · rw [if_pos e, if_neg (sl_pos h (rp_lt hi e).1)]
  · rw [if_neg e, rp_no e h24, if_pos (show nI 0 = 0 from rfl)]
theorem a_depthOf (h : WF T.1.1 t) {i : Nat} (hi : i < t.size) : f_X6_depthOf T (nI (kN T.1.1 t i)) = some (.inr (nI (t.dep i)), T) := by
  unfold f_X6_depthOf
  rw [a_req h hi, tr_r, (depthIn_ok h.1 hi).1, Option.bind_some]
theorem a_count (h : WF T.1.1 t) {i : Nat} (hi : i < t.size) : f_X4_countIn T.1.1 (nI (t.sl i)) = some (nI (t.sz i)) := by
  rw [f_X4_countIn, rd25 (a_slot h hi)]
  exact congrArg some (cn_sz h.1.2.1 i hi).1
theorem a_count0 (h : WF T.1.1 t) : f_X4_countIn T.1.1 0 = some 0 := by
  rw [f_X4_countIn, show (0 : Int32) = nI 0 from rfl, rd25 (by omega)]
  exact congrArg some h.1.2.2.2.2
theorem a_subtreeSize (h : WF T.1.1 t) {i : Nat} (hi : i < t.size) : f_X6_subtreeSize T (nI (kN T.1.1 t i)) = some (.inr (nI (t.sz i)), T) := by
  unfold f_X6_subtreeSize
  rw [a_req h hi, tr_r, a_count h hi, Option.bind_some]
/-- how many points lie to the left and to the right below a place -/
def Tr.zl (t : Tr) (i : Nat) : Nat := i - t.fi i
def Tr.zr (t : Tr) (i : Nat) : Nat := t.la i - i
theorem sz_lr {i : Nat} (hi : i < t.size) : t.sz i = 1 + t.zl i + t.zr i := by
  have h1 := fi_le i hi
  have h2 := la_ge i hi
  unfold Tr.sz Tr.zl Tr.zr
  omega
theorem sz_l {i : Nat} (hi : i < t.size) (e : t.fi i < i) : t.sz (t.lp i) = t.zl i := by
  obtain ⟨g1, g2, g3, g4⟩ := lp_st i hi e
  unfold Tr.sz Tr.zl
  rw [g2, g3]
  omega
theorem sz_r {i : Nat} (hi : i < t.size) (e : i < t.la i) : t.sz (t.rp i) = t.zr i := by
  obtain ⟨g1, g0, g2, g3, g4⟩ := rp_st i hi e
  unfold Tr.sz Tr.zr
  rw [g2, g3]
  omega
theorem a_countL (h : WF T.1.1 t) {i : Nat} (hi : i < t.size) : f_X4_countIn T.1.1 (nI (t.sl (t.lp i))) = some (nI (t.zl i)) := by
  have h24 := h.le
  by_cases e : t.fi i < i
  · rw [a_count h (by have := lp_lt hi e; omega), sz_l hi e]
  · have h1 := fi_le i hi
    rw [lp_no e h24, show Tr.zl t i = 0 by unfold Tr.zl; omega]
    exact a_count0 h
theorem a_countR (h : WF T.1.1 t) {i : Nat} (hi : i < t.size) : f_X4_countIn T.1.1 (nI (t.sl (t.rp i))) = some (nI (t.zr i)) := by
  have h24 := h.le
  by_cases e : i < t.la i
  · rw [a_count h (rp_lt hi e).1, sz_r hi e]
  · have h1 := la_ge i hi
    rw [rp_no e h24, show Tr.zr t i = 0 by unfold Tr.zr; omega]
    exact a_count0 h
theorem a_imbalanceOf (h : WF T.1.1 t) {i : Nat} (hi : i < t.size) : f_X6_imbalanceOf T (nI (kN T.1.1 t i)) = some (.inr (nI (t.zl i) - nI (t.zr i)), T) := by
  unfold f_X6_imbalanceOf
  rw [a_req h hi, tr_r, (a_child h hi).1, Option.bind_some, a_countL h hi, Option.bind_some, (a_child h hi).2, Option.bind_some, a_countR h hi, Option.bind_some]
end ANS
/-- parents, in the slots -/
theorem par_sl {T : TreeS} {t : Tr} : ∀ q, trp T q t → (0 < t.size → T.par (t.sl (t.tp 0 (t.size - 1))) = nI q) ∧ ∀ p i, p < t.size → t.ch p i → T.par (t.sl i) = nI (t.sl p) := by
  induction t using Tr.ind with
  | nil => intro q _; exact ⟨fun h => absurd h (by rw [Tr.size_nil]; omega), fun p i h => absurd h (by rw [Tr.size_nil]; omega)⟩
  | node l s r hl hr =>
    intro q ht
    obtain ⟨s1, sp, sl0, sr0, tl, tr⟩ := ht
    obtain ⟨l1, l2⟩ := hl s tl
    obtain ⟨r1, r2⟩ := hr s tr
    have e0 : (Tr.node l s r).tp 0 ((Tr.node l s r).size - 1) = l.size := by rw [Tr.size_node, tp_node, if_neg (by omega), if_neg (by omega)]
    refine ⟨fun _ => ?_, fun p i hp hc => ?_⟩
    · rw [e0, sl_node, if_neg (Nat.lt_irrefl _), if_pos rfl]; exact sp
    · rw [Tr.size_node] at hp
      by_cases h1 : p < l.size
      · have ef : (Tr.node l s r).fi p = l.fi p := by rw [fi_node, if_pos h1]
        have el : (Tr.node l s r).la p = l.la p := by rw [la_node, if_pos h1]
        have hla := la_ge (t := l) p h1
        have hc9 : l.ch p i := by
          rcases hc with ⟨g2, g3⟩ | ⟨g2, g3⟩
          · refine Or.inl ⟨by rw [ef] at g2; exact g2, ?_⟩
            unfold Tr.lp at g3 ⊢
            rw [ef] at g2 g3
            rw [if_pos g2, tp_node, if_pos (by omega)] at g3
            rw [if_pos g2]; exact g3
          · refine Or.inr ⟨by rw [el] at g2; exact g2, ?_⟩
            unfold Tr.rp at g3 ⊢
            rw [el] at g2 g3
            rw [if_pos g2, tp_node, if_pos hla.2] at g3
            rw [if_pos g2]; exact g3
        have hi := (ch_st h1 hc9).1
        rw [sl_node, if_pos hi, sl_node, if_pos h1]
        exact l2 p i h1 hc9
      · by_cases h2 : p = l.size
        · subst h2
          have ef : (Tr.node l s r).fi l.size = 0 := by rw [fi_node, if_neg (Nat.lt_irrefl _), if_pos rfl]
          have el : (Tr.node l s r).la l.size = l.size + r.size := by rw [la_node, if_neg (Nat.lt_irrefl _), if_pos rfl]
          rw [sl_node (i := l.size), if_neg (Nat.lt_irrefl _), if_pos rfl]
          rcases hc with ⟨g2, g3⟩ | ⟨g2, g3⟩
          · rw [ef] at g2
            unfold Tr.lp at g3
            rw [ef, if_pos g2, tp_node, if_pos (by omega)] at g3
            have g4 := (root_pl (t := l) (by omega)).1
            rw [← g3, sl_node, if_pos g4]
            exact l1 g2
          · rw [el] at g2
            unfold Tr.rp at g3
            rw [el, if_pos g2, tp_node, if_neg (by omega), if_pos (by omega), show l.size + 1 - l.size - 1 = 0 by omega, show l.size + r.size - l.size - 1 = r.size - 1 by omega] at g3
            rw [← g3, sl_node, if_neg (by omega), if_neg (by omega), show l.size + 1 + r.tp 0 (r.size - 1) - l.size - 1 = r.tp 0 (r.size - 1) by omega]
            exact r1 (by omega)
        · have hla := la_ge (t := r) (p - l.size - 1) (by omega)
          have ef : (Tr.node l s r).fi p = l.size + 1 + r.fi (p - l.size - 1) := by rw [fi_node, if_neg h1, if_neg h2]
          have el : (Tr.node l s r).la p = l.size + 1 + r.la (p - l.size - 1) := by rw [la_node, if_neg h1, if_neg h2]
          have hc9 : ∃ i', i = l.size + 1 + i' ∧ r.ch (p - l.size - 1) i' := by
            rcases hc with ⟨g2, g3⟩ | ⟨g2, g3⟩
            · rw [ef] at g2
              unfold Tr.lp at g3
              have hin := tp_in (t := r) (r.fi (p - l.size - 1)) (p - l.size - 1 - 1) (by omega) (by omega)
              rw [ef, if_pos g2, tp_node, if_neg (by omega), if_pos (by omega), show l.size + 1 + r.fi (p - l.size - 1) - l.size - 1 = r.fi (p - l.size - 1) by omega, show p - 1 - l.size - 1 = p - l.size - 1 - 1 by omega] at g3
              refine ⟨_, g3.symm, Or.inl ⟨by omega, ?_⟩⟩
              unfold Tr.lp
              rw [if_pos (by omega)]
            · rw [el] at g2
              unfold Tr.rp at g3
              rw [el, if_pos g2, tp_node, if_neg (by omega), if_pos (by omega), show p + 1 - l.size - 1 = p - l.size - 1 + 1 by omega, show l.size + 1 + r.la (p - l.size - 1) - l.size - 1 = r.la (p - l.size - 1) by omega] at g3
              refine ⟨_, g3.symm, Or.inr ⟨by omega, ?_⟩⟩
              unfold Tr.rp
              rw [if_pos (by omega)]
          obtain ⟨i', rfl, hc8⟩ := hc9
          have hi := (ch_st (by omega) hc8).1
          rw [sl_node, if_neg (by omega), if_neg (by omega), show l.size + 1 + i' - l.size - 1 = i' by omega, sl_node (i := p), if_neg h1, if_neg h2]
          exact r2 (p - l.size - 1) i' (by omega) hc8
theorem tp_sub {t : Tr} : ∀ a b, a ≤ b → b < t.size → t.sub (t.tp a b) a ∧ t.sub (t.tp a b) b := by
  induction t using Tr.ind with
  | nil => intro a b _ h; rw [Tr.size_nil] at h; omega
  | node l s r hl hr =>
    intro a b hab hb
    rw [Tr.size_node] at hb
    rw [tp_node]
    by_cases h1 : b < l.size
    · have hin := tp_in (t := l) a b hab h1
      have hg := hl a b hab h1
      unfold Tr.sub at hg ⊢
      rw [if_pos h1, fi_node, la_node, if_pos (by omega), if_pos (by omega)]
      exact hg
    · rw [if_neg h1]
      by_cases h2 : l.size < a
      · have hin := tp_in (t := r) (a - l.size - 1) (b - l.size - 1) (by omega) (by omega)
        have hg := hr (a - l.size - 1) (b - l.size - 1) (by omega) (by omega)
        generalize hq : r.tp (a - l.size - 1) (b - l.size - 1) = q at hin hg
        unfold Tr.sub at hg ⊢
        rw [if_pos h2, fi_node, la_node, if_neg (by omega), if_neg (by omega), if_neg (by omega), if_neg (by omega), show l.size + 1 + q - l.size - 1 = q by omega]
        omega
      · unfold Tr.sub
        rw [if_neg h2, fi_node, la_node, if_neg (Nat.lt_irrefl _), if_neg (Nat.lt_irrefl _), if_pos rfl, if_pos rfl]
        omega
section ANS2
variable {T : MainS} {t : Tr}
abbrev Tr.rt0 (t : Tr) : Nat := t.tp 0 (t.size - 1)
theorem a_parentOf0 (h : WF T.1.1 t) (h0 : 0 < t.size) : f_X6_parentOf T (nI (kN T.1.1 t t.rt0)) = some (.inl NSE, T) := by
  have hi := (root_pl h0).1
  unfold f_X6_parentOf
  rw [a_req h hi, tr_r, f_X4_parentIn, rd25 (a_slot h hi), Option.bind_some, tr_id, show T.1.1.2.2.1 (t.sl (t.tp 0 (t.size - 1))) = nI 0 from (par_sl 0 h.1.1.2).1 h0]
  exact keyIn_no T
theorem a_parentOf (h : WF T.1.1 t) {p i : Nat} (hp : p < t.size) (hc : t.ch p i) : f_X6_parentOf T (nI (kN T.1.1 t i)) = some (.inr (nI (kN T.1.1 t p)), T) := by
  have hi := (ch_st hp hc).1
  unfold f_X6_parentOf
  rw [a_req h hi, tr_r, f_X4_parentIn, rd25 (a_slot h hi), Option.bind_some, tr_id, show T.1.1.2.2.1 (t.sl i) = nI (t.sl p) from (par_sl 0 h.1.1.2).2 p i hp hc, a_found h hp]
theorem a_root (h : WF T.1.1 t) : f_X6_root T = if 0 < t.size then some (.inr (nI (kN T.1.1 t t.rt0)), T) else some (.inl NSE, T) := by
  unfold f_X6_root f_X4_topmost
  rw [Option.bind_some, tr_id, show T.1.1.2.2.2.2.2.2 = nI t.root from h.1.1.1]
  by_cases e : 0 < t.size
  · rw [if_pos e, ← (root_pl e).2.2.2.2, a_found h (root_pl e).1]
  · rw [if_neg e]
    have hn : t.root = 0 := by
      cases t using Tr.cas with
      | nil => rfl
      | node l s r => exact absurd (show 0 < (Tr.node l s r).size by rw [Tr.size_node]; omega) e
    rw [hn]
    exact keyIn_no T
/-- one above the others -/
theorem top_abv (h : WF T.1.1 t) {c i : Nat} (hc : c < t.size) (hi : i < t.size) (hs : t.sub c i) (hne : i ≠ c) : abv T.1.1 (t.sl c) (t.sl i) := by
  have h1 := tp_abv 0 (t.fi c) (t.la c) h.1.1.2 h.2.2.1 (Nat.le_trans hs.1 hs.2) (la_ge c hc).2 i hs.1 hs.2
  rw [tp_self c hc] at h1
  exact h1 hne
theorem ch_abv (h : WF T.1.1 t) {p i : Nat} (hp : p < t.size) (hc : t.ch p i) : abv T.1.1 (t.sl p) (t.sl i) := by
  obtain ⟨hi, -, hk⟩ := ch_st hp hc
  have h1 := fi_le (t := t) i hi
  have h2 := la_ge (t := t) i hi
  have h3 := fi_le (t := t) p hp
  have h4 := la_ge (t := t) p hp
  refine top_abv h hp hi ?_ (by rcases hk with ⟨a1, a2, a3⟩ | ⟨a1, a2, a3⟩ <;> omega)
  unfold Tr.sub
  rcases hk with ⟨a1, a2, a3⟩ | ⟨a1, a2, a3⟩ <;> omega
theorem tp_uniq (h : WF T.1.1 t) {a b c : Nat} (hac : a ≤ c) (hcb : c ≤ b) (hb : b < t.size) (hs : t.sub c a) (hs2 : t.sub c b) : t.tp a b = c := by
  have hin := tp_in (t := t) a b (by omega) hb
  rcases Nat.decEq (t.tp a b) c with e | e
  · have h1 := tp_abv 0 a b h.1.1.2 h.2.2.1 (by omega) hb c hac hcb (fun h9 => e h9.symm)
    have h2 := top_abv h (c := c) (i := t.tp a b) (by omega) (by omega) ⟨by have := hs.1; omega, by have := hs2.2; omega⟩ e
    exact (abv_asymm h1 h2).elim
  · exact e
end ANS2
