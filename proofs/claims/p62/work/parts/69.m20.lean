/-! ===== mathematics, 20: ranges go; windows come and go ===== -/
abbrev inr (T : TreeS) (lo hi : Int32) (s : Nat) : Prop := lo ≤ T.1 s ∧ T.1 s ≤ hi
theorem filter_ne {A B : List Nat} {x : Nat} (h : (A ++ x :: B).Nodup) : (A ++ x :: B).filter (fun s => decide (s ≠ x)) = A ++ B := by
  rw [List.nodup_append, List.nodup_cons] at h
  have ha : A.filter (fun s => decide (s ≠ x)) = A := List.filter_eq_self.mpr fun a ha => decide_eq_true (h.2.2 a ha x (by simp))
  have hb : B.filter (fun s => decide (s ≠ x)) = B := List.filter_eq_self.mpr fun b hb => decide_eq_true (by rintro rfl; exact h.2.1.1 hb)
  rw [List.filter_append, List.filter_cons, if_neg (by simp), ha, hb]
theorem removeRange_c5 {T : TreeS} {t : Tr} {lo hi : Int32} : ∀ (n i v : Nat) (Ti : TreeS) (ti : Tr), WF Ti ti → Ti.1 = T.1 → Ti.2.1 = T.2.1 → ti.slots = t.slots.filter (fun s => decide (¬ (inr T lo hi s ∧ s < i))) → v + ti.size = t.size → 1 ≤ i → i ≤ 25 → 25 - i < n → (∀ s ∈ t.slots, s ≤ 24) →
    ∃ (v' : Nat) (T' : TreeS) (t' : Tr), f_X4_removeRange_c5 n Ti lo hi (nI v) (nI i) = some (nI v', T') ∧ WF T' t' ∧ T'.1 = T.1 ∧ T'.2.1 = T.2.1 ∧ t'.slots = t.slots.filter (fun s => decide (¬ inr T lo hi s)) ∧ v' + t'.size = t.size
  | 0, i, v, Ti, ti, _, _, _, _, _, _, _, hn, _ => absurd hn (by omega)
  | n + 1, i, v, Ti, ti, hw, k1, k2, hs, hv, h1, h2, hn, h24 => by
    rw [f_X4_removeRange_c5]
    by_cases e : i = 25
    · rw [if_pos (show (24 : Int32) < nI i from nI_lt (a := 24) (by omega) (by omega))]
      refine ⟨v, Ti, ti, rfl, hw, k1, k2, ?_, hv⟩
      rw [hs]
      refine List.filter_congr (fun s hs => ?_)
      have := h24 s hs
      refine decide_eq_decide.mpr ⟨fun h9 h8 => h9 ⟨h8, by omega⟩, fun h9 h8 => h9 h8.1⟩
    · rw [if_neg (show ¬ (24 : Int32) < nI i from nI_nlt (a := 24) (by omega) (by omega)), isInRange_ok hw.1 h1 (by omega), Option.bind_some, nI_1]
      by_cases hc : i ∈ ti.slots ∧ lo ≤ Ti.1 i ∧ Ti.1 i ≤ hi
      · rw [if_pos hc, if_neg n10]
        obtain ⟨j, hj, ej⟩ := sl_ex hc.1
        obtain ⟨T0, T1, t1, m1, A, B, d1, d2, w1, e1, e2, hA, q1, q2, -⟩ := del_ok hw hj
        rw [ej] at d1 d2 e1
        rw [d1, Option.bind_some, d2, Option.bind_some, nI_1]
        have hsz : ti.size = t1.size + 1 := by rw [← Tr.len, ← Tr.len, e1, e2, List.length_append, List.length_append, List.length_cons]; omega
        refine removeRange_c5 n (i + 1) (v + 1) T1 t1 w1 (q1.trans k1) (q2.trans k2) ?_ (by omega) (by omega) (by omega) (by omega) h24
        rw [e2, ← filter_ne (x := i) (by rw [← e1]; exact hw.1.2.2.1), ← e1, hs, List.filter_filter]
        refine List.filter_congr (fun s _ => ?_)
        rw [k1] at hc
        have hci : inr T lo hi i := hc.2
        rw [← Bool.decide_and]
        refine decide_eq_decide.mpr ⟨fun h9 h8 => ?_, fun h9 => ⟨fun h8 => h9 ⟨by rw [h8]; exact hci, by omega⟩, fun h8 => h9 ⟨h8.1, by omega⟩⟩⟩
        by_cases e9 : s = i
        · exact h9.1 e9
        · exact h9.2 ⟨h8.1, by omega⟩
      · rw [if_neg hc, if_pos rfl]
        refine removeRange_c5 n (i + 1) v Ti ti hw k1 k2 ?_ hv (by omega) (by omega) (by omega) h24
        rw [hs]
        refine List.filter_congr (fun s hsm => ?_)
        refine decide_eq_decide.mpr ⟨fun h9 h8 => ?_, fun h9 h8 => h9 ⟨h8.1, by omega⟩⟩
        by_cases e9 : s = i
        · refine hc ⟨?_, by rw [k1, ← e9]; exact h8.1⟩
          rw [hs, List.mem_filter]
          exact ⟨by rw [← e9]; exact hsm, decide_eq_true (fun h7 => by omega)⟩
        · exact h9 ⟨h8.1, by omega⟩
theorem removeRange_ok {T : TreeS} {t : Tr} (h : WF T t) (lo hi : Int32) : ∃ (v' : Nat) (T' : TreeS) (t' : Tr), f_X4_removeRange T lo hi = some (nI v', T') ∧ WF T' t' ∧ T'.1 = T.1 ∧ T'.2.1 = T.2.1 ∧ t'.slots = t.slots.filter (fun s => decide (¬ inr T lo hi s)) ∧ v' + t'.size = t.size := by
  refine removeRange_c5 200 1 0 T t h rfl rfl ?_ (by omega) (by omega) (by omega) (by omega) (fun s hs => (h.1.mem s hs).2)
  refine (List.filter_eq_self.mpr fun s hs => ?_).symm
  rw [decide_eq_true_iff]
  intro h9
  have := (h.1.mem s hs).1
  omega
theorem inR_ok (k lo hi : Int32) : f_X7_in k lo hi = some (if lo ≤ k ∧ k ≤ hi then 1 else 0) := by
  unfold f_X7_in
  by_cases e1 : k < lo
  · rw [if_pos e1, if_neg (fun h9 => Int32.not_le.mpr e1 h9.1)]
  · rw [if_neg e1]
    by_cases e2 : hi < k
    · rw [if_pos e2, if_neg (fun h9 => Int32.not_le.mpr e2 h9.2)]
    · rw [if_neg e2, if_pos ⟨Int32.not_lt.mp e1, Int32.not_lt.mp e2⟩]
theorem clears_c24 {T : TreeS} {L : List Nat} {lo hi : Int32} (h24 : L.length ≤ 24) (M : ModS) (w d c : Int32) : ∀ (n j v : Nat) (a : Nat → Int32), j ≤ L.length → MRL (mset M a (nI v) w d c) T (L.take j ++ (L.drop j).filter (fun s => decide (¬ inr T lo hi s))) → v + (L.take j ++ (L.drop j).filter (fun s => decide (¬ inr T lo hi s))).length = L.length → j < n →
    ∃ (v' : Nat) (a' : Nat → Int32), f_X7_clears_c24 n (mset M a (nI v) w d c) lo hi (nI j - 1) = some (0, mset M a' (nI v') w d c) ∧ MRL (mset M a' (nI v') w d c) T (L.filter (fun s => decide (¬ inr T lo hi s))) ∧ v' + (L.filter (fun s => decide (¬ inr T lo hi s))).length = L.length ∧ ∀ q, q = 1 ∨ 50 ≤ q → a' q = a q
  | 0, j, v, a, _, _, _, hn => absurd hn (by omega)
  | n + 1, j, v, a, hj, hM, hv, hn => by
    rw [f_X7_clears_c24]
    by_cases e : j = 0
    · rw [e] at hM hv ⊢
      rw [if_pos (show nI 0 - 1 < 0 by decide)]
      exact ⟨v, a, rfl, hM, hv, fun _ _ => rfl⟩
    · obtain ⟨q, rfl⟩ : ∃ q, j = q + 1 := ⟨j - 1, by omega⟩
      have hq : q < L.length := by omega
      have hdrop : L.drop q = L.getD q 0 :: L.drop (q + 1) := by
        rw [List.drop_eq_getElem_cons hq, List.getD_eq_getElem?_getD, List.getElem?_eq_getElem hq]; rfl
      have htake : L.take (q + 1) = L.take q ++ [L.getD q 0] := by
        rw [List.take_succ_eq_append_getElem hq, List.getD_eq_getElem?_getD, List.getElem?_eq_getElem hq]; rfl
      have htl : (L.take q).length = q := by rw [List.length_take]; omega
      generalize L.getD q 0 = x at hdrop htake
      rw [htake, List.append_assoc, List.singleton_append] at hM hv
      have hlen := hv
      rw [List.length_append, List.length_cons, htl] at hlen
      have hk := (hM.at (i := q) (by rw [List.length_append, List.length_cons, htl]; omega)).1
      rw [getD_ins, if_neg (by omega), if_pos htl.symm] at hk
      rw [nI_pred, if_neg (nI_pos (by omega)), key_ok (by omega), Option.bind_some, show mK (mset M a (nI v) w d c) q = T.1 x from hk, inR_ok, Option.bind_some, add_m1]
      by_cases hx : lo ≤ T.1 x ∧ T.1 x ≤ hi
      · have hf : (L.drop q).filter (fun s => decide (¬ inr T lo hi s)) = (L.drop (q + 1)).filter (fun s => decide (¬ inr T lo hi s)) := by
          rw [hdrop, List.filter_cons, if_neg (by rw [decide_eq_true_iff]; exact fun h9 => h9 hx)]
        have hN : (L.take q ++ (L.drop (q + 1)).filter (fun s => decide (¬ inr T lo hi s))).length = q + ((L.drop (q + 1)).filter (fun s => decide (¬ inr T lo hi s))).length := by rw [List.length_append, htl]
        have hM1 : mNs (mset M a (nI v) w d c) ((L.take q ++ (L.drop (q + 1)).filter (fun s => decide (¬ inr T lo hi s))).length + 1) := by
          have := hM.1
          rw [List.length_append, List.length_cons, htl] at this
          rw [hN]
          exact this
        rw [if_pos hx, if_neg n10, shuts_ok hM1 (by omega) (by omega), Option.bind_some]
        have hM2 := shA_MA (x1 := M.1) (R := (mset M a (nI (v + 1)) w d c).2.2) hM rfl (T' := T) (fun x _ => ⟨rfl, rfl⟩)
        rw [htl] at hM2
        have hfar : ∀ z, z = 1 ∨ 50 ≤ z → shA a q (L.take q ++ (L.drop (q + 1)).filter (fun s => decide (¬ inr T lo hi s))).length z = a z := fun z hz => shA_far (by omega) hz
        obtain ⟨v', a', g1, g2, g3, g4⟩ := clears_c24 h24 M w d c n q (v + 1) _ (by omega) (by rw [hf]; exact hM2) (by rw [hf, hN]; omega) (by omega)
        refine ⟨v', a', ?_, g2, g3, fun z hz => (g4 z hz).trans (hfar z hz)⟩
        rw [← g1]
        show f_X7_clears_c24 n (M.1, _, M.2.2.1, M.2.2.2.1, nI v + 1, w, d, c, _) lo hi _ = _
        rw [nI_1]
      · have hf : (L.drop q).filter (fun s => decide (¬ inr T lo hi s)) = x :: (L.drop (q + 1)).filter (fun s => decide (¬ inr T lo hi s)) := by
          rw [hdrop, List.filter_cons, if_pos (decide_eq_true hx)]
        rw [if_neg hx, if_pos rfl]
        exact clears_c24 h24 M w d c n q v a (by omega) (by rw [hf]; exact hM) (by rw [hf]; exact hv) (by omega)
theorem sumL_filter {w : Nat → Nat} {p : Nat → Bool} : ∀ {L : List Nat}, sumL w (L.filter p) ≤ sumL w L
  | [] => Nat.le_refl _
  | a :: L => by
    have := sumL_filter (w := w) (p := p) (L := L)
    rw [List.filter_cons, sumL_cons]
    split
    · rw [sumL_cons]; omega
    · omega
theorem isRangeR {lo hi : Nat} (hl : lo ≤ hi) (hh : hi ≤ 99) : f_X7_isRange (nI lo) (nI hi) = some 1 := by
  unfold f_X7_isRange
  rw [isNumR (by omega), Option.bind_some, if_neg n10, isNumR hh, Option.bind_some, if_neg n10, if_neg (nI_nlt hl (by omega))]
theorem clrR {D : DataS} {M : ModS} {t : Tr} {lo hi : Nat} (h : DR D M.2.1 t) (hl : lo ≤ hi) (hh : hi ≤ 99) :
    ∃ (m : Int32) (T' : TreeS) (a : Nat → Int32) (t' : Tr), f_X4_removeRange D.1 (nI lo) (nI hi) = some (m, T') ∧ f_X7_clears M (nI lo) (nI hi) = some (0, mset M a m M.2.2.2.2.2.1 M.2.2.2.2.2.2.1 M.2.2.2.2.2.2.2.1) ∧ (∀ j, 70 ≤ j → a j = M.2.1 j) ∧ DR (T', D.2.1, D.2.2) a t' := by
  have hw := h.1
  have hM := h.mr
  have h24 := hw.le
  obtain ⟨v1, T', t', r1, w1, k1, k2, e1, e2⟩ := removeRange_ok hw (nI lo) (nI hi)
  obtain ⟨v2, a', g1, g2, g3, g4⟩ := clears_c24 (T := D.1) (L := t.slots) (lo := nI lo) (hi := nI hi) (by rw [Tr.len]; exact h24) M M.2.2.2.2.2.1 M.2.2.2.2.2.2.1 M.2.2.2.2.2.2.2.1 200 t.size 0 M.2.1 (by rw [Tr.len]; exact Nat.le_refl _) (by
    rw [← Tr.len, List.take_length, List.drop_length, List.filter_nil, List.append_nil]; exact MR_iff.mp hM) (by
    rw [← Tr.len, List.take_length, List.drop_length, List.filter_nil, List.append_nil]; omega) (by omega)
  rw [← e1] at g2 g3
  have hv : v2 = v1 := by rw [Tr.len, Tr.len] at g3; omega
  rw [hv] at g1 g2
  have hM2 : MR (mset M a' (nI v1) M.2.2.2.2.2.1 M.2.2.2.2.2.2.1 M.2.2.2.2.2.2.2.1) T' t' := by
    refine MR_iff.mpr ⟨g2.1, fun i hi => ?_⟩
    rw [k1, k2]; exact g2.2 i hi
  refine ⟨nI v1, T', a', t', r1, ?_, fun j hj => g4 j (Or.inr (by omega)), DR.of (D := (T', D.2.1, D.2.2)) (M := mset M a' (nI v1) M.2.2.2.2.2.1 M.2.2.2.2.2.2.1 M.2.2.2.2.2.2.2.1) w1 hM2 ((g4 1 (Or.inl rfl)).trans h.2.2.1) (h.2.2.2.1.congr (fun j h1 _ => g4 j (Or.inr h1))) (fun w hw4 ho => ?_)⟩
  · unfold f_X7_clears
    rw [isRangeR hl hh, Option.bind_some, if_neg n10, hM.1]
    exact g1
  · have hle : wc D.2.1 T' t'.slots w ≤ wc D.2.1 D.1 t.slots w := by
      have h8 : wc D.2.1 T' t'.slots w = wc D.2.1 D.1 t'.slots w := sumL_congr fun x _ => wA_agr (T := D.1) (T' := T') ⟨by rw [k1], by rw [k2]⟩ _ _ _
      rw [h8, e1]; exact sumL_filter
    have h2 := wc_le (W := D.2.1) (T := D.1) (L := t.slots) (w := w)
    rw [Tr.len] at h2
    exact Int32.le_trans (nI_le hle (by omega)) (h.2.2.2.2 w hw4 ho)
/-! windows -/
theorem win_cases (x : Int32) : (∃ w : Nat, w < 4 ∧ x = nI w) ∨ (x < 0 ∨ 3 < x) := by
  by_cases h : x < 0
  · exact Or.inr (Or.inl h)
  · by_cases h2 : 3 < x
    · exact Or.inr (Or.inr h2)
    · obtain ⟨j, h3, h4⟩ := nI_of2 (M := 3) (n := 3) rfl h (Int32.not_lt.mp h2)
      exact Or.inl ⟨j, by omega, h4⟩
theorem lim_cases (x : Int32) : (∃ w : Nat, 1 ≤ w ∧ w ≤ 24 ∧ x = nI w) ∨ (x < 1 ∨ 24 < x) := by
  by_cases h : x < 1
  · exact Or.inr (Or.inl h)
  · by_cases h2 : 24 < x
    · exact Or.inr (Or.inr h2)
    · have h0 : ¬ x < 0 := fun h9 => h (Int32.lt_trans h9 (by decide))
      obtain ⟨j, h3, h4⟩ := nI_of2 (M := 24) (n := 24) rfl h0 (Int32.not_lt.mp h2)
      refine Or.inl ⟨j, ?_, h3, h4⟩
      by_cases e : j = 0
      · exact absurd (by rw [h4, e]; decide) h
      · omega
theorem isWinR {w : Nat} (h : w < 4) : f_X7_isWindow (nI w) = some 1 := by
  unfold f_X7_isWindow f_X7_in
  rw [if_neg (nI_pos (by omega)), if_neg (show ¬ (3 : Int32) < nI w from nI_nlt (a := 3) (by omega) (by omega))]; rfl
theorem isWinR_no {x : Int32} (h : x < 0 ∨ 3 < x) : f_X7_isWindow x = some 0 := by
  unfold f_X7_isWindow f_X7_in
  by_cases h1 : x < 0
  · rw [if_pos h1]; rfl
  · rw [if_neg h1, if_pos (by rcases h with h | h; exact absurd h h1; exact h)]; rfl
theorem isWinC {w : Nat} (h : w < 4) : f_X6_isWindow (nI w) = some 1 := by
  unfold f_X6_isWindow
  rw [if_neg (nI_pos (by omega)), if_neg (show ¬ (4 : Int32) ≤ nI w from nI_ge (b := 4) (by omega) (by omega))]
theorem isWinC_no {x : Int32} (h : x < 0 ∨ 3 < x) : f_X6_isWindow x = some 0 := by
  unfold f_X6_isWindow
  by_cases h1 : x < 0
  · rw [if_pos h1]
  · rw [if_neg h1, if_pos]
    rcases h with h | h
    · exact absurd h h1
    · rw [Int32.lt_iff_toInt_lt, show (3 : Int32).toInt = 3 from rfl] at h
      rw [Int32.le_iff_toInt_le, show (4 : Int32).toInt = 4 from rfl]
      omega
def setA (a : Nat → Int32) (w : Nat) (lo hi p li : Int32) : Nat → Int32 := upd (upd (upd (upd (upd a (50 + 5 * w) 1) (50 + 5 * w + 1) lo) (50 + 5 * w + 2) hi) (50 + 5 * w + 3) p) (50 + 5 * w + 4) li
theorem setA_far {a : Nat → Int32} {w : Nat} {lo hi p li : Int32} {j : Nat} (h : j < 50 + 5 * w ∨ 50 + 5 * w + 5 ≤ j) : setA a w lo hi p li j = a j := by
  rw [setA, upd_ne _ _ (by omega), upd_ne _ _ (by omega), upd_ne _ _ (by omega), upd_ne _ _ (by omega), upd_ne _ _ (by omega)]
theorem setA_at (a : Nat → Int32) (w : Nat) (lo hi p li : Int32) : setA a w lo hi p li (50 + 5 * w) = 1 ∧ setA a w lo hi p li (50 + 5 * w + 1) = lo ∧ setA a w lo hi p li (50 + 5 * w + 2) = hi ∧ setA a w lo hi p li (50 + 5 * w + 3) = p ∧ setA a w lo hi p li (50 + 5 * w + 4) = li := by
  refine ⟨?_, ?_, ?_, ?_, ?_⟩
  · rw [setA, upd_ne _ _ (by omega), upd_ne _ _ (by omega), upd_ne _ _ (by omega), upd_ne _ _ (by omega), upd_eq]
  · rw [setA, upd_ne _ _ (by omega), upd_ne _ _ (by omega), upd_ne _ _ (by omega), upd_eq]
  · rw [setA, upd_ne _ _ (by omega), upd_ne _ _ (by omega), upd_eq]
  · rw [setA, upd_ne _ _ (by omega), upd_eq]
  · rw [setA, upd_eq]
theorem open_ok (W : WinS) {w : Nat} (hw : w < 4) (lo hi p li : Int32) : f_X5_open W (nI w) lo hi p li = some (upd W.1 w lo, upd W.2.1 w hi, upd W.2.2.1 w p, upd W.2.2.2 w li) := by
  unfold f_X5_open
  rw [wrW hw, wrW hw, wrW hw, wrW hw]
theorem WR_set {W : WinS} {a : Nat → Int32} (h : WR W a) {w : Nat} (hw : w < 4) {lo hi p li : Nat} (h1 : lo ≤ hi) (h2 : hi ≤ 99) (h3 : p ≤ 99) (h4 : 1 ≤ li) (h5 : li ≤ 24) : WR (upd W.1 w (nI lo), upd W.2.1 w (nI hi), upd W.2.2.1 w (nI p), upd W.2.2.2 w (nI li)) (setA a w (nI lo) (nI hi) (nI p) (nI li)) := fun v hv => by
  by_cases e : v = w
  · rw [e]
    obtain ⟨s1, s2, s3, s4, s5⟩ := setA_at a w (nI lo) (nI hi) (nI p) (nI li)
    exact Or.inr ⟨lo, hi, p, li, h1, h2, h3, h4, h5, upd_eq _ _ _, upd_eq _ _ _, upd_eq _ _ _, upd_eq _ _ _, s1, s2, s3, s4, s5⟩
  · have := h v hv
    unfold WR1 at this ⊢
    rw [setA_far (by omega), setA_far (by omega), setA_far (by omega), setA_far (by omega), setA_far (by omega)]
    show (upd W.2.2.2 w (nI li) v = 0 ∧ _) ∨ ∃ lo_1 hi_1 p_1 li_1 : Nat, _ ∧ _ ∧ _ ∧ _ ∧ _ ∧ upd W.1 w (nI lo) v = nI lo_1 ∧ upd W.2.1 w (nI hi) v = nI hi_1 ∧ upd W.2.2.1 w (nI p) v = nI p_1 ∧ upd W.2.2.2 w (nI li) v = nI li_1 ∧ _
    rw [upd_ne _ _ e, upd_ne _ _ e, upd_ne _ _ e, upd_ne _ _ e]
    exact this
theorem writes_ok {M : ModS} {w : Nat} (hw : w < 4) (x lo hi : Int32) : f_X7_writesWindow M (nI w) x lo hi = some (M.1, upd (upd (upd M.2.1 (50 + 5 * w) x) (50 + 5 * w + 1) lo) (50 + 5 * w + 2) hi, M.2.2) := by
  unfold f_X7_writesWindow
  rw [show (50 + 5 * nI w : Int32) = nI (50 + 5 * w) by rw [show (5 : Int32) = nI 5 from rfl, show (50 : Int32) = nI 50 from rfl, nI_mulX, nI_add], nI_1, nI_a2, if_neg (nI_in (by omega) (by decide)), if_neg (nI_in (by omega) (by decide)), if_neg (nI_in (by omega) (by decide)), nI_clamp (by omega), nI_clamp (by omega), nI_clamp (by omega)]
theorem setR {D : DataS} {M : ModS} {t : Tr} {w lo hi p li : Nat} (h : DR D M.2.1 t) (hw : w < 4) (h1 : lo ≤ hi) (h2 : hi ≤ 99) (h3 : p ≤ 99) (h4 : 1 ≤ li) (h5 : li ≤ 24) :
    (f_X1_reasonAgainstWindow D (nI lo) (nI hi) (nI p) (nI li) = some 3 ∧ ∃ (a : Nat → Int32) (res : Int32), f_X7_sets M (nI w) (nI lo) (nI hi) (nI p) (nI li) = some (3, mset M a res 3 (nI w) 0) ∧ ∀ j, 70 ≤ j → a j = M.2.1 j) ∨
    (f_X1_reasonAgainstWindow D (nI lo) (nI hi) (nI p) (nI li) = some 0 ∧ ∃ (W' : WinS) (m : Int32) (a : Nat → Int32), f_X5_open D.2.1 (nI w) (nI lo) (nI hi) (nI p) (nI li) = some W' ∧ f_X1_countInWindow (D.1, W', D.2.2) (nI w) = some m ∧ f_X7_sets M (nI w) (nI lo) (nI hi) (nI p) (nI li) = some (0, mset M a m M.2.2.2.2.2.1 M.2.2.2.2.2.2.1 M.2.2.2.2.2.2.2.1) ∧ (∀ j, 70 ≤ j → a j = M.2.1 j) ∧ DR (D.1, W', D.2.2) a t) := by
  have hwf := h.1
  have hM := h.mr
  have h24 := hwf.le
  have hWR := WR_set h.2.2.2.1 hw h1 h2 h3 h4 h5
  generalize hWd : ((upd D.2.1.1 w (nI lo), upd D.2.1.2.1 w (nI hi), upd D.2.1.2.2.1 w (nI p), upd D.2.1.2.2.2 w (nI li)) : WinS) = W' at hWR
  have hop : f_X5_open D.2.1 (nI w) (nI lo) (nI hi) (nI p) (nI li) = some W' := by rw [open_ok _ hw, ← hWd]
  have hwcW : ∀ L, wc W' D.1 L w = sumL (wA D.1 (nI lo) (nI hi) (nI p)) L := fun L => by
    rw [wc, ← hWd]
    show sumL (wA D.1 (upd D.2.1.1 w (nI lo) w) (upd D.2.1.2.1 w (nI hi) w) (upd D.2.1.2.2.1 w (nI p) w)) L = _
    rw [upd_eq, upd_eq, upd_eq]
  have ho : W'.2.2.2 w = nI li := by rw [← hWd]; exact upd_eq _ _ _
  have ho0 : W'.2.2.2 w ≠ 0 := by rw [ho]; exact nI_ne0 (by omega) (by omega)
  have hfar : ∀ j, j < 50 ∨ 70 ≤ j → setA M.2.1 w (nI lo) (nI hi) (nI p) (nI li) j = M.2.1 j := fun j hj => setA_far (by omega)
  have hMs : ∀ res y d c : Int32, MR (mset M (setA M.2.1 w (nI lo) (nI hi) (nI p) (nI li)) res y d c) D.1 t := fun res y d c => by
    refine ⟨(hfar 0 (by omega)).trans hM.1, fun i hi => ?_⟩
    have := hM.2 i hi
    rw [Tr.len] at hi
    show setA M.2.1 w _ _ _ _ (2 + 2 * (0 + i)) = _ ∧ setA M.2.1 w _ _ _ _ (2 + 2 * (0 + i) + 1) = _
    rw [hfar _ (by omega), hfar _ (by omega)]; exact this
  have hin : f_X7_inWindow (mset M (setA M.2.1 w (nI lo) (nI hi) (nI p) (nI li)) M.2.2.2.2.1 M.2.2.2.2.2.1 M.2.2.2.2.2.2.1 M.2.2.2.2.2.2.2.1) (nI w) = some (nI (wc W' D.1 t.slots w)) := inWindow_set (MR_iff.mp (hMs _ _ _ _)) (by rw [Tr.len]; exact h24) hw (hWR w hw) ho0
  have hle := wc_le (W := W') (T := D.1) (L := t.slots) (w := w)
  rw [Tr.len] at hle
  have hreas : f_X1_reasonAgainstWindow D (nI lo) (nI hi) (nI p) (nI li) = some (if nI (wc W' D.1 t.slots w) ≤ nI li then 0 else 3) := by
    unfold f_X1_reasonAgainstWindow
    rw [scanAbove_ok hwf.1, Option.bind_some, ← hwcW]
    by_cases e : nI (wc W' D.1 t.slots w) ≤ nI li
    · rw [if_pos e, if_pos e]
    · rw [if_neg e, if_neg e]
  have hsets : f_X7_sets M (nI w) (nI lo) (nI hi) (nI p) (nI li) = (if nI (wc W' D.1 t.slots w) ≤ nI li then some (0, mset M (setA M.2.1 w (nI lo) (nI hi) (nI p) (nI li)) (nI (wc W' D.1 t.slots w)) M.2.2.2.2.2.1 M.2.2.2.2.2.2.1 M.2.2.2.2.2.2.2.1) else some (3, mset M (setA M.2.1 w (nI lo) (nI hi) (nI p) (nI li)) (nI (wc W' D.1 t.slots w)) 3 (nI w) 0)) := by
    unfold f_X7_sets
    rw [isWinR hw, Option.bind_some, if_neg n10, isRangeR h1 h2, Option.bind_some, if_neg n10, isNumR h3, Option.bind_some, if_neg n10, inR_ok, Option.bind_some, if_pos (show (1 : Int32) ≤ nI li ∧ nI li ≤ 24 from ⟨nI_le (a := 1) (by omega) (by omega), nI_le (b := 24) (by omega) (by omega)⟩), if_neg n10, writes_ok hw, Option.bind_some, show (50 + 5 * nI w : Int32) = nI (50 + 5 * w) by rw [show (5 : Int32) = nI 5 from rfl, show (50 : Int32) = nI 50 from rfl, nI_mulX, nI_add], show nI (50 + 5 * w) + 3 = nI (50 + 5 * w + 3) by rw [show (3 : Int32) = nI 3 from rfl, nI_add], show nI (50 + 5 * w) + 4 = nI (50 + 5 * w + 4) by rw [show (4 : Int32) = nI 4 from rfl, nI_add], if_neg (nI_in (by omega) (by decide)), if_neg (nI_in (by omega) (by decide)), nI_clamp (by omega), nI_clamp (by omega)]
    show (f_X7_inWindow (mset M (setA M.2.1 w (nI lo) (nI hi) (nI p) (nI li)) M.2.2.2.2.1 M.2.2.2.2.2.1 M.2.2.2.2.2.2.1 M.2.2.2.2.2.2.2.1) (nI w)).bind _ = _
    rw [hin, Option.bind_some, rejects_0, rejects_1]
    rfl
  by_cases e : nI (wc W' D.1 t.slots w) ≤ nI li
  · rw [if_pos e] at hreas hsets
    refine Or.inr ⟨hreas, W', _, _, hop, countInWindow_ok (D := (D.1, W', D.2.2)) hwf hw, hsets, fun j hj => hfar j (Or.inr hj), DR.of (D := (D.1, W', D.2.2)) (M := mset M (setA M.2.1 w (nI lo) (nI hi) (nI p) (nI li)) 0 0 0 0) hwf (hMs _ _ _ _) ((hfar 1 (by omega)).trans h.2.2.1) hWR (fun v hv hvo => ?_)⟩
    show nI (wc W' D.1 t.slots v) ≤ W'.2.2.2 v
    by_cases ev : v = w
    · rw [ev, ho]; exact e
    · have h9 := h.2.2.2.2 v hv (by rw [← hWd] at hvo; exact fun h8 => hvo ((upd_ne _ _ ev).trans h8))
      have e1 : wc W' D.1 t.slots v = wc D.2.1 D.1 t.slots v := by
        rw [wc, wc, ← hWd]
        show sumL (wA D.1 (upd D.2.1.1 w (nI lo) v) (upd D.2.1.2.1 w (nI hi) v) (upd D.2.1.2.2.1 w (nI p) v)) _ = _
        rw [upd_ne _ _ ev, upd_ne _ _ ev, upd_ne _ _ ev]
      have e2 : W'.2.2.2 v = D.2.1.2.2.2 v := by rw [← hWd]; exact upd_ne _ _ ev
      rw [e1, e2]; exact h9
  · rw [if_neg e] at hreas hsets
    exact Or.inl ⟨hreas, _, _, hsets, fun j hj => hfar j (Or.inr hj)⟩
theorem remR {D : DataS} {M : ModS} {t : Tr} {w : Nat} (h : DR D M.2.1 t) (hw : w < 4) :
    (f_X5_isOpen D.2.1 (nI w) = some 0 ∧ f_X7_removes M (nI w) = some (4, M)) ∨
    (f_X5_isOpen D.2.1 (nI w) = some 1 ∧ ∃ (W' : WinS) (m : Int32) (a : Nat → Int32), f_X5_close D.2.1 (nI w) = some W' ∧ f_X1_countInWindow D (nI w) = some m ∧ f_X7_removes M (nI w) = some (0, mset M a m M.2.2.2.2.2.1 M.2.2.2.2.2.2.1 M.2.2.2.2.2.2.2.1) ∧ (∀ j, 70 ≤ j → a j = M.2.1 j) ∧ DR (D.1, W', D.2.2) a t) := by
  have hwf := h.1
  have hM := h.mr
  have h24 := hwf.le
  have hw0 : f_X7_w M (nI w) 0 = some (M.2.1 (50 + 5 * w)) := by
    have := w_ok (M := M) (j := 0) hw (by omega)
    exact this
  rcases isOpen_ok hw (h.2.2.2.1 w hw) with ⟨o1, o2, o3⟩ | ⟨o1, o2, o3⟩
  · refine Or.inl ⟨o3, ?_⟩
    unfold f_X7_removes
    rw [isWinR hw, Option.bind_some, if_neg n10, hw0, Option.bind_some, o2, if_pos rfl]
  · refine Or.inr ⟨o3, (D.2.1.1, D.2.1.2.1, D.2.1.2.2.1, upd D.2.1.2.2.2 w 0), nI (wc D.2.1 D.1 t.slots w), upd (upd (upd M.2.1 (50 + 5 * w) 0) (50 + 5 * w + 1) 0) (50 + 5 * w + 2) 0, ?_, countInWindow_ok hwf hw, ?_, fun j hj => ?_, ?_⟩
    · unfold f_X5_close
      rw [wrW hw]
    · unfold f_X7_removes
      rw [isWinR hw, Option.bind_some, if_neg n10, hw0, Option.bind_some, o2, if_neg n10, inWindow_set (MR_iff.mp hM) (by rw [Tr.len]; exact h24) hw (h.2.2.2.1 w hw) o1, Option.bind_some]
      show (f_X7_writesWindow (mset M M.2.1 (nI (wc D.2.1 D.1 t.slots w)) M.2.2.2.2.2.1 M.2.2.2.2.2.2.1 M.2.2.2.2.2.2.2.1) (nI w) 0 0 0).bind _ = _
      rw [writes_ok hw]; rfl
    · rw [upd_ne _ _ (by omega), upd_ne _ _ (by omega), upd_ne _ _ (by omega)]
    · have hfar : ∀ j, (j < 50 + 5 * w ∨ 50 + 5 * w + 5 ≤ j) → upd (upd (upd M.2.1 (50 + 5 * w) 0) (50 + 5 * w + 1) 0) (50 + 5 * w + 2) 0 j = M.2.1 j := fun j hj => by
        rw [upd_ne _ _ (by omega), upd_ne _ _ (by omega), upd_ne _ _ (by omega)]
      refine ⟨hwf, ⟨(hfar 0 (by omega)).trans h.2.1.1, fun i hi => ?_⟩, (hfar 1 (by omega)).trans h.2.2.1, fun v hv => ?_, fun v hv hvo => ?_⟩
      · rw [hfar _ (by omega), hfar _ (by omega)]; exact h.2.1.2 i hi
      · by_cases e : v = w
        · rw [e]
          exact Or.inl ⟨upd_eq _ _ _, by rw [upd_ne _ _ (by omega), upd_ne _ _ (by omega), upd_eq]⟩
        · have := h.2.2.2.1 v hv
          unfold WR1 at this ⊢
          rw [hfar _ (by omega), hfar _ (by omega), hfar _ (by omega), hfar _ (by omega), hfar _ (by omega)]
          show (upd D.2.1.2.2.2 w 0 v = 0 ∧ _) ∨ ∃ lo_1 hi_1 p_1 li_1 : Nat, _ ∧ _ ∧ _ ∧ _ ∧ _ ∧ D.2.1.1 v = nI lo_1 ∧ D.2.1.2.1 v = nI hi_1 ∧ D.2.1.2.2.1 v = nI p_1 ∧ upd D.2.1.2.2.2 w 0 v = nI li_1 ∧ _
          rw [upd_ne _ _ e]
          exact this
      · have ev : v ≠ w := fun e => hvo (by rw [e]; exact upd_eq _ _ _)
        have h9 := h.2.2.2.2 v hv (fun h8 => hvo ((upd_ne _ _ ev).trans h8))
        show nI (wc D.2.1 D.1 t.slots v) ≤ upd D.2.1.2.2.2 w 0 v
        rw [upd_ne _ _ ev]; exact h9
