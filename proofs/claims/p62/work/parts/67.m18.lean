/-! ===== mathematics, 18: data of both sides; insert, delete ===== -/
def DR (D : DataS) (a : Nat → Int32) (t : Tr) : Prop := WF D.1 t ∧ (a 0 = nI t.size ∧ ∀ i, i < t.size → a (2 + 2 * i) = D.1.1 (t.sl i) ∧ a (2 + 2 * i + 1) = D.1.2.1 (t.sl i)) ∧ a 1 = D.2.2 ∧ WR D.2.1 a ∧ KL D t
theorem DR.mr {D : DataS} {M : ModS} {t : Tr} (h : DR D M.2.1 t) : MR M D.1 t := ⟨h.2.1.1, fun i hi => by
  rw [Tr.len] at hi
  rw [Nat.zero_add]
  exact h.2.1.2 i hi⟩
theorem DR.of {D : DataS} {M : ModS} {t : Tr} (h1 : WF D.1 t) (h2 : MR M D.1 t) (h3 : M.2.1 1 = D.2.2) (h4 : WR D.2.1 M.2.1) (h5 : KL D t) : DR D M.2.1 t := ⟨h1, ⟨h2.1, fun i hi => h2.at hi⟩, h3, h4, h5⟩
theorem WR.congr {W : WinS} {a a' : Nat → Int32} (h : WR W a) (he : ∀ j, 50 ≤ j → j < 70 → a' j = a j) : WR W a' := fun w hw => by
  have h1 := h w hw
  unfold WR1 at h1 ⊢
  rw [he _ (by omega) (by omega), he _ (by omega) (by omega), he _ (by omega) (by omega), he _ (by omega) (by omega), he _ (by omega) (by omega)]
  exact h1
theorem DR.congr {D : DataS} {a a' : Nat → Int32} {t : Tr} (h : DR D a t) (he : ∀ j, j < 70 → a' j = a j) : DR D a' t := by
  have h24 := h.1.le
  refine ⟨h.1, ⟨by rw [he 0 (by omega)]; exact h.2.1.1, fun i hi => ?_⟩, by rw [he 1 (by omega)]; exact h.2.2.1, h.2.2.2.1.congr (fun j _ h2 => he j h2), h.2.2.2.2⟩
  rw [he _ (by omega), he _ (by omega)]
  exact h.2.1.2 i hi
theorem n10 : ¬ (1 : Int32) = 0 := by decide
theorem num_cases (x : Int32) : (∃ k : Nat, k ≤ 99 ∧ x = nI k) ∨ (x < 0 ∨ 99 < x) := by
  by_cases h : x < 0
  · exact Or.inr (Or.inl h)
  · by_cases h2 : 99 < x
    · exact Or.inr (Or.inr h2)
    · obtain ⟨j, h3, h4⟩ := nI_of2 (M := 99) (n := 99) rfl h (Int32.not_lt.mp h2)
      exact Or.inl ⟨j, h3, h4⟩
theorem isNumR {k : Nat} (h : k ≤ 99) : f_X7_isNumber (nI k) = some 1 := by
  unfold f_X7_isNumber f_X7_in
  rw [if_neg (nI_pos (by omega)), if_neg (show ¬ (99 : Int32) < nI k from nI_nlt (a := 99) (by omega) (by omega))]; rfl
theorem isNumR_no {x : Int32} (h : x < 0 ∨ 99 < x) : f_X7_isNumber x = some 0 := by
  unfold f_X7_isNumber f_X7_in
  by_cases h1 : x < 0
  · rw [if_pos h1]; rfl
  · rw [if_neg h1, if_pos (by rcases h with h | h; exact absurd h h1; exact h)]; rfl
theorem isNumC {k : Nat} (h : k ≤ 99) : f_X6_isNumber (nI k) = some 1 := by
  unfold f_X6_isNumber
  rw [if_neg (nI_pos (by omega)), if_neg (show ¬ (99 : Int32) < nI k from nI_nlt (a := 99) (by omega) (by omega))]
theorem isNumC_no {x : Int32} (h : x < 0 ∨ 99 < x) : f_X6_isNumber x = some 0 := by
  unfold f_X6_isNumber
  by_cases h1 : x < 0
  · rw [if_pos h1]
  · rw [if_neg h1, if_pos (by rcases h with h | h; exact absurd h h1; exact h)]
theorem wA_agr {T T' : TreeS} {x : Nat} (h : agr T T' x) (lo hi p : Int32) : wA T' lo hi p x = wA T lo hi p x := by
  unfold wA
  rw [h.1, h.2]
theorem wc_ins {W : WinS} {T T' : TreeS} {A B : List Nat} {leaf w : Nat} (ha : ∀ x ∈ A ++ B, agr T T' x) : wc W T' (A ++ leaf :: B) w = wc W T (A ++ B) w + wB (W.1 w) (W.2.1 w) (W.2.2.1 w) (T'.1 leaf) (T'.2.1 leaf) := by
  rw [wc, wc, sumL_append, sumL_append, sumL_cons, sumL_congr (L := A) (w' := wA T (W.1 w) (W.2.1 w) (W.2.2.1 w)) (fun x hx => wA_agr (ha x (by simp [hx])) _ _ _), sumL_congr (L := B) (w' := wA T (W.1 w) (W.2.1 w) (W.2.2.1 w)) (fun x hx => wA_agr (ha x (by simp [hx])) _ _ _)]
  show _ + (wA T' _ _ _ leaf + _) = _ + _ + wA T' _ _ _ leaf
  omega
theorem wc_set {W : WinS} {T T' : TreeS} {s w : Nat} {P : Int32} (k1 : T'.1 = T.1) (k2 : T'.2.1 = upd T.2.1 s P) : ∀ {L : List Nat}, L.Nodup → s ∈ L → wc W T' L w + wA T (W.1 w) (W.2.1 w) (W.2.2.1 w) s = wc W T L w + wB (W.1 w) (W.2.1 w) (W.2.2.1 w) (T.1 s) P
  | [], _, h => by cases h
  | a :: L, hn, h => by
    rw [List.nodup_cons] at hn
    have e1 : wc W T' (a :: L) w = wA T' (W.1 w) (W.2.1 w) (W.2.2.1 w) a + wc W T' L w := sumL_cons _ _ _
    have e2 : wc W T (a :: L) w = wA T (W.1 w) (W.2.1 w) (W.2.2.1 w) a + wc W T L w := sumL_cons _ _ _
    rw [e1, e2]
    by_cases e : a = s
    · have e3 : wc W T' L w = wc W T L w := sumL_congr fun x hx => wA_agr (by
        have : x ≠ s := by rintro rfl; exact hn.1 (by rw [e]; exact hx)
        unfold agr
        rw [k1, k2]; exact ⟨rfl, upd_ne _ _ this⟩) _ _ _
      have e4 : wA T' (W.1 w) (W.2.1 w) (W.2.2.1 w) s = wB (W.1 w) (W.2.1 w) (W.2.2.1 w) (T.1 s) P := by
        unfold wA wB
        rw [k1, k2, upd_eq]
      rw [e3, e, e4]; omega
    · have hs : s ∈ L := by rcases List.mem_cons.mp h with h | h; exact absurd h.symm e; exact h
      have ih := wc_set (W := W) (w := w) k1 k2 hn.2 hs
      have e4 : wA T' (W.1 w) (W.2.1 w) (W.2.2.1 w) a = wA T (W.1 w) (W.2.1 w) (W.2.2.1 w) a := wA_agr (by unfold agr; rw [k1, k2]; exact ⟨rfl, upd_ne _ _ e⟩) _ _ _
      rw [e4]; omega
theorem sl_pos {T : TreeS} {t : Tr} (h : WF T t) {i : Nat} (hi : i < t.size) : ¬ nI (t.sl i) = 0 := by
  have := h.1.mem _ (sl_mem hi)
  exact nI_ne0 (by omega) (by omega)
/-- after a change: what counts finds, and the data if nothing is too full -/
theorem after_R {M : ModS} {D : DataS} {T' : TreeS} {t' : Tr} {a : Nat → Int32} {m : Int32} (h' : WF T' t') (hM : MR (M.1, a, M.2.2) T' t') (h1 : a 1 = D.2.2) (hW : WR D.2.1 a) :
    (ovf D.2.1 (wc D.2.1 T' t'.slots) 4 0 = -1 ∧ f_X7_counts (M.1, a, M.2.2) m = some (0, mset M (upd a 1 (a 1 + m)) m M.2.2.2.2.2.1 M.2.2.2.2.2.2.1 M.2.2.2.2.2.2.2.1) ∧ DR (T', D.2.1, D.2.2 + m) (upd a 1 (a 1 + m)) t') ∨
    (∃ v, ovf D.2.1 (wc D.2.1 T' t'.slots) 4 0 = nI v ∧ v < 4 ∧ f_X7_counts (M.1, a, M.2.2) m = some (3, mset M (upd a 1 (a 1 + m)) m 3 (nI v) 0)) := by
  have h24 := h'.le
  have hW2 : WR D.2.1 (upd a 1 (a 1 + m)) := hW.congr (fun j h1 _ => upd_ne _ _ (by omega))
  have hM2 : MR (mset M (upd a 1 (a 1 + m)) m M.2.2.2.2.2.1 M.2.2.2.2.2.2.1 M.2.2.2.2.2.2.2.1) T' t' := by
    refine ⟨?_, fun i hi => ?_⟩
    · show upd a 1 (a 1 + m) 0 = _
      rw [upd_ne _ _ (by omega)]; exact hM.1
    · show upd a 1 (a 1 + m) (2 + 2 * (0 + i)) = _ ∧ upd a 1 (a 1 + m) (2 + 2 * (0 + i) + 1) = _
      rw [upd_ne _ _ (by omega), upd_ne _ _ (by omega)]; exact hM.2 i hi
  have ho := overfullR (MR_iff.mp hM2) (by rw [Tr.len]; exact h24) hW2
  have hc := countsR (M := (M.1, a, M.2.2)) (m := m) ho
  rcases ovf_cases D.2.1 (wc D.2.1 T' t'.slots) 4 0 rfl with ⟨e1, e2⟩ | ⟨v, v1, v2, v3, v4⟩
  · refine Or.inl ⟨e1, ?_, DR.of (D := (T', D.2.1, D.2.2 + m)) (M := mset M (upd a 1 (a 1 + m)) m M.2.2.2.2.2.1 M.2.2.2.2.2.2.1 M.2.2.2.2.2.2.2.1) h' hM2 ?_ hW2 (fun w hw ho => e2 w (Nat.zero_le _) hw ho)⟩
    · rw [e1] at hc; exact hc
    · show upd a 1 (a 1 + m) 1 = D.2.2 + m
      rw [upd_eq, h1]
  · refine Or.inr ⟨v, v2, v1, ?_⟩
    rw [v2, if_neg (nI_pos (by omega))] at hc
    exact hc
theorem far_upd {a b : Nat → Int32} {m : Int32} (h : ∀ j, 70 ≤ j → a j = b j) : ∀ j, 70 ≤ j → upd a 1 m j = b j := fun j hj => (upd_ne _ _ (by omega)).trans (h j hj)
theorem neg1lt : (-1 : Int32) < 0 := by decide
theorem neg1le : ¬ (0 : Int32) ≤ -1 := by decide
theorem nI_neg1 {v : Nat} (h : v < 1000) : ¬ nI v = -1 := fun h9 => by
  have := congrArg Int32.toInt h9
  rw [nI_toInt (by omega), show (-1 : Int32).toInt = -1 from rfl] at this
  omega
theorem inserts_fresh {M : ModS} {N kk pp : Nat} (hk : kk ≤ 99) (hp : pp ≤ 99) (hN : mNs M N) (h24 : N < 24) (hf : f_X7_find M (nI kk) = some (-1)) : f_X7_inserts M (nI kk) (nI pp) = (f_X7_putsIn M (nI kk) (nI pp)).bind fun q28 => (f_X7_counts q28.2 q28.1).bind fun q30 => some (q30.1, q30.2) := by
  unfold f_X7_inserts
  rw [isNumR hk, isNumR hp, Option.bind_some, Option.bind_some, if_neg n10, if_neg n10, hf, Option.bind_some, hN, if_neg (show ¬ nI N = 24 from fun h9 => by have := (nI_eq (b := 24) (by omega) (by omega)).mp h9; omega), rejects_0, Option.bind_some, if_pos rfl, if_pos neg1lt, if_neg neg1le, rejects_0, Option.bind_some, if_pos rfl]
theorem insR {D : DataS} {M : ModS} {t : Tr} {kk pp : Nat} (h : DR D M.2.1 t) (hk : kk ≤ 99) (hp : pp ≤ 99) :
    (∃ (r d : Int32) (a : Nat → Int32) (res : Int32), r ≠ 0 ∧ f_X1_reasonAgainstInsert D (nI kk) (nI pp) = some r ∧ f_X1_detailOf D r 0 (nI kk) (nI pp) = some d ∧ f_X7_inserts M (nI kk) (nI pp) = some (3, mset M a res r d 0) ∧ ∀ j, 70 ≤ j → a j = M.2.1 j) ∨
    (f_X1_reasonAgainstInsert D (nI kk) (nI pp) = some 0 ∧ ∃ (m : Int32) (D' : DataS) (a : Nat → Int32) (t' : Tr), f_X1_insertPoint D (nI kk) (nI pp) = some (m, D') ∧ f_X7_inserts M (nI kk) (nI pp) = some (0, mset M a m M.2.2.2.2.2.1 M.2.2.2.2.2.2.1 M.2.2.2.2.2.2.2.1) ∧ (∀ j, 70 ≤ j → a j = M.2.1 j) ∧ DR D' a t') := by
  have hw := h.1
  have hM := h.mr
  have h24 := hw.le
  by_cases hsz : t.size = 24
  · refine Or.inl ⟨1, 24, M.2.1, M.2.2.2.2.1, by decide, ?_, rfl, ?_, fun _ _ => rfl⟩
    · unfold f_X1_reasonAgainstInsert
      rw [pointCount_ok hw, Option.bind_some, hsz]; rfl
    · unfold f_X7_inserts
      rw [isNumR hk, isNumR hp, Option.bind_some, Option.bind_some, if_neg n10, if_neg n10]
      rcases key_cases (T := D.1) t (nI kk) with ⟨i, hi, e⟩ | hmiss
      · rw [findR_hit hw hM hi e, Option.bind_some, hM.1, hsz, if_pos (show nI 24 = 24 from rfl), rejects_1]; rfl
      · rw [findR_miss hw hM hmiss, Option.bind_some, hM.1, hsz, if_pos (show nI 24 = 24 from rfl), rejects_1]; rfl
  · have hlt : nI t.size < 24 := nI_lt (b := 24) (by omega) (by omega)
    rcases key_cases (T := D.1) t (nI kk) with ⟨i, hi, e⟩ | hmiss
    · have hs := hw.1.mem _ (sl_mem hi)
      refine Or.inl ⟨2, D.1.2.1 (t.sl i), M.2.1, M.2.2.2.2.1, by decide, ?_, ?_, ?_, fun _ _ => rfl⟩
      · unfold f_X1_reasonAgainstInsert
        rw [pointCount_ok hw, Option.bind_some, if_pos hlt, slotOf_hit hw hi e, Option.bind_some, if_neg (sl_pos hw hi)]
      · unfold f_X1_detailOf
        rw [if_neg (by decide), if_pos rfl, slotOf_hit hw hi e, Option.bind_some, f_X4_priorityIn, rd25 hs.2]; rfl
      · unfold f_X7_inserts
        rw [isNumR hk, isNumR hp, Option.bind_some, Option.bind_some, if_neg n10, if_neg n10, findR_hit hw hM hi e, Option.bind_some, hM.1, if_neg (show ¬ nI t.size = 24 from fun h9 => hsz ((nI_eq (b := 24) (by omega) (by omega)).mp h9)), rejects_0, Option.bind_some, if_pos rfl, if_neg (nI_pos (by omega)), if_pos (nI_pos' (by omega)), pri_ok (by omega), Option.bind_some, rejects_1, (hM.at hi).2]; rfl
    · obtain ⟨T1, T', t', leaf, m, A, B, i1, i2, h', e1, e2, hlf, hA, hB, hag, k1, k2, hm⟩ := ins_ok hw (by omega) hmiss ⟨hk, rfl⟩ ⟨hp, rfl⟩
      obtain ⟨p1, p2⟩ := putsInR hw hM (by omega) h' e1 e2 hA hB hag k1 k2 hm
      have hAl : A.length ≤ t.size := by rw [← Tr.len, e1, List.length_append]; omega
      have hff : f_X1_firstFullWindow D 0 (nI kk) (nI pp) = some (ovf D.2.1 (wc D.2.1 T' t'.slots) 4 0) := by
        refine firstFull_ok (r := 0) hw h.2.2.2.1 (Or.inl rfl) (fun w hw4 => ?_)
        rw [if_pos rfl, Nat.add_zero, e2, wc_ins (by rw [← e1]; exact hag), ← e1, k1, k2]
      have hins : f_X1_insertPoint D (nI kk) (nI pp) = some (nI m, (T', D.2.1, D.2.2 + nI m)) := by
        unfold f_X1_insertPoint
        rw [i1, Option.bind_some, i2]; rfl
      have hreas : f_X1_reasonAgainstInsert D (nI kk) (nI pp) = (some (ovf D.2.1 (wc D.2.1 T' t'.slots) 4 0)).bind fun q8 => if q8 = (-1) then some 0 else some 3 := by
        unfold f_X1_reasonAgainstInsert
        rw [pointCount_ok hw, Option.bind_some, if_pos hlt, slotOf_miss hw hmiss, Option.bind_some, if_pos rfl, hff]
      have hR := inserts_fresh hk hp hM.1 (by omega) (findR_miss hw hM hmiss)
      rw [p1, Option.bind_some] at hR
      have hfar : ∀ j, 70 ≤ j → opA M.2.1 A.length t.size (nI kk) (nI pp) j = M.2.1 j := fun j hj => opA_far (by omega) hAl (Or.inr (by omega))
      rcases after_R (M := M) (D := D) (m := nI m) h' p2 ((opA_far (by omega) hAl (Or.inl rfl)).trans h.2.2.1) (h.2.2.2.1.congr (fun j h1 _ => opA_far (by omega) hAl (Or.inr h1))) with ⟨g1, g2, g3⟩ | ⟨v, g1, g2, g3⟩
      · refine Or.inr ⟨?_, nI m, _, _, t', hins, ?_, far_upd hfar, g3⟩
        · rw [hreas, g1]; rfl
        · rw [hR, g2]; rfl
      · refine Or.inl ⟨3, nI v, upd (opA M.2.1 A.length t.size (nI kk) (nI pp)) 1 (opA M.2.1 A.length t.size (nI kk) (nI pp) 1 + nI m), nI m, by decide, ?_, ?_, ?_, far_upd hfar⟩
        · rw [hreas, g1, Option.bind_some, if_neg (nI_neg1 (by omega))]
        · unfold f_X1_detailOf
          rw [if_neg (by decide), if_neg (by decide), hff, g1]; rfl
        · rw [hR, g3]; rfl
theorem delR {D : DataS} {M : ModS} {t : Tr} {K : Int32} (h : DR D M.2.1 t) :
    (f_X4_slotOf D.1 K = some 0 ∧ f_X7_deletes M K = some (4, M)) ∨
    (∃ s : Int32, s ≠ 0 ∧ f_X4_slotOf D.1 K = some s ∧ ∃ (m : Int32) (D' : DataS) (a : Nat → Int32) (t' : Tr), f_X1_deletePoint D s = some (m, D') ∧ f_X7_deletes M K = some (0, mset M a m M.2.2.2.2.2.1 M.2.2.2.2.2.2.1 M.2.2.2.2.2.2.2.1) ∧ (∀ j, 70 ≤ j → a j = M.2.1 j) ∧ DR D' a t') := by
  have hw := h.1
  have hM := h.mr
  have h24 := hw.le
  unfold f_X7_deletes
  rcases key_cases (T := D.1) t K with ⟨i, hi, e⟩ | hmiss
  · obtain ⟨T0, T', t', m, A, B, d1, d2, h', e1, e2, hA, k1, k2, hm⟩ := del_ok hw hi
    obtain ⟨p1, p2⟩ := takesOutR hw hM hi h' e1 e2 hA k1 k2 hm
    have hsz : t.size = t'.size + 1 := by rw [← Tr.len, ← Tr.len, e1, e2, List.length_append, List.length_append, List.length_cons]; omega
    have hsl := slotOf_hit hw hi e
    refine Or.inr ⟨_, sl_pos hw hi, hsl, nI m, (T', D.2.1, D.2.2 + nI m), upd (shA M.2.1 i t'.size) 1 (shA M.2.1 i t'.size 1 + nI m), t', ?_, ?_, far_upd (fun j hj => shA_far (by omega) (Or.inr (by omega))), ?_⟩
    · unfold f_X1_deletePoint
      rw [d1, Option.bind_some, d2]; rfl
    all_goals
      have hle : ∀ w, wc D.2.1 T' t'.slots w ≤ wc D.2.1 D.1 t.slots w := fun w => by
        have hag : ∀ x ∈ A ++ B, agr T' D.1 x := fun x _ => by unfold agr; rw [k1, k2]; exact ⟨rfl, rfl⟩
        rw [e1, e2, wc_ins hag]; omega
      have hno : ovf D.2.1 (wc D.2.1 T' t'.slots) 4 0 = -1 := ovf_none _ _ fun v hv ho => by
        have h1 := h.2.2.2.2 v hv ho
        have h2 := wc_le (W := D.2.1) (T := D.1) (L := t.slots) (w := v)
        rw [Tr.len] at h2
        exact Int32.le_trans (nI_le (hle v) (by omega)) h1
      rcases after_R (M := M) (D := D) (m := nI m) h' p2 ((shA_far (by omega) (Or.inl rfl)).trans h.2.2.1) (h.2.2.2.1.congr (fun j h1 _ => shA_far (by omega) (Or.inr h1))) with ⟨g1, g2, g3⟩ | ⟨v, g1, g2, g3⟩
      · first
          | exact g3
          | (rw [findR_hit hw hM hi e, Option.bind_some, if_pos (nI_pos' (by omega)), p1, Option.bind_some, g2]; rfl)
      · rw [hno] at g1
        have := congrArg Int32.toInt g1
        rw [nI_toInt (by omega), show (-1 : Int32).toInt = -1 from rfl] at this
        omega
  · refine Or.inl ⟨slotOf_miss hw hmiss, ?_⟩
    rw [findR_miss hw hM hmiss]; rfl
