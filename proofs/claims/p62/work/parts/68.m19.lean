/-! ===== mathematics, 19: priorities and keys change ===== -/
theorem nI_subneg {a b : Nat} (h : a < b) (hb : b < 1000) : ¬ 0 ≤ nI a - nI b := by
  rw [Int32.le_iff_toInt_le, Int32.toInt_sub, nI_toInt (by omega), nI_toInt (by omega), Int32.toInt_zero, Int.bmod_eq_of_le (by omega) (by omega)]
  omega
theorem prefers_hit {M : ModS} {K P : Int32} {i d d' pp : Nat} (hpp : pp ≤ 99 ∧ P = nI pp) (hi : i ≤ 300) (hf : f_X7_find M K = some (nI i)) (hd : f_X7_depth M (nI i) = some (nI d)) (hd' : f_X7_depth (M.1, upd M.2.1 (2 + 2 * i + 1) P, M.2.2) (nI i) = some (nI d')) {m : Nat} (h1 : d < 1000) (h2 : d' < 1000) (hm : d = d' + m ∨ d' = d + m) : f_X7_prefers M K P = (f_X7_counts (M.1, upd M.2.1 (2 + 2 * i + 1) P, M.2.2) (nI m)).bind fun q14 => some (q14.1, q14.2) := by
  unfold f_X7_prefers
  rw [hf, Option.bind_some, if_pos (nI_pos' (by omega)), hpp.2, isNumR hpp.1, Option.bind_some, if_neg n10, hd, Option.bind_some, nI_22, nI_1, if_neg (nI_in (by omega) (by decide)), nI_clamp (by omega), ← hpp.2]
  show (f_X7_depth (M.1, upd M.2.1 (2 + 2 * i + 1) P, M.2.2) (nI i)).bind _ = _
  rw [hd', Option.bind_some]
  by_cases e : d ≤ d'
  · have e2 : d' - d = m := by omega
    rw [nI_sub e, e2, if_pos (nI_pos' (by omega))]
  · have e2 : d - d' = m := by omega
    rw [if_neg (nI_subneg (by omega) (by omega)), Int32.neg_sub, nI_sub (by omega), e2]
theorem priR {D : DataS} {M : ModS} {t : Tr} {K : Int32} {pp : Nat} (h : DR D M.2.1 t) (hp : pp ≤ 99) :
    (f_X4_slotOf D.1 K = some 0 ∧ f_X7_prefers M K (nI pp) = some (4, M)) ∨
    (∃ s : Int32, s ≠ 0 ∧ f_X4_slotOf D.1 K = some s ∧
      ((∃ (r d : Int32) (a : Nat → Int32) (res : Int32), r ≠ 0 ∧ f_X1_reasonAgainstPriority D s (nI pp) = some r ∧ f_X1_detailOf D r s K (nI pp) = some d ∧ f_X7_prefers M K (nI pp) = some (3, mset M a res r d 0) ∧ ∀ j, 70 ≤ j → a j = M.2.1 j) ∨
       (f_X1_reasonAgainstPriority D s (nI pp) = some 0 ∧ ∃ (m : Int32) (D' : DataS) (a : Nat → Int32) (t' : Tr), f_X1_setPriority D s (nI pp) = some (m, D') ∧ f_X7_prefers M K (nI pp) = some (0, mset M a m M.2.2.2.2.2.1 M.2.2.2.2.2.2.1 M.2.2.2.2.2.2.2.1) ∧ (∀ j, 70 ≤ j → a j = M.2.1 j) ∧ DR D' a t'))) := by
  have hw := h.1
  have hM := h.mr
  have h24 := hw.le
  rcases key_cases (T := D.1) t K with ⟨i, hi, e⟩ | hmiss
  · have hs := hw.1.mem _ (sl_mem hi)
    obtain ⟨T1, T2, T', t', m1, m2, u1, u2, u3, h', e1, k1, k2, hm⟩ := pri_change hw hi (P := nI pp) ⟨hp, rfl⟩
    have hsz : t'.size = t.size := by rw [← Tr.len, ← Tr.len, e1]
    have hM2 : MR (M.1, upd M.2.1 (2 + 2 * i + 1) (nI pp), M.2.2) T' t' := by
      refine ⟨?_, fun j hj => ?_⟩
      · show upd M.2.1 (2 + 2 * i + 1) (nI pp) 0 = _
        rw [upd_ne _ _ (by omega), hsz]; exact hM.1
      · rw [Tr.len, hsz] at hj
        rw [Nat.zero_add, e1, k1, k2]
        show upd M.2.1 (2 + 2 * i + 1) (nI pp) (2 + 2 * j) = _ ∧ upd M.2.1 (2 + 2 * i + 1) (nI pp) (2 + 2 * j + 1) = _
        rw [upd_ne _ _ (show 2 + 2 * j ≠ 2 + 2 * i + 1 by omega)]
        have hj2 := hM.at hj
        refine ⟨hj2.1, ?_⟩
        by_cases e9 : j = i
        · rw [e9, upd_eq]; exact (upd_eq _ _ _).symm
        · rw [upd_ne _ _ (by omega)]
          exact hj2.2.trans (upd_ne _ _ (fun h9 => e9 (sl_uniq hw.1.2.2.1 hj hi h9))).symm
    have hd := depthR_ok hM.1 h24 (hw.th hM) hi
    have hd' := depthR_ok hM2.1 h'.le (h'.th hM2) (i := i) (by omega)
    have hdl := (depthIn_ok hw.1 hi).2
    have hdl' := (depthIn_ok h'.1 (i := i) (by omega)).2
    have hR := prefers_hit (P := nI pp) ⟨hp, rfl⟩ (by omega) (findR_hit hw hM hi e) hd hd' (by omega) (by omega) hm
    have hfar : ∀ j, j = 1 ∨ 50 ≤ j → upd M.2.1 (2 + 2 * i + 1) (nI pp) j = M.2.1 j := fun j hj => upd_ne _ _ (by omega)
    have hff : f_X1_firstFullWindow D (nI (t.sl i)) K (nI pp) = some (ovf D.2.1 (wc D.2.1 T' t'.slots) 4 0) := by
      refine firstFull_ok hw h.2.2.2.1 (Or.inr (sl_mem hi)) (fun w hw4 => ?_)
      rw [if_neg (by omega), e1, wc_set k1 k2 hw.1.2.2.1 (sl_mem hi), e]
    have hreas : f_X1_reasonAgainstPriority D (nI (t.sl i)) (nI pp) = (some (ovf D.2.1 (wc D.2.1 T' t'.slots) 4 0)).bind fun q8 => if q8 = (-1) then some 0 else some 3 := by
      unfold f_X1_reasonAgainstPriority
      rw [f_X4_keyIn, rd25 hs.2, e, Option.bind_some, hff]
    have hset : f_X1_setPriority D (nI (t.sl i)) (nI pp) = some (nI (m1 + m2), (T', D.2.1, D.2.2 + nI (m1 + m2))) := by
      unfold f_X1_setPriority
      rw [u1, Option.bind_some, u2, Option.bind_some, u3, Option.bind_some, nI_add]
    refine Or.inr ⟨_, sl_pos hw hi, slotOf_hit hw hi e, ?_⟩
    rcases after_R (M := M) (D := D) (m := nI (m1 + m2)) h' hM2 ((hfar 1 (Or.inl rfl)).trans h.2.2.1) (h.2.2.2.1.congr (fun j h1 _ => hfar j (Or.inr h1))) with ⟨g1, g2, g3⟩ | ⟨v, g1, g2, g3⟩
    · refine Or.inr ⟨?_, _, _, _, t', hset, ?_, far_upd (fun j hj => hfar j (Or.inr (by omega))), g3⟩
      · rw [hreas, g1]; rfl
      · rw [hR, g2]; rfl
    · refine Or.inl ⟨3, nI v, upd (upd M.2.1 (2 + 2 * i + 1) (nI pp)) 1 (upd M.2.1 (2 + 2 * i + 1) (nI pp) 1 + nI (m1 + m2)), nI (m1 + m2), by decide, ?_, ?_, ?_, far_upd (fun j hj => hfar j (Or.inr (by omega)))⟩
      · rw [hreas, g1, Option.bind_some, if_neg (nI_neg1 (by omega))]
      · unfold f_X1_detailOf
        rw [if_neg (by decide), if_neg (by decide), hff, g1]; rfl
      · rw [hR, g3]; rfl
  · refine Or.inl ⟨slotOf_miss hw hmiss, ?_⟩
    unfold f_X7_prefers
    rw [findR_miss hw hM hmiss]; rfl
theorem moves_hit {M : ModS} {K : Int32} {i kk : Nat} (hk : kk ≤ 99) (hi : i ≤ 300) (hf : f_X7_find M K = some (nI i)) (hf2 : f_X7_find M (nI kk) = some (-1)) : f_X7_moves M K (nI kk) = (f_X7_takesOut M (nI i)).bind fun q30 => (f_X7_putsIn q30.2 (nI kk) (mP M i)).bind fun q32 => (f_X7_counts q32.2 (q30.1 + q32.1)).bind fun q34 => some (q34.1, q34.2) := by
  unfold f_X7_moves
  rw [hf, Option.bind_some, if_pos (nI_pos' (by omega)), isNumR hk, Option.bind_some, if_neg n10, hf2, Option.bind_some, if_pos neg1lt, if_neg neg1le, rejects_0, Option.bind_some, if_pos rfl, pri_ok hi, Option.bind_some]
theorem moves_taken {M : ModS} {K : Int32} {i j kk : Nat} (hk : kk ≤ 99) (hi : i ≤ 300) (hj : j ≤ 300) (hf : f_X7_find M K = some (nI i)) (hf2 : f_X7_find M (nI kk) = some (nI j)) : f_X7_moves M K (nI kk) = some (3, mset M M.2.1 M.2.2.2.2.1 2 (mP M j) 0) := by
  unfold f_X7_moves
  rw [hf, Option.bind_some, if_pos (nI_pos' (by omega)), isNumR hk, Option.bind_some, if_neg n10, hf2, Option.bind_some, if_neg (nI_pos (by omega)), if_pos (nI_pos' (by omega)), pri_ok hj, Option.bind_some, rejects_1, Option.bind_some, if_neg n10]
theorem movR {D : DataS} {M : ModS} {t : Tr} {K : Int32} {kk : Nat} (h : DR D M.2.1 t) (hk : kk ≤ 99) :
    (f_X4_slotOf D.1 K = some 0 ∧ f_X7_moves M K (nI kk) = some (4, M)) ∨
    (∃ s : Int32, s ≠ 0 ∧ f_X4_slotOf D.1 K = some s ∧
      ((∃ (r d q : Int32) (a : Nat → Int32) (res : Int32), r ≠ 0 ∧ f_X1_reasonAgainstMove D s (nI kk) = some r ∧ f_X4_priorityIn D.1 s = some q ∧ f_X1_detailOf D r s (nI kk) q = some d ∧ f_X7_moves M K (nI kk) = some (3, mset M a res r d 0) ∧ ∀ j, 70 ≤ j → a j = M.2.1 j) ∨
       (f_X1_reasonAgainstMove D s (nI kk) = some 0 ∧ ∃ (m : Int32) (D' : DataS) (a : Nat → Int32) (t' : Tr), f_X1_movePoint D s (nI kk) = some (m, D') ∧ f_X7_moves M K (nI kk) = some (0, mset M a m M.2.2.2.2.2.1 M.2.2.2.2.2.2.1 M.2.2.2.2.2.2.2.1) ∧ (∀ j, 70 ≤ j → a j = M.2.1 j) ∧ DR D' a t'))) := by
  have hw := h.1
  have hM := h.mr
  have h24 := hw.le
  rcases key_cases (T := D.1) t K with ⟨i, hi, e⟩ | hmiss
  · have hs := hw.1.mem _ (sl_mem hi)
    obtain ⟨pp, hp, hpp⟩ := (hw.2.2.2 _ (sl_mem hi)).2
    have hpri : f_X4_priorityIn D.1 (nI (t.sl i)) = some (nI pp) := by rw [f_X4_priorityIn, rd25 hs.2, hpp]
    refine Or.inr ⟨_, sl_pos hw hi, slotOf_hit hw hi e, ?_⟩
    rcases key_cases (T := D.1) t (nI kk) with ⟨j, hj, ej⟩ | hmiss2
    · have hs2 := hw.1.mem _ (sl_mem hj)
      refine Or.inl ⟨2, D.1.2.1 (t.sl j), nI pp, M.2.1, M.2.2.2.2.1, by decide, ?_, hpri, ?_, ?_, fun _ _ => rfl⟩
      · unfold f_X1_reasonAgainstMove
        rw [slotOf_hit hw hj ej, Option.bind_some, if_neg (sl_pos hw hj)]
      · unfold f_X1_detailOf
        rw [if_neg (by decide), if_pos rfl, slotOf_hit hw hj ej, Option.bind_some, f_X4_priorityIn, rd25 hs2.2]; rfl
      · rw [moves_taken hk (by omega) (by omega) (findR_hit hw hM hi e) (findR_hit hw hM hj ej), (hM.at hj).2]
    · obtain ⟨T0, T1, t1, m1, A, B, d1, d2, h1, e1, e2, hA, k1, k2, hm1⟩ := del_ok hw hi
      obtain ⟨p1, p2⟩ := takesOutR hw hM hi h1 e1 e2 hA k1 k2 hm1
      have hsz : t.size = t1.size + 1 := by rw [← Tr.len, ← Tr.len, e1, e2, List.length_append, List.length_append, List.length_cons]; omega
      have hmiss1 : ∀ s ∈ t1.slots, T1.1 s ≠ nI kk := fun s hs9 => by
        rw [k1]
        refine hmiss2 s ?_
        rw [e2, List.mem_append] at hs9
        rw [e1, List.mem_append, List.mem_cons]; grind
      obtain ⟨T2, T', t', leaf, m2, A2, B2, i1, i2, h', f1, f2, hlf, hA2, hB2, hag, g1, g2, hm2⟩ := ins_ok h1 (by omega) hmiss1 (K := nI kk) (P := nI pp) ⟨hk, rfl⟩ ⟨hp, rfl⟩
      obtain ⟨q1, q2⟩ := putsInR (M := (M.1, shA M.2.1 i t1.size, M.2.2)) h1 p2 (by omega) h' f1 f2 hA2 hB2 hag g1 g2 hm2
      have hAl : A2.length ≤ t1.size := by rw [← Tr.len, f1, List.length_append]; omega
      have hR := moves_hit hk (by omega) (findR_hit hw hM hi e) (findR_miss hw hM hmiss2)
      rw [p1, Option.bind_some, (hM.at hi).2, hpp] at hR
      have hR2 : f_X7_moves M K (nI kk) = (f_X7_counts (M.1, opA (shA M.2.1 i t1.size) A2.length t1.size (nI kk) (nI pp), M.2.2) (nI (m1 + m2))).bind fun q34 => some (q34.1, q34.2) := by
        rw [hR, q1, Option.bind_some, nI_add]
      have hfar : ∀ j, j = 1 ∨ 50 ≤ j → opA (shA M.2.1 i t1.size) A2.length t1.size (nI kk) (nI pp) j = M.2.1 j := fun j hj => (opA_far (by omega) hAl hj).trans (shA_far (by omega) hj)
      have hff : f_X1_firstFullWindow D (nI (t.sl i)) (nI kk) (nI pp) = some (ovf D.2.1 (wc D.2.1 T' t'.slots) 4 0) := by
        refine firstFull_ok hw h.2.2.2.1 (Or.inr (sl_mem hi)) (fun w hw4 => ?_)
        have hag1 : ∀ x ∈ A ++ B, agr T1 D.1 x := fun x _ => by unfold agr; rw [k1, k2]; exact ⟨rfl, rfl⟩
        rw [if_neg (by omega), f2, wc_ins (by rw [← f1]; exact hag), ← f1, e2, g1, g2, e1, wc_ins hag1]
        show _ + _ + wB _ _ _ _ _ = _
        omega
      have hreas : f_X1_reasonAgainstMove D (nI (t.sl i)) (nI kk) = (some (ovf D.2.1 (wc D.2.1 T' t'.slots) 4 0)).bind fun q8 => if q8 = (-1) then some 0 else some 3 := by
        unfold f_X1_reasonAgainstMove
        rw [slotOf_miss hw hmiss2, Option.bind_some, if_pos rfl, hpri, Option.bind_some, hff]
      have hmov : f_X1_movePoint D (nI (t.sl i)) (nI kk) = some (nI (m1 + m2), (T', D.2.1, D.2.2 + nI (m1 + m2))) := by
        unfold f_X1_movePoint
        rw [hpri, Option.bind_some, d1, Option.bind_some, d2, Option.bind_some, i1, Option.bind_some, i2, Option.bind_some, nI_add]
      rcases after_R (M := M) (D := D) (m := nI (m1 + m2)) h' q2 ((hfar 1 (Or.inl rfl)).trans h.2.2.1) (h.2.2.2.1.congr (fun j h1 _ => hfar j (Or.inr h1))) with ⟨g1, g2, g3⟩ | ⟨v, g1, g2, g3⟩
      · refine Or.inr ⟨?_, _, _, _, t', hmov, ?_, far_upd (fun j hj => hfar j (Or.inr (by omega))), g3⟩
        · rw [hreas, g1]; rfl
        · rw [hR2, g2]; rfl
      · refine Or.inl ⟨3, nI v, nI pp, upd (opA (shA M.2.1 i t1.size) A2.length t1.size (nI kk) (nI pp)) 1 (opA (shA M.2.1 i t1.size) A2.length t1.size (nI kk) (nI pp) 1 + nI (m1 + m2)), nI (m1 + m2), by decide, ?_, hpri, ?_, ?_, far_upd (fun j hj => hfar j (Or.inr (by omega)))⟩
        · rw [hreas, g1, Option.bind_some, if_neg (nI_neg1 (by omega))]
        · unfold f_X1_detailOf
          rw [if_neg (by decide), if_neg (by decide), hff, g1]; rfl
        · rw [hR2, g3]; rfl
  · refine Or.inl ⟨slotOf_miss hw hmiss, ?_⟩
    unfold f_X7_moves
    rw [findR_miss hw hM hmiss]; rfl
