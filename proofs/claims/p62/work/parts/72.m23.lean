/-! ===== mathematics, 23: questions, 2 ===== -/
theorem ma_nearestKey : pq_Ma_nearestKey PR := by
  intro T M p1 h
  obtain ⟨t, hw, hM, -⟩ := h.now
  have h24 := hw.le
  show QQ [IAE, NSE] _ _
  unfold f_X6_nearestKey f_X7_nearestKey
  rcases num_cases p1 with ⟨k, k1, rfl⟩ | hn
  · have c1 := cnt_le (T := T.1.1) (p := plt (nI k)) (t := t)
    have c2 := cnt_le (T := T.1.1) (p := ple (nI k)) (t := t)
    have c3 := ce_ge (T := T.1.1) (nI k) t.slots
    have fl : f_X7_floorAt (0, M.2) (nI k) = _ := floorAtR (M := (0, M.2)) hw hM (nI k)
    have be : f_X7_below (0, M.2) (nI k) = _ := belowR (M := (0, M.2)) hw hM (nI k)
    rw [reqN_ok k1, tu_r, isNumR k1, Option.bind_some, if_neg n10, hM.1]
    show QQ _ ((f_X4_floorSlot T.1.1 (nI k)).bind _) _
    rw [floorSlot_ok hw, ceilingSlot_ok hw, Option.bind_some, Option.bind_some]
    by_cases e0 : t.size = 0
    · have ec : cnt T.1.1 (ple (nI k)) t.slots = 0 := by omega
      rw [if_pos (show nI t.size = 0 by rw [e0]; rfl), ec, if_pos (show (0 : Nat) = 0 from rfl), show nI 0 = (0 : Int32) from rfl, if_pos (show (0 : Int32) = 0 from rfl)]
      refine QQ.thr (E := NSE) (b := 0) (M := (2, M.2)) ?_ rfl h (pcd_2 _ (by decide)) e20
      unfold f_X6_nearestKey_c36
      rw [if_pos rfl, tr_id, sl_out (by omega)]
      exact keyIn_no T
    · rw [if_neg (show ¬ nI t.size = 0 from nI_ne0 (by omega) (by omega))]
      show QQ _ _ ((f_X7_floorAt (0, M.2) (nI k)).bind fun q8 => (f_X7_below (0, M.2) (nI k)).bind fun q10 => if 0 ≤ q8 then if nI t.size ≤ q10 then f_X7_nearestKey_c95 (0, M.2) q8 else (f_X7_key (0, M.2) q10).bind fun q14 => (f_X7_key (0, M.2) q8).bind fun q16 => if (nI k - q16) ≤ (q14 - nI k) then f_X7_nearestKey_c95 (0, M.2) q8 else (f_X7_key (0, M.2) q10).bind fun q19 => some (q19, (0, M.2)) else (f_X7_key (0, M.2) q10).bind fun q21 => some (q21, (0, M.2)))
      rw [fl, be, Option.bind_some, Option.bind_some]
      have kk : ∀ i, i < t.size → f_X7_key (0, M.2) (nI i) = some (T.1.1.1 (t.sl i)) := fun i hi => by
        rw [key_ok (M := (0, M.2)) (by omega)]
        exact congrArg some (hM.at hi).1
      have k95 : ∀ i, i < t.size → f_X7_nearestKey_c95 (0, M.2) (nI i) = some (T.1.1.1 (t.sl i), (0, M.2)) := fun i hi => by
        unfold f_X7_nearestKey_c95
        rw [kk i hi]; rfl
      by_cases e1 : cnt T.1.1 (ple (nI k)) t.slots = 0
      · have ec : cnt T.1.1 (plt (nI k)) t.slots = 0 := by omega
        rw [if_pos e1, e1, ec, show nI 0 = (0 : Int32) from rfl, if_pos rfl, if_neg (by decide)]
        refine QQ.ret (b := T.1.1.1 (t.sl 0)) (M := (0, M.2)) (T := T) ?_ ?_ h rfl
        · unfold f_X6_nearestKey_c36
          rw [if_pos rfl, tr_id]
          exact keyIn_ok hw (by omega)
        · show (f_X7_key (0, M.2) (nI 0)).bind _ = _
          rw [kk 0 (by omega)]; rfl
      · obtain ⟨c, hc⟩ : ∃ c, cnt T.1.1 (ple (nI k)) t.slots = c + 1 := ⟨cnt T.1.1 (ple (nI k)) t.slots - 1, by omega⟩
        have hcs : c < t.size := by omega
        rw [if_neg e1, hc, nI_pred, Nat.add_sub_cancel, if_neg (sl_pos hw hcs), if_pos (nI_pos' (by omega))]
        by_cases e2 : cnt T.1.1 (plt (nI k)) t.slots = t.size
        · rw [e2, sl_out (Nat.le_refl _), if_pos (nI_le (Nat.le_refl _) (by omega)), show nI 0 = (0 : Int32) from rfl, if_pos rfl, k95 c hcs]
          refine QQ.ret (b := T.1.1.1 (t.sl c)) (M := (0, M.2)) (T := T) ?_ rfl h rfl
          unfold f_X6_nearestKey_c36
          rw [if_neg (sl_pos hw hcs), tr_id]
          exact keyIn_ok hw hcs
        · have hds : cnt T.1.1 (plt (nI k)) t.slots < t.size := by omega
          rw [if_neg (sl_pos hw hds), if_neg (nI_ge hds (by omega)), f_X4_keyIn, f_X4_keyIn, rd25 (hw.1.mem _ (sl_mem hcs)).2, rd25 (hw.1.mem _ (sl_mem hds)).2, kk _ hds, kk _ hcs, k95 c hcs, Option.bind_some, Option.bind_some, Option.bind_some, Option.bind_some, Option.bind_some]
          by_cases e3 : (nI k - T.1.1.1 (t.sl c)) ≤ (T.1.1.1 (t.sl (cnt T.1.1 (plt (nI k)) t.slots)) - nI k)
          · rw [if_pos e3, if_neg (Int32.not_lt.mpr e3)]
            exact QQ.ret (M := (0, M.2)) rfl rfl h rfl
          · rw [if_neg e3, if_pos (Int32.not_le.mp e3)]
            exact QQ.ret (M := (0, M.2)) rfl rfl h rfl
  · rw [reqN_no hn, isNumR_no hn, Option.bind_some, if_pos rfl]
    exact QQ.thr (E := IAE) (b := 0) (M := (1, M.2)) rfl rfl h (pcd_1 _ _) e10
theorem mab_iff {M : ModS} {T : TreeS} {t : Tr} (h : WF T t) (hM : MR M T t) {i j : Nat} (hi : i < t.size) (hj : j < t.size) : mab M i j ↔ abv T (t.sl i) (t.sl j) := by
  rw [mab, (hM.at hi).2, (hM.at hj).2]
  refine or_congr Iff.rfl (and_congr_right fun _ => ⟨fun h9 => srt_lt h.2.1 h9 (by rw [Tr.len]; exact hj), fun h9 => ?_⟩)
  apply Classical.byContradiction
  intro h8
  by_cases e : i = j
  · rw [e] at h9; exact Int32.lt_irrefl h9
  · exact Int32.lt_irrefl (Int32.lt_trans h9 (srt_lt h.2.1 (by omega) (by rw [Tr.len]; exact hi)))
theorem kbp_c17 {M : ModS} {T : TreeS} {t : Tr} (h : WF T t) (hM : MR M T t) {p : Int32} (k2 : ModS → Int32 → Int32 → Option (Int32 × ModS)) {k : Nat} (hk : k < t.size) : ∀ (n j v : Nat), j ≤ t.size → t.size - j < n → f_X7_keyByPriority_c17 k2 n M p (nI k) (nI v) (nI j) = if nI (v + sumR (fun j => if abv T (t.sl j) (t.sl k) then 1 else 0) j (t.size - j)) = p then some (T.1 (t.sl k), (0, M.2)) else k2 (1, M.2) p (nI (k + 1))
  | 0, j, v, _, hn => absurd hn (by omega)
  | n + 1, j, v, hj, hn => by
    have h24 := h.le
    rw [f_X7_keyByPriority_c17, hM.1]
    by_cases e : j = t.size
    · rw [if_pos (nI_le (by omega) (by omega)), e, Nat.sub_self, isFine_1, isFine_0, Option.bind_some, Option.bind_some, if_neg n10, if_pos rfl, key_ok (M := (0, M.2)) (by omega), Option.bind_some, nI_1]
      show (if nI v = p then some (mK M k, _) else _) = if nI (v + 0) = p then _ else _
      rw [(hM.at hk).1]; rfl
    · rw [if_neg (nI_ge (by omega) (by omega)), nI_1, nI_1, Int32.add_zero, isAbove_ok (by omega) (by omega), Option.bind_some, kbp_c17 h hM k2 hk n (j + 1) v (by omega) (by omega), kbp_c17 h hM k2 hk n (j + 1) (v + 1) (by omega) (by omega), show t.size - j = (t.size - (j + 1)) + 1 by omega, sumR, ← Nat.add_assoc]
      by_cases e1 : j = k
      · rw [if_pos (by rw [e1]), e1, if_neg (c := abv T (t.sl k) (t.sl k)) (fun h9 => abv_asymm h9 h9)] <;> rfl
      · rw [if_neg (fun h9 => e1 ((nI_eq (by omega) (by omega)).mp h9))]
        by_cases e2 : mab M j k
        · rw [if_pos e2, if_neg n10, if_pos ((mab_iff h hM (by omega) hk).mp e2)]
        · rw [if_neg e2, if_pos rfl, if_neg (c := abv T (t.sl j) (t.sl k)) (fun h9 => e2 ((mab_iff h hM (by omega) hk).mpr h9))] <;> rfl
theorem kbp_c2 {M : ModS} {T : TreeS} {t : Tr} (h : WF T t) (hM : MR M T t) {p : Int32} : ∀ (n k : Nat) (x : Int32), k ≤ t.size → t.size - k < n →
    (∀ k0, k ≤ k0 → k0 < t.size → nI (ahead T t.slots (t.sl k0)) = p → f_X7_keyByPriority_c2 n (x, M.2) p (nI k) = some (T.1 (t.sl k0), (0, M.2))) ∧ ((∀ k0, k ≤ k0 → k0 < t.size → nI (ahead T t.slots (t.sl k0)) ≠ p) → f_X7_keyByPriority_c2 n (x, M.2) p (nI k) = some (0, (1, M.2)))
  | 0, k, x, _, hn => absurd hn (by omega)
  | n + 1, k, x, hk, hn => by
    have h24 := h.le
    have hN : mNs (x, M.2) t.size := hM.1
    rw [f_X7_keyByPriority_c2, hN]
    by_cases e : k = t.size
    · rw [if_pos (nI_le (by omega) (by omega))]
      exact ⟨fun k0 h1 h2 _ => by omega, fun _ => rfl⟩
    · obtain ⟨ih1, ih2⟩ := kbp_c2 h hM (p := p) n (k + 1) 1 (by omega) (by omega)
      have hah : sumR (fun j => if abv T (t.sl j) (t.sl k) then 1 else 0) 0 t.size = ahead T t.slots (t.sl k) := sum_pl (fun s => if abv T s (t.sl k) then 1 else 0) t
      have h17 := kbp_c17 (M := (x, M.2)) h hM (p := p) (f_X7_keyByPriority_c2 n) (k := k) (by omega) 200 0 0 (by omega) (by omega)
      rw [Nat.zero_add, Nat.sub_zero, hah] at h17
      rw [if_neg (nI_ge (by omega) (by omega)), show (0 : Int32) = nI 0 from rfl, h17]
      by_cases e1 : nI (ahead T t.slots (t.sl k)) = p
      · rw [if_pos e1]
        refine ⟨fun k0 h1 h2 h3 => ?_, fun h9 => absurd e1 (h9 k (Nat.le_refl _) (by omega))⟩
        have a1 := ahead_le (T := T) (L := t.slots) (x := t.sl k)
        have a2 := ahead_le (T := T) (L := t.slots) (x := t.sl k0)
        rw [Tr.len] at a1 a2
        have := (nI_eq (by omega) (by omega)).mp (e1.trans h3.symm)
        have e9 := ahead_inj (srt_inj h.2.1) (sl_mem (by omega)) (sl_mem h2) this
        rw [e9]; rfl
      · rw [if_neg e1]
        refine ⟨fun k0 h1 h2 h3 => ?_, fun h9 => ih2 (fun k0 h1 h2 => h9 k0 (by omega) h2)⟩
        by_cases e2 : k0 = k
        · rw [e2] at h3; exact absurd h3 e1
        · exact ih1 k0 (by omega) h2 h3
theorem ma_keyByPriority : pq_Ma_keyByPriority PR := by
  intro T M p1 h
  obtain ⟨t, hw, hM, -⟩ := h.now
  have h24 := hw.le
  show QQ [NSE] _ _
  unfold f_X6_keyByPriority f_X7_keyByPriority f_X4_slotByPriority
  obtain ⟨r1, r2⟩ := kbp_c2 hw hM (p := p1) 200 0 M.1 (by omega) (by omega)
  by_cases e : ∃ k0, k0 < t.size ∧ nI (ahead T.1.1 t.slots (t.sl k0)) = p1
  · obtain ⟨k0, k1, k2⟩ := e
    have hs := slotByPriority_c2 hw.1 (p := p1) (c := t.sl k0) (Or.inr ⟨sl_mem k1, fun s hs => ⟨fun h9 => ?_, fun h9 => by rw [h9]; exact k2⟩⟩) 200 1 (by omega) (by omega) (Or.inr (hw.1.mem _ (sl_mem k1)).1) (by omega)
    · rw [show (1 : Int32) = nI 1 from rfl, hs, Option.bind_some, tr_id]
      exact QQ.ret (keyIn_ok hw k1) (r1 k0 (by omega) k1 k2) h rfl
    · have a1 := ahead_le (T := T.1.1) (L := t.slots) (x := s)
      have a2 := ahead_le (T := T.1.1) (L := t.slots) (x := t.sl k0)
      rw [Tr.len] at a1 a2
      exact ahead_inj (srt_inj hw.2.1) hs (sl_mem k1) ((nI_eq (by omega) (by omega)).mp (h9.trans k2.symm))
  · have hno : ∀ k0, k0 < t.size → nI (ahead T.1.1 t.slots (t.sl k0)) ≠ p1 := fun k0 h1 h2 => e ⟨k0, h1, h2⟩
    have hs := slotByPriority_c2 hw.1 (p := p1) (c := 0) (Or.inl ⟨rfl, fun s hs => by
      obtain ⟨i, hi, rfl⟩ := sl_ex hs
      exact hno i hi⟩) 200 1 (by omega) (by omega) (Or.inl rfl) (by omega)
    rw [show (1 : Int32) = nI 1 from rfl, hs, Option.bind_some, tr_id]
    exact QQ.thr (keyIn_no T) (r2 (fun k0 _ h1 => hno k0 h1)) h (pcd_1 _ _) e10
theorem ma_root : pq_Ma_root PR := by
  intro T M h
  obtain ⟨t, hw, hM, -⟩ := h.now
  have h24 := hw.le
  show QQ [NSE] _ _
  unfold f_X6_root f_X7_root f_X4_topmost
  rw [Option.bind_some, tr_id, show T.1.1.2.2.2.2.2.2 = nI t.root from hw.1.1.1, hM.1]
  by_cases e : t = Tr.nil
  · rw [e, Tr.size_nil, show (0 : Int32) = nI 0 from rfl, top_none (by omega) (nI_dec_lt 0 (by omega)), Option.bind_some, bd_id]
    exact none_QQ h hM.1 h24 (by decide)
  · obtain ⟨g1, g2, g3⟩ := root_tp e
    rw [show nI t.size - 1 = nI (t.size - 1) from nI_dec1 (by omega), show (0 : Int32) = nI 0 from rfl, topR_ok (hw.th hM) h24 (by omega) (by omega), Option.bind_some, bd_id, ← g1]
    exact found_QQ h hw hM (by omega)
theorem ma_hasLeft : pq_Ma_hasLeft PR := by
  intro T M p1 h
  obtain ⟨t, hw, hM, -⟩ := h.now
  have h24 := hw.le
  show QQ [NSE] _ _
  unfold f_X6_hasLeft f_X7_hasLeft
  rcases key_cases (T := T.1.1) t p1 with ⟨i, hi, e⟩ | hm
  · rw [reqP_hit hw hi e, tr_r, findR_hit hw hM hi e, Option.bind_some, if_neg (nI_pos (by omega)), isFine_1, Option.bind_some, if_neg n10, findR_hit (M := (0, M.2)) hw hM hi e, Option.bind_some, leftAtR (M := (0, M.2)) hw hM hi, Option.bind_some]
    show QQ _ ((f_X4_leftIn T.1.1 (nI (t.sl i))).bind _) _
    rw [f_X4_leftIn, rd25 (hw.1.mem _ (sl_mem hi)).2, show T.1.1.2.2.2.1 (t.sl i) = nI (t.sl (t.lp i)) from left_ok hw.1 hi, Option.bind_some]
    by_cases e1 : t.fi i < i
    · have := lp_lt hi e1
      rw [if_pos e1, if_neg (sl_pos hw (by omega)), if_neg (nI_pos (by omega))]
      exact QQ.ret (M := (0, M.2)) rfl rfl h rfl
    · rw [if_neg e1, Tr.lp, if_neg e1, sl_out (by omega), if_pos (show nI 0 = 0 from rfl), if_pos neg1lt]
      exact QQ.ret (M := (0, M.2)) rfl rfl h rfl
  · rw [reqP_miss hw hm, findR_miss hw hM hm, Option.bind_some, if_pos neg1lt, isFine_0]
    exact QQ.thr (E := NSE) (b := 0) (M := (1, M.2)) rfl rfl h (pcd_1 _ _) e10
theorem ma_hasRight : pq_Ma_hasRight PR := by
  intro T M p1 h
  obtain ⟨t, hw, hM, -⟩ := h.now
  have h24 := hw.le
  show QQ [NSE] _ _
  unfold f_X6_hasRight f_X7_hasRight
  rcases key_cases (T := T.1.1) t p1 with ⟨i, hi, e⟩ | hm
  · rw [reqP_hit hw hi e, tr_r, findR_hit hw hM hi e, Option.bind_some, if_neg (nI_pos (by omega)), isFine_1, Option.bind_some, if_neg n10, findR_hit (M := (0, M.2)) hw hM hi e, Option.bind_some, rightAtR (M := (0, M.2)) hw hM hi, Option.bind_some]
    show QQ _ ((f_X4_rightIn T.1.1 (nI (t.sl i))).bind _) _
    rw [f_X4_rightIn, rd25 (hw.1.mem _ (sl_mem hi)).2, show T.1.1.2.2.2.2.1 (t.sl i) = nI (t.sl (t.rp i)) from right_ok hw.1 hi, Option.bind_some]
    by_cases e1 : i < t.la i
    · have := rp_lt hi e1
      rw [if_pos e1, if_neg (sl_pos hw (by omega)), if_neg (nI_pos (by omega))]
      exact QQ.ret (M := (0, M.2)) rfl rfl h rfl
    · rw [if_neg e1, Tr.rp, if_neg e1, sl_out (by omega), if_pos (show nI 0 = 0 from rfl), if_pos neg1lt]
      exact QQ.ret (M := (0, M.2)) rfl rfl h rfl
  · rw [reqP_miss hw hm, findR_miss hw hM hm, Option.bind_some, if_pos neg1lt, isFine_0]
    exact QQ.thr (E := NSE) (b := 0) (M := (1, M.2)) rfl rfl h (pcd_1 _ _) e10
theorem ma_leftOf : pq_Ma_leftOf PR := by
  intro T M p1 h
  obtain ⟨t, hw, hM, -⟩ := h.now
  have h24 := hw.le
  show QQ [NSE] _ _
  unfold f_X6_leftOf f_X7_leftOf
  rcases key_cases (T := T.1.1) t p1 with ⟨i, hi, e⟩ | hm
  · rw [reqP_hit hw hi e, tr_r, findR_hit hw hM hi e, Option.bind_some, leftAtR hw hM hi, Option.bind_some, bd_id]
    show QQ _ ((f_X4_leftIn T.1.1 (nI (t.sl i))).bind fun q5 => pq_tr (f_X6_keyInFound T q5) fun q6 T8 => some (.inr q6, T8)) _
    rw [f_X4_leftIn, rd25 (hw.1.mem _ (sl_mem hi)).2, show T.1.1.2.2.2.1 (t.sl i) = nI (t.sl (t.lp i)) from left_ok hw.1 hi, Option.bind_some, tr_id]
    by_cases e1 : t.fi i < i
    · have := lp_lt hi e1
      rw [if_pos e1]
      exact found_QQ h hw hM (by omega)
    · rw [if_neg e1, Tr.lp, if_neg e1, sl_out (by omega)]
      exact none_QQ h hM.1 h24 (by decide)
  · rw [reqP_miss hw hm, findR_miss hw hM hm, Option.bind_some]
    refine QQ.thr (E := NSE) (b := 0) (T := T) (M := (1, M.2)) rfl ?_ h (pcd_1 _ _) e10
    show ((some (-1)).bind fun q4 => (f_X7_keyOr M q4).bind fun q6 => some (q6.1, q6.2)) = _
    rw [Option.bind_some, bd_id, keyOr_out hM.1 h24 (Or.inl (by decide))]
theorem ma_rightOf : pq_Ma_rightOf PR := by
  intro T M p1 h
  obtain ⟨t, hw, hM, -⟩ := h.now
  have h24 := hw.le
  show QQ [NSE] _ _
  unfold f_X6_rightOf f_X7_rightOf
  rcases key_cases (T := T.1.1) t p1 with ⟨i, hi, e⟩ | hm
  · rw [reqP_hit hw hi e, tr_r, findR_hit hw hM hi e, Option.bind_some, rightAtR hw hM hi, Option.bind_some, bd_id]
    show QQ _ ((f_X4_rightIn T.1.1 (nI (t.sl i))).bind fun q5 => pq_tr (f_X6_keyInFound T q5) fun q6 T8 => some (.inr q6, T8)) _
    rw [f_X4_rightIn, rd25 (hw.1.mem _ (sl_mem hi)).2, show T.1.1.2.2.2.2.1 (t.sl i) = nI (t.sl (t.rp i)) from right_ok hw.1 hi, Option.bind_some, tr_id]
    by_cases e1 : i < t.la i
    · have := rp_lt hi e1
      rw [if_pos e1]
      exact found_QQ h hw hM (by omega)
    · rw [if_neg e1, Tr.rp, if_neg e1, sl_out (by omega)]
      exact none_QQ h hM.1 h24 (by decide)
  · rw [reqP_miss hw hm, findR_miss hw hM hm, Option.bind_some]
    refine QQ.thr (E := NSE) (b := 0) (T := T) (M := (1, M.2)) rfl ?_ h (pcd_1 _ _) e10
    show ((some (-1)).bind fun q4 => (f_X7_keyOr M q4).bind fun q6 => some (q6.1, q6.2)) = _
    rw [Option.bind_some, bd_id, keyOr_out hM.1 h24 (Or.inl (by decide))]
theorem ma_parentOf : pq_Ma_parentOf PR := by
  intro T M p1 h
  obtain ⟨t, hw, hM, -⟩ := h.now
  have h24 := hw.le
  show QQ [NSE] _ _
  unfold f_X6_parentOf f_X7_parentOf
  rcases key_cases (T := T.1.1) t p1 with ⟨i, hi, e⟩ | hm
  · rw [reqP_hit hw hi e, tr_r, findR_hit hw hM hi e, Option.bind_some]
    show QQ _ ((f_X4_parentIn T.1.1 (nI (t.sl i))).bind fun q5 => pq_tr (f_X6_keyInFound T q5) fun q6 T8 => some (.inr q6, T8)) _
    rw [f_X4_parentIn, rd25 (hw.1.mem _ (sl_mem hi)).2, Option.bind_some, tr_id]
    rcases parent_ok hw hM hi with ⟨a1, a2⟩ | ⟨j, j1, a1, a2⟩
    · rw [show T.1.1.2.2.1 (t.sl i) = 0 from a1, a2, Option.bind_some, bd_id]
      exact none_QQ h hM.1 h24 (by decide)
    · rw [show T.1.1.2.2.1 (t.sl i) = nI (t.sl j) from a1, a2, Option.bind_some, bd_id]
      exact found_QQ h hw hM (by omega)
  · rw [reqP_miss hw hm, findR_miss hw hM hm, Option.bind_some]
    refine QQ.thr (E := NSE) (b := 0) (T := T) (M := (1, M.2)) rfl ?_ h (pcd_1 _ _) e10
    show ((some (-1)).bind fun q4 => (f_X7_keyOr M q4).bind fun q6 => some (q6.1, q6.2)) = _
    rw [Option.bind_some, bd_id, keyOr_out hM.1 h24 (Or.inl (by decide))]
theorem ma_depthOf : pq_Ma_depthOf PR := by
  intro T M p1 h
  obtain ⟨t, hw, hM, -⟩ := h.now
  have h24 := hw.le
  show QQ [NSE] _ _
  unfold f_X6_depthOf f_X7_depthOf
  rcases key_cases (T := T.1.1) t p1 with ⟨i, hi, e⟩ | hm
  · rw [reqP_hit hw hi e, tr_r, findR_hit hw hM hi e, Option.bind_some, if_neg (nI_pos (by omega)), isFine_1, Option.bind_some, if_neg n10, depthR_ok (M := (0, M.2)) hM.1 h24 (hw.th (M := (0, M.2)) hM) hi]
    refine QQ.ret (T := T) (M := (0, M.2)) (b := nI (t.dep i)) ?_ rfl h rfl
    show (f_X4_depthIn T.1.1 (nI (t.sl i))).bind _ = _
    rw [(depthIn_ok hw.1 hi).1]; rfl
  · rw [reqP_miss hw hm, findR_miss hw hM hm, Option.bind_some, if_pos neg1lt, isFine_0]
    exact QQ.thr (E := NSE) (b := 0) (M := (1, M.2)) rfl rfl h (pcd_1 _ _) e10
theorem ma_subtreeSize : pq_Ma_subtreeSize PR := by
  intro T M p1 h
  obtain ⟨t, hw, hM, -⟩ := h.now
  have h24 := hw.le
  show QQ [NSE] _ _
  unfold f_X6_subtreeSize f_X7_subtreeSize
  rcases key_cases (T := T.1.1) t p1 with ⟨i, hi, e⟩ | hm
  · rw [reqP_hit hw hi e, tr_r, findR_hit hw hM hi e, Option.bind_some, if_neg (nI_pos (by omega)), isFine_1, Option.bind_some, if_neg n10, findR_hit (M := (0, M.2)) hw hM hi e, Option.bind_some, sizeAtR (M := (0, M.2)) hw hM hi]
    refine QQ.ret (T := T) (M := (0, M.2)) (b := nI (t.sz i)) ?_ rfl h rfl
    show (f_X4_countIn T.1.1 (nI (t.sl i))).bind _ = _
    rw [f_X4_countIn, rd25 (hw.1.mem _ (sl_mem hi)).2, show T.1.1.2.2.2.2.2.1 (t.sl i) = nI (t.sz i) from (cn_sz hw.1.2.1 i hi).1]; rfl
  · rw [reqP_miss hw hm, findR_miss hw hM hm, Option.bind_some, if_pos neg1lt, isFine_0]
    exact QQ.thr (E := NSE) (b := 0) (M := (1, M.2)) rfl rfl h (pcd_1 _ _) e10
theorem ma_imbalanceOf : pq_Ma_imbalanceOf PR := by
  intro T M p1 h
  obtain ⟨t, hw, hM, -⟩ := h.now
  have h24 := hw.le
  show QQ [NSE] _ _
  unfold f_X6_imbalanceOf f_X7_imbalanceOf
  rcases key_cases (T := T.1.1) t p1 with ⟨i, hi, e⟩ | hm
  · have hL : ∃ l : Int32, f_X4_countIn T.1.1 (nI (t.sl (t.lp i))) = some l ∧ f_X7_sizeAt (0, M.2) (if t.fi i < i then nI (t.lp i) else -1) = some l := by
      by_cases e1 : t.fi i < i
      · have := lp_lt hi e1
        refine ⟨nI (t.sz (t.lp i)), ?_, by rw [if_pos e1]; exact sizeAtR (M := (0, M.2)) hw hM (by omega)⟩
        rw [f_X4_countIn, rd25 (hw.1.mem _ (sl_mem (by omega))).2]
        exact congrArg some (cn_sz hw.1.2.1 _ (by omega)).1
      · refine ⟨0, ?_, by rw [if_neg e1]; exact sizeAt_none⟩
        rw [Tr.lp, if_neg e1, sl_out (by omega), f_X4_countIn, rd25 (by omega)]
        exact congrArg some hw.1.2.2.2.2
    have hR : ∃ l : Int32, f_X4_countIn T.1.1 (nI (t.sl (t.rp i))) = some l ∧ f_X7_sizeAt (0, M.2) (if i < t.la i then nI (t.rp i) else -1) = some l := by
      by_cases e1 : i < t.la i
      · have := rp_lt hi e1
        refine ⟨nI (t.sz (t.rp i)), ?_, by rw [if_pos e1]; exact sizeAtR (M := (0, M.2)) hw hM (by omega)⟩
        rw [f_X4_countIn, rd25 (hw.1.mem _ (sl_mem (by omega))).2]
        exact congrArg some (cn_sz hw.1.2.1 _ (by omega)).1
      · refine ⟨0, ?_, by rw [if_neg e1]; exact sizeAt_none⟩
        rw [Tr.rp, if_neg e1, sl_out (by omega), f_X4_countIn, rd25 (by omega)]
        exact congrArg some hw.1.2.2.2.2
    obtain ⟨l1, a1, a2⟩ := hL
    obtain ⟨l2, b1, b2⟩ := hR
    have hs := (hw.1.mem _ (sl_mem hi)).2
    rw [reqP_hit hw hi e, tr_r, findR_hit hw hM hi e, Option.bind_some, if_neg (nI_pos (by omega)), isFine_1, Option.bind_some, if_neg n10, leftAtR (M := (0, M.2)) hw hM hi, Option.bind_some, a2, Option.bind_some, rightAtR (M := (0, M.2)) hw hM hi, Option.bind_some, b2]
    refine QQ.ret (T := T) (M := (0, M.2)) (b := l1 - l2) ?_ rfl h rfl
    rw [f_X4_leftIn, rd25 hs, show T.1.1.2.2.2.1 (t.sl i) = nI (t.sl (t.lp i)) from left_ok hw.1 hi, Option.bind_some, a1, Option.bind_some, f_X4_rightIn, rd25 hs, show T.1.1.2.2.2.2.1 (t.sl i) = nI (t.sl (t.rp i)) from right_ok hw.1 hi, Option.bind_some, b1]; rfl
  · rw [reqP_miss hw hm, findR_miss hw hM hm, Option.bind_some, if_pos neg1lt, isFine_0]
    exact QQ.thr (E := NSE) (b := 0) (M := (1, M.2)) rfl rfl h (pcd_1 _ _) e10
theorem ma_height : pq_Ma_height PR := by
  intro T M h
  obtain ⟨t, hw, hM, -⟩ := h.now
  have h24 := hw.le
  obtain ⟨m, a1, a2⟩ := greatestDepth_ok hw.1
  obtain ⟨m', b1, b2⟩ := height_c9 (M := (0, M.2)) hM.1 h24 (hw.th (M := (0, M.2)) hM) 200 0 (-1) (by omega) ⟨fun s hs => by omega, Or.inl rfl⟩ (by omega)
  have em : m = m' := isMax_uniq (fun s hs => by have := (depthIn_ok hw.1 hs).2; omega) a2 b2
  refine ⟨m, (0, M.2), ?_, ?_, h⟩
  · unfold f_X6_height; rw [a1]; rfl
  · unfold f_X7_height; rw [em]; exact b1
theorem ma_leafCount : pq_Ma_leafCount PR := by
  intro T M h
  obtain ⟨t, hw, hM, -⟩ := h.now
  refine ⟨nI (sumR (fun i => if t.sz i = 1 then 1 else 0) 0 t.size), (0, M.2), ?_, ?_, h⟩
  · unfold f_X6_leafCount; rw [countLeaves_ok hw.1]; rfl
  · unfold f_X7_leafCount
    show (f_X7_leaves (0, M.2)).bind _ = _
    rw [leavesR (M := (0, M.2)) hw hM]; rfl
theorem topSlot_pair {T : TreeS} {t : Tr} (h : WF T t) {i j : Nat} (hij : i ≤ j) (hj : j < t.size) : f_X4_topSlot T (T.1 (t.sl i)) (T.1 (t.sl j)) = some (nI (t.sl (t.tp i j))) := by
  have hle : T.1 (t.sl i) ≤ T.1 (t.sl j) := by
    by_cases e : i = j
    · rw [e]; exact Int32.le_refl _
    · exact Int32.le_of_lt (srt_lt h.2.1 (by omega) (by rw [Tr.len]; exact hj))
  rw [topSlot_ok h hle, (cnt_hit h.2.1 (i := i) (by omega) rfl).1, (cnt_hit h.2.1 hj rfl).2, if_pos (by omega), Nat.add_sub_cancel]
/-- the common ancestor of two points: the class's slot, the reference's place -/
theorem common_ok {M : ModS} {T : TreeS} {t : Tr} (h : WF T t) (hM : MR M T t) {i j : Nat} (hi : i < t.size) (hj : j < t.size) {p1 p2 : Int32} (e1 : T.1 (t.sl i) = p1) (e2 : T.1 (t.sl j) = p2) : ∃ c, c < t.size ∧ f_X4_topSlot T (if p2 < p1 then p2 else p1) (if p1 < p2 then p2 else p1) = some (nI (t.sl c)) ∧ f_X7_common M (nI i) (nI j) = some (nI c) := by
  have h24 := h.le
  unfold f_X7_common
  by_cases e : j ≤ i
  · have ht := tp_in (t := t) j i e hi
    refine ⟨t.tp j i, by omega, ?_, ?_⟩
    · have hle : p2 ≤ p1 := by
        rw [← e1, ← e2]
        by_cases e9 : j = i
        · rw [e9]; exact Int32.le_refl _
        · exact Int32.le_of_lt (srt_lt h.2.1 (by omega) (by rw [Tr.len]; exact hi))
      rw [if_neg (c := p1 < p2) (Int32.not_lt.mpr hle), ← topSlot_pair h e hi, e1, e2]
      by_cases e9 : p2 < p1
      · rw [if_pos e9]
      · rw [if_neg e9, Int32.le_antisymm (Int32.not_lt.mp e9) hle]
    · rw [if_pos (nI_le e (by omega)), topR_ok (h.th hM) h24 e hi]; rfl
  · have ht := tp_in (t := t) i j (by omega) hj
    have hlt : p1 < p2 := by rw [← e1, ← e2]; exact srt_lt h.2.1 (by omega) (by rw [Tr.len]; exact hj)
    refine ⟨t.tp i j, by omega, ?_, ?_⟩
    · rw [if_pos hlt, if_neg (c := p2 < p1) (Int32.not_lt.mpr (Int32.le_of_lt hlt)), ← topSlot_pair h (by omega) hj, e1, e2]
    · rw [if_neg (nI_ge (by omega) (by omega)), topR_ok (h.th hM) h24 (by omega) hj]; rfl
theorem ma_commonAncestor : pq_Ma_commonAncestor PR := by
  intro T M p1 p2 h
  obtain ⟨t, hw, hM, -⟩ := h.now
  have h24 := hw.le
  show QQ [NSE] _ _
  unfold f_X6_commonAncestor f_X7_commonAncestor
  rcases key_cases (T := T.1.1) t p1 with ⟨i, hi, e⟩ | hm
  · rcases key_cases (T := T.1.1) t p2 with ⟨j, hj, e2⟩ | hm2
    · obtain ⟨c, c1, c2, c3⟩ := common_ok (M := (0, M.2)) hw hM hi hj e e2
      rw [reqP_hit hw hi e, tr_r, findR_hit hw hM hi e, findR_hit hw hM hj e2, Option.bind_some, Option.bind_some, if_neg (nI_pos (by omega)), if_neg (nI_pos (by omega)), isFine_1, Option.bind_some, if_neg n10, c3, Option.bind_some, key_ok (M := (0, M.2)) (by omega)]
      refine QQ.ret (T := T) (M := (0, M.2)) (b := T.1.1.1 (t.sl c)) ?_ ?_ h rfl
      · show pq_tr (f_X6_requirePoint T p2) (fun q4 T6 => (f_X4_topSlot T6.1.1 (if p2 < p1 then p2 else p1) (if p1 < p2 then p2 else p1)).bind fun q8 => (f_X4_keyIn T6.1.1 q8).bind fun q10 => some (.inr q10, T6)) = _
        rw [reqP_hit hw hj e2, tr_r]
        show (f_X4_topSlot T.1.1 (if p2 < p1 then p2 else p1) (if p1 < p2 then p2 else p1)).bind _ = _
        rw [c2, Option.bind_some, f_X4_keyIn, rd25 (hw.1.mem _ (sl_mem c1)).2]; rfl
      · show some (mK M c, _) = _
        rw [(hM.at c1).1]
    · rw [reqP_hit hw hi e, tr_r, findR_hit hw hM hi e, findR_miss hw hM hm2, Option.bind_some, Option.bind_some, if_neg (nI_pos (by omega)), if_pos neg1lt, isFine_0]
      refine QQ.thr (E := NSE) (b := 0) (T := T) (M := (1, M.2)) ?_ rfl h (pcd_1 _ _) e10
      show pq_tr (f_X6_requirePoint T p2) _ = _
      rw [reqP_miss hw hm2]; rfl
  · rcases key_cases (T := T.1.1) t p2 with ⟨j, hj, e2⟩ | hm2
    · rw [reqP_miss hw hm, findR_miss hw hM hm, findR_hit hw hM hj e2, Option.bind_some, Option.bind_some, if_pos neg1lt, isFine_0]
      exact QQ.thr (E := NSE) (b := 0) (M := (1, M.2)) rfl rfl h (pcd_1 _ _) e10
    · rw [reqP_miss hw hm, findR_miss hw hM hm, findR_miss hw hM hm2, Option.bind_some, Option.bind_some, if_pos neg1lt, isFine_0]
      exact QQ.thr (E := NSE) (b := 0) (M := (1, M.2)) rfl rfl h (pcd_1 _ _) e10
theorem ma_distance : pq_Ma_distance PR := by
  intro T M p1 p2 h
  obtain ⟨t, hw, hM, -⟩ := h.now
  have h24 := hw.le
  show QQ [NSE] _ _
  unfold f_X6_distance f_X7_distance
  rcases key_cases (T := T.1.1) t p1 with ⟨i, hi, e⟩ | hm
  · rcases key_cases (T := T.1.1) t p2 with ⟨j, hj, e2⟩ | hm2
    · obtain ⟨c, c1, c2, c3⟩ := common_ok (M := (0, M.2)) hw hM hi hj e e2
      have dd : ∀ i, i < t.size → f_X7_depth (0, M.2) (nI i) = some (nI (t.dep i)) := fun i hi => depthR_ok (M := (0, M.2)) hM.1 h24 (hw.th (M := (0, M.2)) hM) hi
      rw [reqP_hit hw hi e, tr_r, findR_hit hw hM hi e, findR_hit hw hM hj e2, Option.bind_some, Option.bind_some, if_neg (nI_pos (by omega)), if_neg (nI_pos (by omega)), isFine_1, Option.bind_some, if_neg n10, dd i hi, dd j hj, Option.bind_some, Option.bind_some, c3, Option.bind_some, dd c c1]
      refine QQ.ret (T := T) (M := (0, M.2)) (b := (nI (t.dep i) + nI (t.dep j)) - (2 * nI (t.dep c))) ?_ rfl h rfl
      show pq_tr (f_X6_requirePoint T p2) (fun q4 T6 => (f_X4_topSlot T6.1.1 (if p2 < p1 then p2 else p1) (if p1 < p2 then p2 else p1)).bind fun q8 => (f_X4_depthIn T6.1.1 (nI (t.sl i))).bind fun q10 => (f_X4_depthIn T6.1.1 q4).bind fun q12 => (f_X4_depthIn T6.1.1 q8).bind fun q14 => some (.inr ((q10 + q12) - (2 * q14)), T6)) = _
      rw [reqP_hit hw hj e2, tr_r]
      show (f_X4_topSlot T.1.1 (if p2 < p1 then p2 else p1) (if p1 < p2 then p2 else p1)).bind _ = _
      rw [c2, Option.bind_some, (depthIn_ok hw.1 hi).1, (depthIn_ok hw.1 hj).1, (depthIn_ok hw.1 c1).1]; rfl
    · rw [reqP_hit hw hi e, tr_r, findR_hit hw hM hi e, findR_miss hw hM hm2, Option.bind_some, Option.bind_some, if_neg (nI_pos (by omega)), if_pos neg1lt, isFine_0]
      refine QQ.thr (E := NSE) (b := 0) (T := T) (M := (1, M.2)) ?_ rfl h (pcd_1 _ _) e10
      show pq_tr (f_X6_requirePoint T p2) _ = _
      rw [reqP_miss hw hm2]; rfl
  · rcases key_cases (T := T.1.1) t p2 with ⟨j, hj, e2⟩ | hm2
    · rw [reqP_miss hw hm, findR_miss hw hM hm, findR_hit hw hM hj e2, Option.bind_some, Option.bind_some, if_pos neg1lt, isFine_0]
      exact QQ.thr (E := NSE) (b := 0) (M := (1, M.2)) rfl rfl h (pcd_1 _ _) e10
    · rw [reqP_miss hw hm, findR_miss hw hM hm, findR_miss hw hM hm2, Option.bind_some, Option.bind_some, if_pos neg1lt, isFine_0]
      exact QQ.thr (E := NSE) (b := 0) (M := (1, M.2)) rfl rfl h (pcd_1 _ _) e10
