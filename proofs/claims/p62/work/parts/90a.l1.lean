/-! ===== the law's small methods ===== -/
theorem lw_nI (x : Int32) : ∃ n, n < 2 ^ 32 ∧ x = nI n ∧ x.toBitVec.toNat = n := ⟨x.toBitVec.toNat, x.toBitVec.isLt, Int32.toBitVec_inj.mp (by rw [show (nI x.toBitVec.toNat).toBitVec = BitVec.ofNat 32 x.toBitVec.toNat from rfl, BitVec.ofNat_toNat, BitVec.setWidth_eq]), rfl⟩
def lcell (xs : Nat → Int32) (L j : Nat) : Int32 := if j < L then xs j else 7919 * nI j + 12
def lsome (xs : Nat → Int32) (L j n : Nat) : Nat := (lcell xs L j).toBitVec.toNat / 2 ^ 3 % n
set_option maxHeartbeats 4000000 in
set_option maxRecDepth 100000 in
theorem c_L_cell (l : Launch) (g : pq_g) (ad av : Nat → Nat) (TX : tx_L) (sb L : Nat) (xs : Nat → Int32) (j : Nat) (hL : L < 2 ^ 31) (hj : j < 2 ^ 31) : lM l yL_cell cL_cell 2 (some .int) 1 0 0 g ad av TX sb L xs [] [.ref sb, .int (nI j)] (fun r _ _ => r = some (.int (lcell xs L j))) := by
  refine lM.of (own := RL) (by decide) rfl (Nat.le_of_ble_eq_true rfl) rfl ?_
  intro p e s m below meth c ls Q A S hin hP hK hD hS hA hAw hI hl hend
  obtain ⟨hx, hb, hml, hown, hts⟩ := id S
  refine lv_iload_n hx hb dL_cell_0 rfl (lv_at hl 1 rfl) ?_
  refine lv_aload_n hx hb dL_cell_1 rfl (lv_at hl 0 rfl) ?_
  refine va_tlen (v := nI L) hx hb hI.2.2 hS rfl dL_cell_2 ?_
  by_cases h : j < L
  · refine lv_icmp_ge (tgt := 12) hx hb dL_cell_3 (by decide) (fun h9 => absurd h9 (nI_ge h hL)) (fun _ => ?_)
    refine lv_aload_n hx hb dL_cell_6 rfl (lv_at hl 0 rfl) ?_
    refine lv_iload_n hx hb dL_cell_7 rfl (lv_at hl 1 rfl) ?_
    refine va_ti (v := .int (xs j)) hx hb hI.2.2 hS (vp_in_nI h hL) (by rw [nI_clamp hj]) dL_cell_8 ?_
    refine lv_goto (tgt := 20) hx hb dL_cell_9 (by decide) ?_
    exact hend _ _ _ _ _ _ _ _ (sRet.i rfl dL_cell_20) (by rw [lcell, if_pos h]) hS (Nat.le_of_ble_eq_true rfl) (Nat.le_of_ble_eq_true rfl)
  · refine lv_icmp_ge (tgt := 12) hx hb dL_cell_3 (by decide) (fun _ => ?_) (fun h9 => absurd (nI_le (Nat.le_of_not_lt h) hj) h9)
    refine lv_sipush (v := 7919) hx hb dL_cell_12 (by decide) ?_
    refine lv_iload_n hx hb dL_cell_15 rfl (lv_at hl 1 rfl) ?_
    refine lv_imul hx hb dL_cell_16 ?_
    refine lv_bipush (v := 12) hx hb dL_cell_17 (by decide) ?_
    refine lv_iadd hx hb dL_cell_19 ?_
    exact hend _ _ _ _ _ _ _ _ (sRet.i rfl dL_cell_20) (by rw [lcell, if_neg h]) hS (Nat.le_of_ble_eq_true rfl) (Nat.le_of_ble_eq_true rfl)
set_option maxHeartbeats 4000000 in
set_option maxRecDepth 100000 in
theorem c_L_some (l : Launch) (g : pq_g) (ad av : Nat → Nat) (TX : tx_L) (sb L : Nat) (xs : Nat → Int32) (j n : Nat) (hL : L < 2 ^ 31) (hj : j < 2 ^ 31) (hn : 0 < n) (hn2 : n < 2 ^ 31) : lM l yL_some cL_some 3 (some .int) 2 0 0 g ad av TX sb L xs [] [.ref sb, .int (nI j), .int (nI n)] (fun r _ _ => r = some (.int (nI (lsome xs L j n)))) := by
  refine lM.of (own := RL) (by decide) rfl (Nat.le_of_ble_eq_true rfl) rfl ?_
  intro p e s m below meth c ls Q A S hin hP hK hD hS hA hAw hI hl hend
  obtain ⟨hx, hb, hml, hown, hts⟩ := id S
  obtain ⟨n9, k1, k2, k3⟩ := lw_nI (lcell xs L j)
  refine lv_aload_n hx hb dL_some_0 rfl (lv_at hl 0 rfl) ?_
  refine lv_iload_n hx hb dL_some_1 rfl (lv_at hl 1 rfl) ?_
  refine lS S (c_L_cell l g ad av TX sb L xs j hL hj) vs_L_7 hK (hI.at hS (pq_Afree pq_D0 hS hA) (fun _ h => h)) pq_P0 pq_D0 hS hA rfl rfl hl.1 (Nat.le_of_ble_eq_true rfl) dL_some_2 ⟨Nat.le_of_ble_eq_true rfl, Nat.le_of_ble_eq_true rfl⟩ ⟨Nat.le_of_ble_eq_true rfl, Nat.le_of_ble_eq_true rfl⟩ (fun r H1 locs1 hr hz hk hS => ?_)
  subst hr
  show W _ _ _ _ _ _ _ _ _ _ _ _ _ _ _ (F0 _ _ _ [.int (lcell xs L j)])
  refine lv_iconst (v := 3) hx hb dL_some_5 (by decide) ?_
  refine lv_iushr (v := nI (n9 / 2 ^ 3)) hx hb dL_some_6 (by rw [k2]; exact pk_ushrN k1 3 3 (by decide)) ?_
  refine lv_iload_n hx hb dL_some_7 rfl (lv_at hl 2 rfl) ?_
  refine lv_irem hx hb dL_some_8 (nI_ne0 hn hn2) ?_
  rw [pk_rem (by omega) hn hn2]
  exact hend _ _ _ _ _ _ _ _ (sRet.i rfl dL_some_9) (by rw [lsome, k3]) hS (Nat.le_of_ble_eq_true rfl) (Nat.le_of_ble_eq_true rfl)
set_option maxHeartbeats 4000000 in
set_option maxRecDepth 100000 in
theorem c_L_isAbove (l : Launch) (g : pq_g) (ad av : Nat → Nat) (TX : tx_L) (sb L : Nat) (xs : Nat → Int32) (a : Nat → Nat) (T : MainS) (k1 k2 q1 q2 : Int32) (hst : l.stackTraces = false) (h1 : f_X6_priorityOf T k1 = some (.inr q1, T)) (h2 : f_X6_priorityOf T k2 = some (.inr q2, T)) (r : Int32) (hr : r = if 0 < q1 - q2 then 1 else if q1 - q2 = 0 ∧ k1 < k2 then 1 else 0) : lM l yL_isAbove cL_isAbove 4 (some .boolean) 8 2 12 g ad av [] sb L xs (mainW g a T) [.ref (a 0), .int k1, .int k2] (fun v _ H => v = some (.int r) ∧ va_P g.1 pq_cl (mainW g a T) H) := by
  refine lM.of (own := RL) (by decide) rfl (Nat.le_of_ble_eq_true rfl) rfl ?_
  intro p e s m below meth c ls Q A S hin hP hK hD hS hA hAw hI hl hend
  obtain ⟨hx, hb, hml, hown, hts⟩ := id S
  have hT := hI.1.1
  refine lv_aload_n hx hb dL_isAbove_0 rfl (lv_at hl 0 rfl) ?_
  refine lv_iload_n hx hb dL_isAbove_1 rfl (lv_at hl 1 rfl) ?_
  refine pq_cXV S (c_X6_priorityOf l g a T k1 hst _ T h1) vv_L_123 hK hT hP hD hS hA rfl rfl rfl rfl rfl hl.1 (Nat.le_of_ble_eq_true rfl) dL_isAbove_2 (by decide) (by decide) ⟨Nat.le_of_ble_eq_true rfl, Nat.le_of_ble_eq_true rfl⟩ (fun E ce q9 H1 l1 h9 => by cases h9) (fun v9 H1 locs hv hk hP hS => ?_)
  obtain rfl : v9 = some (.int q1) := (Sum.inr.inj hv).symm
  show W _ _ _ _ _ _ _ _ _ _ _ _ _ _ _ (F0 _ _ _ [.int q1])
  refine lv_aload_n hx hb dL_isAbove_5 rfl (lv_at hl 0 rfl) ?_
  refine lv_iload_n hx hb dL_isAbove_6 rfl (lv_at hl 2 rfl) ?_
  refine pq_cXV S (c_X6_priorityOf l g a T k2 hst _ T h2) vv_L_123 hK hT hP hD hS hA rfl rfl rfl rfl rfl hl.1 (Nat.le_of_ble_eq_true rfl) dL_isAbove_7 (by decide) (by decide) ⟨Nat.le_of_ble_eq_true rfl, Nat.le_of_ble_eq_true rfl⟩ (fun E ce q9 H1 l1 h9 => by cases h9) (fun v9 H1 locs hv hk hP hS => ?_)
  obtain rfl : v9 = some (.int q2) := (Sum.inr.inj hv).symm
  show W _ _ _ _ _ _ _ _ _ _ _ _ _ _ _ (F0 _ _ _ [.int q2, .int q1])
  refine lv_isub hx hb dL_isAbove_10 ?_
  refine lv_istore_n (lv' := [(3, .int (q1 - q2)), (0, .ref (a 0)), (1, .int k1), (2, .int k2)]) hx hb dL_isAbove_11 rfl hl (by decide) rfl (fun ls hl => ?_)
  refine lv_iload_n hx hb dL_isAbove_12 rfl (lv_at hl 0 rfl) ?_
  by_cases e1 : 0 < q1 - q2
  · refine lv_if_gt (tgt := 25) hx hb dL_isAbove_13 (by decide) (fun _ => ?_) (fun h9 => absurd e1 h9)
    refine lv_iconst (v := 1) hx hb dL_isAbove_25 (by decide) ?_
    refine lv_goto (tgt := 30) hx hb dL_isAbove_26 (by decide) ?_
    exact hend _ _ _ _ _ _ _ _ (sRet.i rfl dL_isAbove_30) ⟨by rw [hr, if_pos e1], hP⟩ hS (Nat.le_of_ble_eq_true rfl) (Nat.le_of_ble_eq_true rfl)
  · refine lv_if_gt (tgt := 25) hx hb dL_isAbove_13 (by decide) (fun h9 => absurd h9 e1) (fun _ => ?_)
    refine lv_iload_n hx hb dL_isAbove_16 rfl (lv_at hl 0 rfl) ?_
    by_cases e2 : q1 - q2 = 0
    · refine lv_if_ne (tgt := 29) hx hb dL_isAbove_17 (by decide) (fun h9 => absurd e2 h9) (fun _ => ?_)
      refine lv_iload_n hx hb dL_isAbove_20 rfl (lv_at hl 2 rfl) ?_
      refine lv_iload_n hx hb dL_isAbove_21 rfl (lv_at hl 3 rfl) ?_
      by_cases e3 : k1 < k2
      · refine lv_icmp_ge (tgt := 29) hx hb dL_isAbove_22 (by decide) (fun h9 => absurd e3 (Int32.not_lt.mpr h9)) (fun _ => ?_)
        refine lv_iconst (v := 1) hx hb dL_isAbove_25 (by decide) ?_
        refine lv_goto (tgt := 30) hx hb dL_isAbove_26 (by decide) ?_
        exact hend _ _ _ _ _ _ _ _ (sRet.i rfl dL_isAbove_30) ⟨by rw [hr, if_neg e1, if_pos ⟨e2, e3⟩], hP⟩ hS (Nat.le_of_ble_eq_true rfl) (Nat.le_of_ble_eq_true rfl)
      · refine lv_icmp_ge (tgt := 29) hx hb dL_isAbove_22 (by decide) (fun _ => ?_) (fun h9 => absurd (Int32.not_lt.mp e3) h9)
        refine lv_iconst (v := 0) hx hb dL_isAbove_29 (by decide) ?_
        exact hend _ _ _ _ _ _ _ _ (sRet.i rfl dL_isAbove_30) ⟨by rw [hr, if_neg e1, if_neg (fun h8 => e3 h8.2)], hP⟩ hS (Nat.le_of_ble_eq_true rfl) (Nat.le_of_ble_eq_true rfl)
    · refine lv_if_ne (tgt := 29) hx hb dL_isAbove_17 (by decide) (fun _ => ?_) (fun h9 => absurd h9 e2)
      refine lv_iconst (v := 0) hx hb dL_isAbove_29 (by decide) ?_
      exact hend _ _ _ _ _ _ _ _ (sRet.i rfl dL_isAbove_30) ⟨by rw [hr, if_neg e1, if_neg (fun h8 => e2 h8.1)], hP⟩ hS (Nat.le_of_ble_eq_true rfl) (Nat.le_of_ble_eq_true rfl)
set_option maxHeartbeats 4000000 in
set_option maxRecDepth 100000 in
theorem c_L_isLine (l : Launch) (g : pq_g) (ad av : Nat → Nat) (sb L : Nat) (xs : Nat → Int32) (a : Nat → Nat) (T : MainS) (t : List Nat) (b v : Nat) (hst : l.stackTraces = false) (hn : t.length ≤ 200) (hc : ∀ c ∈ t, c < 128) (ho : ∀ j, j < t.length → f_X6_outputAt T (nI j) = some (.inr (nI (t.getD j 0)), T)) : lM l yL_isLine cL_isLine 4 (some .boolean) 8 200 1200 g ad av [(t, b, v)] sb L xs (mainW g a T) [.ref (a 0), .int (nI t.length), .ref b] (fun r _ H => r = some (.int 1) ∧ va_P g.1 pq_cl (mainW g a T) H) := by
  refine lM.of (own := RL) (by decide) rfl (Nat.le_of_ble_eq_true rfl) rfl ?_
  intro p e s m below meth c ls Q A S hin hP hK hD hS hA hAw hI hl hend
  obtain ⟨hx, hb, hml, hown, hts⟩ := id S
  have hT := hI.1.1
  have hX := hI.2.1.2.1 _ List.mem_cons_self
  have hc9 : ∀ j, j < t.length → t.getD j 0 < 128 := fun j hj => by
    rw [List.getD_eq_getElem?_getD, List.getElem?_eq_getElem hj]
    exact hc _ (List.getElem_mem hj)
  refine lv_iload_n hx hb dL_isLine_0 rfl (lv_at hl 1 rfl) ?_
  refine lv_aload_n hx hb dL_isLine_1 rfl (lv_at hl 2 rfl) ?_
  refine sV S (c_J0_length l g ad av t b v (by omega)) vv_L_126 hK (hI.2.1.at hS (pq_Afree pq_D0 hS hA) (fun _ h => h)) pq_P0 pq_D0 hS hA (hX.recv hS) rfl rfl hl.1 (Nat.le_of_ble_eq_true rfl) dL_isLine_2 ⟨Nat.le_of_ble_eq_true rfl, Nat.le_of_ble_eq_true rfl⟩ ⟨Nat.le_of_ble_eq_true rfl, Nat.le_of_ble_eq_true rfl⟩ (fun r H1 locs1 hr hz hk hS => ?_)
  subst hr
  replace hP := pq_kp0 hP hk
  show W _ _ _ _ _ _ _ _ _ _ _ _ _ _ _ (F0 _ _ _ [.int (nI t.length), .int (nI t.length)])
  refine lv_icmp_eq (tgt := 10) hx hb dL_isLine_5 (by decide) (fun _ => ?_) (fun h9 => absurd rfl h9)
  refine lv_iconst (v := 0) hx hb dL_isLine_10 (by decide) ?_
  refine lv_istore_n (lv' := [(3, .int 0), (0, .ref (a 0)), (1, .int (nI t.length)), (2, .ref b)]) hx hb dL_isLine_11 rfl hl (by decide) rfl (fun ls hl => ?_)
  have key : ∀ (z i : Nat) (ls : Array Slot) (H : Heap) (locs : List Loc) (cells slots : Nat), i + z = t.length → cells ≤ i → slots ≤ 6 * i → lv_has ls 4 [(3, .int (nI i)), (0, .ref (a 0)), (1, .int (nI t.length)), (2, .ref b)] → va_P g.1 pq_cl (mainW g a T) H → va_D A (mainW g a T) → va_S A s.heap H locs → W p l e (pq_rm 8 200 1200) s m [.ref (a 0), .int (nI t.length), .ref b].toArray below meth c H locs cells slots Q (F0 m 12 ls []) := by
      intro z
      induction z with
      | zero =>
        intro i ls H locs cells slots hi hc1 hs1 hl hP hD hS
        refine lv_iload_n hx hb dL_isLine_12 rfl (lv_at hl 0 rfl) ?_
        refine lv_iload_n hx hb dL_isLine_13 rfl (lv_at hl 2 rfl) ?_
        refine lv_icmp_ge (tgt := 38) hx hb dL_isLine_14 (by decide) (fun _ => ?_) (fun h9 => absurd (nI_le (by omega) (by omega)) h9)
        refine lv_iconst (v := 1) hx hb dL_isLine_38 (by decide) ?_
        exact hend _ _ _ _ _ _ _ _ (sRet.i rfl dL_isLine_39) ⟨rfl, hP⟩ hS (by omega) (by omega)
      | succ z ih =>
        intro i ls H locs cells slots hi hc1 hs1 hl hP hD hS
        refine lv_iload_n hx hb dL_isLine_12 rfl (lv_at hl 0 rfl) ?_
        refine lv_iload_n hx hb dL_isLine_13 rfl (lv_at hl 2 rfl) ?_
        refine lv_icmp_ge (tgt := 38) hx hb dL_isLine_14 (by decide) (fun h9 => absurd h9 (nI_ge (by omega) (by omega))) (fun _ => ?_)
        refine lv_aload_n hx hb dL_isLine_17 rfl (lv_at hl 1 rfl) ?_
        refine lv_iload_n hx hb dL_isLine_18 rfl (lv_at hl 0 rfl) ?_
        refine pq_cXV S (c_X6_outputAt l g a T (nI i) hst _ T (ho i (by omega))) vv_L_131 hK hT hP hD hS hA rfl rfl rfl rfl rfl hl.1 (Nat.le_of_ble_eq_true rfl) dL_isLine_19 (by decide) (by decide) ⟨by omega, by omega⟩ (fun E ce q9 H1 l1 h9 => by cases h9) (fun v9 H1 locs hv hk hP hS => ?_)
        obtain rfl : v9 = some (.int (nI (t.getD i 0))) := (Sum.inr.inj hv).symm
        show W _ _ _ _ _ _ _ _ _ _ _ _ _ _ _ (F0 _ _ _ [.int (nI (t.getD i 0))])
        refine lv_aload_n hx hb dL_isLine_22 rfl (lv_at hl 3 rfl) ?_
        refine lv_iload_n hx hb dL_isLine_23 rfl (lv_at hl 0 rfl) ?_
        refine sV S (c_J0_charAt l g ad av t b v i (by omega) (by omega) (hc9 i (by omega))) vv_L_135 hK (hI.2.1.at hS (pq_Afree pq_D0 hS hA) (fun _ h => h)) pq_P0 pq_D0 hS hA (hX.recv hS) rfl rfl hl.1 (Nat.le_of_ble_eq_true rfl) dL_isLine_24 ⟨Nat.le_of_ble_eq_true rfl, Nat.le_of_ble_eq_true rfl⟩ ⟨by show _ ≤ 200; omega, by show _ ≤ 1200; omega⟩ (fun r H1 locs1 hr hz hk hS => ?_)
        subst hr
        replace hP := pq_kp0 hP hk
        show W _ _ _ _ _ _ _ _ _ _ _ _ _ _ _ (F0 _ _ _ [.int (nI (t.getD i 0)), .int (nI (t.getD i 0))])
        refine lv_icmp_eq (tgt := 32) hx hb dL_isLine_27 (by decide) (fun _ => ?_) (fun h9 => absurd rfl h9)
        refine lv_iinc (v := nI (i + 1)) (lv' := [(3, .int (nI (i + 1))), (0, .ref (a 0)), (1, .int (nI t.length)), (2, .ref b)]) hx hb dL_isLine_32 hl (k := 0) rfl (by rw [nI_succ]; rfl) (by decide) rfl (fun ls hl => ?_)
        refine lv_goto (tgt := 12) hx hb dL_isLine_35 (by decide) ?_
        exact ih (i + 1) ls _ _ _ _ (by omega) (by omega) (by omega) hl hP hD hS
  exact key t.length 0 ls _ _ _ _ (by omega) (Nat.le_refl _) (Nat.le_refl _) hl hP hD hS
