set_option maxHeartbeats 4000000 in
set_option maxRecDepth 100000 in
theorem c_J0_coder (l : Launch) (g : pq_g) (ad av : Nat → Nat) (t : List Nat) (b v : Nat) : sM l yJ0_coder_7d493 cJ0_coder_7d493 1 (some .byte) 1 0 0 g ad av [(t, b, v)] [] [.ref b] (fun r _ _ => r = some (.int 0)) := by
  refine sM.of (own := RJ0) (by decide) rfl (Nat.le_of_ble_eq_true rfl) rfl ?_
  intro p e s m below meth c ls Q A S hin hP hK hD hS hA hAw hI hl hend
  obtain ⟨hx, hb, hml, hown, hts⟩ := id S
  obtain ⟨h1, h2, h3, h4⟩ := hI.2.1 _ List.mem_cons_self
  refine s_gs S hI.1.2.2.1 hS fl_J0_38 dJ0_coder_7d493_0 ?_
  refine lv_if_eq (tgt := 13) hx hb dJ0_coder_7d493_3 (by decide) (fun h9 => absurd h9 (by decide)) (fun _ => ?_)
  refine lv_aload_n hx hb dJ0_coder_7d493_6 rfl (lv_at hl 0 rfl) ?_
  refine s_gf S h2 hS fl_J0_15 dJ0_coder_7d493_7 ?_
  refine lv_goto (tgt := 14) hx hb dJ0_coder_7d493_10 (by decide) ?_
  exact hend _ _ _ _ _ _ _ _ (sRet.i rfl dJ0_coder_7d493_14) rfl hS (Nat.le_refl _) (Nat.le_refl _)
set_option maxHeartbeats 4000000 in
set_option maxRecDepth 100000 in
theorem c_J0_isLatin1 (l : Launch) (g : pq_g) (ad av : Nat → Nat) (t : List Nat) (b v : Nat) : sM l yJ0_isLatin1_aae02 cJ0_isLatin1_aae02 1 (some .boolean) 1 0 0 g ad av [(t, b, v)] [] [.ref b] (fun r _ _ => r = some (.int 1)) := by
  refine sM.of (own := RJ0) (by decide) rfl (Nat.le_of_ble_eq_true rfl) rfl ?_
  intro p e s m below meth c ls Q A S hin hP hK hD hS hA hAw hI hl hend
  obtain ⟨hx, hb, hml, hown, hts⟩ := id S
  obtain ⟨h1, h2, h3, h4⟩ := hI.2.1 _ List.mem_cons_self
  refine s_gs S hI.1.2.2.1 hS fl_J0_38 dJ0_isLatin1_aae02_0 ?_
  refine lv_if_eq (tgt := 17) hx hb dJ0_isLatin1_aae02_3 (by decide) (fun h9 => absurd h9 (by decide)) (fun _ => ?_)
  refine lv_aload_n hx hb dJ0_isLatin1_aae02_6 rfl (lv_at hl 0 rfl) ?_
  refine s_gf S h2 hS fl_J0_15 dJ0_isLatin1_aae02_7 ?_
  refine lv_if_ne (tgt := 17) hx hb dJ0_isLatin1_aae02_10 (by decide) (fun h9 => absurd rfl h9) (fun _ => ?_)
  refine lv_iconst (v := 1) hx hb dJ0_isLatin1_aae02_13 (by decide) ?_
  refine lv_goto (tgt := 18) hx hb dJ0_isLatin1_aae02_14 (by decide) ?_
  exact hend _ _ _ _ _ _ _ _ (sRet.i rfl dJ0_isLatin1_aae02_18) rfl hS (Nat.le_refl _) (Nat.le_refl _)
set_option maxHeartbeats 4000000 in
set_option maxRecDepth 100000 in
theorem c_J0_length (l : Launch) (g : pq_g) (ad av : Nat → Nat) (t : List Nat) (b v : Nat) (hn : t.length < 2 ^ 31) : sM l yJ0_length_8abf5 cJ0_length_8abf5 1 (some .int) 2 0 0 g ad av [(t, b, v)] [] [.ref b] (fun r _ _ => r = some (.int (nI t.length))) := by
  refine sM.of (own := RJ0) (by decide) rfl (Nat.le_of_ble_eq_true rfl) rfl ?_
  intro p e s m below meth c ls Q A S hin hP hK hD hS hA hAw hI hl hend
  obtain ⟨hx, hb, hml, hown, hts⟩ := id S
  have hT := hI.2.1 _ List.mem_cons_self
  obtain ⟨h1, h2, h3, h4⟩ := id hT
  refine lv_aload_n hx hb dJ0_length_8abf5_0 rfl (lv_at hl 0 rfl) ?_
  refine s_gf S h3 hS fl_J0_9 dJ0_length_8abf5_1 ?_
  refine va_tlen (v := nI t.length) hx hb h4 hS rfl dJ0_length_8abf5_4 ?_
  refine lv_aload_n hx hb dJ0_length_8abf5_5 rfl (lv_at hl 0 rfl) ?_
  refine sV S (c_J0_coder l g ad av t b v) vv_J0_335 hK (hI.at hS (pq_Afree pq_D0 hS hA) (fun _ h => h)) pq_P0 pq_D0 hS hA (hT.recv hS) rfl rfl hl.1 (Nat.le_of_ble_eq_true rfl) dJ0_length_8abf5_6 ⟨Nat.le_of_ble_eq_true rfl, Nat.le_of_ble_eq_true rfl⟩ ⟨Nat.le_of_ble_eq_true rfl, Nat.le_of_ble_eq_true rfl⟩ (fun r H1 locs1 hr hz hk hS => ?_)
  subst hr
  show W _ _ _ _ _ _ _ _ _ _ _ _ _ _ _ (F0 _ _ _ [.int 0, .int (nI t.length)])
  refine lv_ishr hx hb dJ0_length_8abf5_9 ?_
  rw [sb_shr0]
  exact hend _ _ _ _ _ _ _ _ (sRet.i rfl dJ0_length_8abf5_10) rfl hS (Nat.le_refl _) (Nat.le_refl _)
set_option maxHeartbeats 4000000 in
set_option maxRecDepth 100000 in
theorem c_J3_checkIndex (l : Launch) (g : pq_g) (ad av : Nat → Nat) (TX : tx_L) (k n : Int32) (w : Value) (hw : w = .null ∨ ∃ q, w = .ref q) (h0 : ¬ k < 0) (h1 : k < n) : sM l yJ3_checkIndex_8e157 cJ3_checkIndex_8e157 3 (some .int) 1 0 0 g ad av TX [] [.int k, .int n, w] (fun r _ _ => r = some (.int k)) := by
  rcases hw with rfl | ⟨q, rfl⟩
  all_goals
    refine sM.of (own := RJ3) (by decide) rfl (Nat.le_of_ble_eq_true rfl) rfl ?_
    intro p e s m below meth c ls Q A S hin hP hK hD hS hA hAw hI hl hend
    obtain ⟨hx, hb, hml, hown, hts⟩ := id S
    refine lv_iload_n hx hb dJ3_checkIndex_8e157_0 rfl (lv_at hl 0 rfl) ?_
    refine lv_if_lt (tgt := 9) hx hb dJ3_checkIndex_8e157_1 (by decide) (fun h9 => absurd h9 h0) (fun _ => ?_)
    refine lv_iload_n hx hb dJ3_checkIndex_8e157_4 rfl (lv_at hl 0 rfl) ?_
    refine lv_iload_n hx hb dJ3_checkIndex_8e157_5 rfl (lv_at hl 1 rfl) ?_
    refine lv_icmp_lt (tgt := 16) hx hb dJ3_checkIndex_8e157_6 (by decide) (fun _ => ?_) (fun h9 => absurd h1 h9)
    refine lv_iload_n hx hb dJ3_checkIndex_8e157_16 rfl (lv_at hl 0 rfl) ?_
    exact hend _ _ _ _ _ _ _ _ (sRet.i rfl dJ3_checkIndex_8e157_17) rfl hS (Nat.le_refl _) (Nat.le_refl _)
set_option maxHeartbeats 4000000 in
set_option maxRecDepth 100000 in
theorem c_J0_checkIndex (l : Launch) (g : pq_g) (ad av : Nat → Nat) (TX : tx_L) (k n : Int32) (h0 : ¬ k < 0) (h1 : k < n) : sM l yJ0_checkIndex_df160 cJ0_checkIndex_df160 2 none 2 0 0 g ad av TX [] [.int k, .int n] (fun r _ _ => r = none) := by
  refine sM.of (own := RJ0) (by decide) rfl (Nat.le_of_ble_eq_true rfl) rfl ?_
  intro p e s m below meth c ls Q A S hin hP hK hD hS hA hAw hI hl hend
  obtain ⟨hx, hb, hml, hown, hts⟩ := id S
  refine lv_iload_n hx hb dJ0_checkIndex_df160_0 rfl (lv_at hl 0 rfl) ?_
  refine lv_iload_n hx hb dJ0_checkIndex_df160_1 rfl (lv_at hl 1 rfl) ?_
  rcases hI.1.2.2.2.1 with hz | ⟨q, hz⟩
  · refine s_gs S hz hS fl_J0_1053 dJ0_checkIndex_df160_2 ?_
    refine sS S (c_J3_checkIndex l g ad av TX k n .null (Or.inl rfl) h0 h1) vs_J0_1059 hK (hI.at hS (pq_Afree pq_D0 hS hA) (fun _ h => h)) pq_P0 pq_D0 hS hA rfl rfl hl.1 (Nat.le_of_ble_eq_true rfl) dJ0_checkIndex_df160_5 ⟨Nat.le_of_ble_eq_true rfl, Nat.le_of_ble_eq_true rfl⟩ ⟨Nat.le_of_ble_eq_true rfl, Nat.le_of_ble_eq_true rfl⟩ (fun r H1 locs1 hr hz hk hS => ?_)
    subst hr
    show W _ _ _ _ _ _ _ _ _ _ _ _ _ _ _ (F0 _ _ _ [.int k])
    refine lv_pop hx hb dJ0_checkIndex_df160_8 rfl ?_
    exact hend _ _ _ _ _ _ _ _ (sRet.v dJ0_checkIndex_df160_9) rfl hS (Nat.le_refl _) (Nat.le_refl _)
  · refine s_gs S hz hS fl_J0_1053 dJ0_checkIndex_df160_2 ?_
    refine sS S (c_J3_checkIndex l g ad av TX k n (.ref q) (Or.inr ⟨q, rfl⟩) h0 h1) vs_J0_1059 hK (hI.at hS (pq_Afree pq_D0 hS hA) (fun _ h => h)) pq_P0 pq_D0 hS hA rfl rfl hl.1 (Nat.le_of_ble_eq_true rfl) dJ0_checkIndex_df160_5 ⟨Nat.le_of_ble_eq_true rfl, Nat.le_of_ble_eq_true rfl⟩ ⟨Nat.le_of_ble_eq_true rfl, Nat.le_of_ble_eq_true rfl⟩ (fun r H1 locs1 hr hz hk hS => ?_)
    subst hr
    show W _ _ _ _ _ _ _ _ _ _ _ _ _ _ _ (F0 _ _ _ [.int k])
    refine lv_pop hx hb dJ0_checkIndex_df160_8 rfl ?_
    exact hend _ _ _ _ _ _ _ _ (sRet.v dJ0_checkIndex_df160_9) rfl hS (Nat.le_refl _) (Nat.le_refl _)
theorem tx_ch {x : Nat} (h : x < 128) : (((nI x &&& 255).toUInt32 % 65536).toInt32) = nI x ∧ narrow .char (.int (nI x)) = .int (nI x) := (show ∀ x, x < 128 → (((nI x &&& 255).toUInt32 % 65536).toInt32) = nI x ∧ narrow .char (.int (nI x)) = .int (nI x) by decide +kernel) x h
set_option maxHeartbeats 4000000 in
set_option maxRecDepth 100000 in
theorem c_J1_charAt (l : Launch) (g : pq_g) (ad av : Nat → Nat) (t : List Nat) (b v : Nat) (i : Nat) (hi : i < t.length) (hn : t.length < 2 ^ 31) (hc : t.getD i 0 < 128) : sM l yJ1_charAt_3b067 cJ1_charAt_3b067 2 (some .char) 3 0 0 g ad av [(t, b, v)] [] [.ref v, .int (nI i)] (fun r _ _ => r = some (.int (nI (t.getD i 0)))) := by
  refine sM.of (own := RJ1) (by decide) rfl (Nat.le_of_ble_eq_true rfl) rfl ?_
  intro p e s m below meth c ls Q A S hin hP hK hD hS hA hAw hI hl hend
  obtain ⟨hx, hb, hml, hown, hts⟩ := id S
  obtain ⟨h1, h2, h3, h4⟩ := hI.2.1 _ List.mem_cons_self
  refine lv_iload_n hx hb dJ1_charAt_3b067_0 rfl (lv_at hl 1 rfl) ?_
  refine lv_aload_n hx hb dJ1_charAt_3b067_1 rfl (lv_at hl 0 rfl) ?_
  refine va_tlen (v := nI t.length) hx hb h4 hS rfl dJ1_charAt_3b067_2 ?_
  refine sS S (c_J0_checkIndex l g ad av [(t, b, v)] (nI i) (nI t.length) (nI_pos (by omega)) (nI_lt hi hn)) vs_J1_9 hK (hI.at hS (pq_Afree pq_D0 hS hA) (fun _ h => h)) pq_P0 pq_D0 hS hA rfl rfl hl.1 (Nat.le_of_ble_eq_true rfl) dJ1_charAt_3b067_3 ⟨Nat.le_of_ble_eq_true rfl, Nat.le_of_ble_eq_true rfl⟩ ⟨Nat.le_of_ble_eq_true rfl, Nat.le_of_ble_eq_true rfl⟩ (fun r H1 locs1 hr hz hk hS => ?_)
  subst hr
  show W _ _ _ _ _ _ _ _ _ _ _ _ _ _ _ (F0 _ _ _ [])
  refine lv_aload_n hx hb dJ1_charAt_3b067_6 rfl (lv_at hl 0 rfl) ?_
  refine lv_iload_n hx hb dJ1_charAt_3b067_7 rfl (lv_at hl 1 rfl) ?_
  refine va_tb hx hb h4 hS (vp_in_nI hi hn) rfl dJ1_charAt_3b067_8 ?_
  rw [nI_clamp (n := i) (by omega)]
  refine lv_sipush (v := 255) hx hb dJ1_charAt_3b067_9 (by decide) ?_
  refine lv_iand hx hb dJ1_charAt_3b067_12 ?_
  refine lv_i2c (v := nI (t.getD i 0)) hx hb dJ1_charAt_3b067_13 (tx_ch hc).1 ?_
  exact hend _ _ _ _ _ _ _ _ (sRet.i (tx_ch hc).2 dJ1_charAt_3b067_14) rfl hS (Nat.le_refl _) (Nat.le_refl _)
set_option maxHeartbeats 4000000 in
set_option maxRecDepth 100000 in
theorem c_J0_charAt (l : Launch) (g : pq_g) (ad av : Nat → Nat) (t : List Nat) (b v : Nat) (i : Nat) (hi : i < t.length) (hn : t.length < 2 ^ 31) (hc : t.getD i 0 < 128) : sM l yJ0_charAt_5068e cJ0_charAt_5068e 2 (some .char) 4 0 0 g ad av [(t, b, v)] [] [.ref b, .int (nI i)] (fun r _ _ => r = some (.int (nI (t.getD i 0)))) := by
  refine sM.of (own := RJ0) (by decide) rfl (Nat.le_of_ble_eq_true rfl) rfl ?_
  intro p e s m below meth c ls Q A S hin hP hK hD hS hA hAw hI hl hend
  obtain ⟨hx, hb, hml, hown, hts⟩ := id S
  have hT := hI.2.1 _ List.mem_cons_self
  obtain ⟨h1, h2, h3, h4⟩ := id hT
  refine lv_aload_n hx hb dJ0_charAt_5068e_0 rfl (lv_at hl 0 rfl) ?_
  refine sV S (c_J0_isLatin1 l g ad av t b v) vv_J0_492 hK (hI.at hS (pq_Afree pq_D0 hS hA) (fun _ h => h)) pq_P0 pq_D0 hS hA (hT.recv hS) rfl rfl hl.1 (Nat.le_of_ble_eq_true rfl) dJ0_charAt_5068e_1 ⟨Nat.le_of_ble_eq_true rfl, Nat.le_of_ble_eq_true rfl⟩ ⟨Nat.le_of_ble_eq_true rfl, Nat.le_of_ble_eq_true rfl⟩ (fun r H1 locs1 hr hz hk hS => ?_)
  subst hr
  show W _ _ _ _ _ _ _ _ _ _ _ _ _ _ _ (F0 _ _ _ [.int 1])
  refine lv_if_eq (tgt := 16) hx hb dJ0_charAt_5068e_4 (by decide) (fun h9 => absurd h9 (by decide)) (fun _ => ?_)
  refine lv_aload_n hx hb dJ0_charAt_5068e_7 rfl (lv_at hl 0 rfl) ?_
  refine s_gf S h3 hS fl_J0_9 dJ0_charAt_5068e_8 ?_
  refine lv_iload_n hx hb dJ0_charAt_5068e_11 rfl (lv_at hl 1 rfl) ?_
  refine sS S (c_J1_charAt l g ad av t b v i hi hn hc) vs_J0_495 hK (hI.at hS (pq_Afree pq_D0 hS hA) (fun _ h => h)) pq_P0 pq_D0 hS hA rfl rfl hl.1 (Nat.le_of_ble_eq_true rfl) dJ0_charAt_5068e_12 ⟨Nat.le_of_ble_eq_true rfl, Nat.le_of_ble_eq_true rfl⟩ ⟨Nat.le_of_ble_eq_true rfl, Nat.le_of_ble_eq_true rfl⟩ (fun r H1 locs1 hr hz hk hS => ?_)
  subst hr
  show W _ _ _ _ _ _ _ _ _ _ _ _ _ _ _ (F0 _ _ _ [.int (nI (t.getD i 0))])
  exact hend _ _ _ _ _ _ _ _ (sRet.i (tx_ch hc).2 dJ0_charAt_5068e_15) rfl hS (Nat.le_refl _) (Nat.le_refl _)
