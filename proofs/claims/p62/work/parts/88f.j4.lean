theorem pz_m1 {a : Nat} (h : 1 ≤ a) : nI a + Int32.ofInt (-1) = nI (a - 1) := by
  obtain ⟨z, rfl⟩ : ∃ z, a = z + 1 := ⟨a - 1, by omega⟩
  rw [show Int32.ofInt (-1) = (-1 : Int32) from by decide, nI_m1, Nat.add_sub_cancel]
theorem pz_nb {c : Nat} (h : c < 128) : vp_nar .byte (nI c) = nI c := (show ∀ c, c < 128 → vp_nar .byte (nI c) = nI c by decide +kernel) c h
theorem pz_fb {c : Nat} (h : c < 128) : fits .byte (.int (nI c)) = true := (show ∀ c, c < 128 → fits .byte (.int (nI c)) = true by decide +kernel) c h
set_option maxHeartbeats 4000000 in
set_option maxRecDepth 100000 in
theorem c_J6_stringSize (l : Launch) (g : pq_g) (ad av : Nat → Nat) (TX : tx_L) (k : Nat) (hk : k < 100) : sM l yJ6_stringSize_0f7a4 cJ6_stringSize_0f7a4 4 (some .int) 1 0 0 g ad av TX [] [.int (nI k)] (fun r _ _ => r = some (.int (nI (decL k).length))) := by
  refine sM.of (own := RJ6) (by decide) rfl (Nat.le_of_ble_eq_true rfl) rfl ?_
  intro p e s mi below meth c ls Q A S hin hP hK hD hS hA hAw hI hl hend
  obtain ⟨hx, hb, hml, hown, hts⟩ := id S
  refine lv_iconst (v := 1) hx hb dJ6_stringSize_0f7a4_0 (by decide) ?_
  refine lv_istore_n (lv' := [(1, .int 1), (0, .int (nI k))]) hx hb dJ6_stringSize_0f7a4_1 rfl hl (by decide) rfl (fun ls hl => ?_)
  refine lv_iload_n hx hb dJ6_stringSize_0f7a4_2 rfl (lv_at hl 1 rfl) ?_
  refine lv_if_lt (tgt := 11) hx hb dJ6_stringSize_0f7a4_3 (by decide) (fun h9 => absurd h9 (nI_pos (by omega))) (fun _ => ?_)
  refine lv_iconst (v := 0) hx hb dJ6_stringSize_0f7a4_6 (by decide) ?_
  refine lv_istore_n (lv' := [(1, .int 0), (0, .int (nI k))]) hx hb dJ6_stringSize_0f7a4_7 rfl hl (by decide) rfl (fun ls hl => ?_)
  refine lv_iload_n hx hb dJ6_stringSize_0f7a4_8 rfl (lv_at hl 1 rfl) ?_
  refine lv_ineg hx hb dJ6_stringSize_0f7a4_9 ?_
  refine lv_istore_n (lv' := [(0, .int (-(nI k))), (1, .int 0)]) hx hb dJ6_stringSize_0f7a4_10 rfl hl (by decide) rfl (fun ls hl => ?_)
  refine lv_bipush (v := (-10)) hx hb dJ6_stringSize_0f7a4_11 (by decide) ?_
  refine lv_istore_n (lv' := [(2, .int (-10)), (0, .int (-(nI k))), (1, .int 0)]) hx hb dJ6_stringSize_0f7a4_13 rfl hl (by decide) rfl (fun ls hl => ?_)
  refine lv_iconst (v := 1) hx hb dJ6_stringSize_0f7a4_14 (by decide) ?_
  refine lv_istore_n (lv' := [(3, .int 1), (2, .int (-10)), (0, .int (-(nI k))), (1, .int 0)]) hx hb dJ6_stringSize_0f7a4_15 rfl hl (by decide) rfl (fun ls hl => ?_)
  refine lv_iload_n hx hb dJ6_stringSize_0f7a4_16 rfl (lv_at hl 0 rfl) ?_
  refine lv_bipush (v := 10) hx hb dJ6_stringSize_0f7a4_17 (by decide) ?_
  refine lv_icmp_ge (tgt := 42) hx hb dJ6_stringSize_0f7a4_19 (by decide) (fun h9 => absurd h9 (by decide)) (fun _ => ?_)
  refine lv_iload_n hx hb dJ6_stringSize_0f7a4_22 rfl (lv_at hl 2 rfl) ?_
  refine lv_iload_n hx hb dJ6_stringSize_0f7a4_23 rfl (lv_at hl 1 rfl) ?_
  by_cases h10 : k < 10
  · refine lv_icmp_le (tgt := 31) hx hb dJ6_stringSize_0f7a4_24 (by decide) (fun h9 => absurd ((sb_nle (a := k) (b := 10) (by omega) (by decide)).mp h9) (by omega)) (fun _ => ?_)
    refine lv_iload_n hx hb dJ6_stringSize_0f7a4_27 rfl (lv_at hl 0 rfl) ?_
    refine lv_iload_n hx hb dJ6_stringSize_0f7a4_28 rfl (lv_at hl 3 rfl) ?_
    refine lv_iadd hx hb dJ6_stringSize_0f7a4_29 ?_
    rw [decL_1 h10] at hend
    exact hend _ _ _ _ _ _ _ _ (sRet.i rfl dJ6_stringSize_0f7a4_30) rfl hS (Nat.le_refl _) (Nat.le_refl _)
  · refine lv_icmp_le (tgt := 31) hx hb dJ6_stringSize_0f7a4_24 (by decide) (fun _ => ?_) (fun h9 => absurd ((sb_nle (a := k) (b := 10) (by omega) (by decide)).mpr (by omega)) h9)
    refine lv_bipush (v := 10) hx hb dJ6_stringSize_0f7a4_31 (by decide) ?_
    refine lv_iload_n hx hb dJ6_stringSize_0f7a4_33 rfl (lv_at hl 1 rfl) ?_
    refine lv_imul hx hb dJ6_stringSize_0f7a4_34 ?_
    refine lv_istore_n (lv' := [(2, .int (-100)), (3, .int 1), (0, .int (-(nI k))), (1, .int 0)]) hx hb dJ6_stringSize_0f7a4_35 rfl hl (by decide) rfl (fun ls hl => ?_)
    refine lv_iinc (v := 2) (lv' := [(3, .int 2), (2, .int (-100)), (0, .int (-(nI k))), (1, .int 0)]) hx hb dJ6_stringSize_0f7a4_36 hl (k := 1) rfl rfl (by decide) rfl (fun ls hl => ?_)
    refine lv_goto (tgt := 16) hx hb dJ6_stringSize_0f7a4_39 (by decide) ?_
    refine lv_iload_n hx hb dJ6_stringSize_0f7a4_16 rfl (lv_at hl 0 rfl) ?_
    refine lv_bipush (v := 10) hx hb dJ6_stringSize_0f7a4_17 (by decide) ?_
    refine lv_icmp_ge (tgt := 42) hx hb dJ6_stringSize_0f7a4_19 (by decide) (fun h9 => absurd h9 (by decide)) (fun _ => ?_)
    refine lv_iload_n hx hb dJ6_stringSize_0f7a4_22 rfl (lv_at hl 2 rfl) ?_
    refine lv_iload_n hx hb dJ6_stringSize_0f7a4_23 rfl (lv_at hl 1 rfl) ?_
    refine lv_icmp_le (tgt := 31) hx hb dJ6_stringSize_0f7a4_24 (by decide) (fun h9 => absurd ((sb_nle (a := k) (b := 100) (by omega) (by decide)).mp h9) (by omega)) (fun _ => ?_)
    refine lv_iload_n hx hb dJ6_stringSize_0f7a4_27 rfl (lv_at hl 0 rfl) ?_
    refine lv_iload_n hx hb dJ6_stringSize_0f7a4_28 rfl (lv_at hl 3 rfl) ?_
    refine lv_iadd hx hb dJ6_stringSize_0f7a4_29 ?_
    rw [decL_2 h10] at hend
    exact hend _ _ _ _ _ _ _ _ (sRet.i rfl dJ6_stringSize_0f7a4_30) rfl hS (Nat.le_refl _) (Nat.le_refl _)
set_option maxHeartbeats 4000000 in
set_option maxRecDepth 100000 in
theorem c_J6_getChars (l : Launch) (g : pq_g) (ad av : Nat → Nat) (w m : Nat) (f : Nat → Int32) (TX : tx_L) (k q : Nat) (hk : k < 100) (hq : q + (decL k).length ≤ m) (hm : m ≤ 1002) (hf : sb_Fit f) : sM l yJ6_getChars_ba4f3 cJ6_getChars_ba4f3 7 (some .int) 1 0 0 g ad av TX [(w, .inl (g.2 1, m, .inl f))] [.int (nI k), .int (nI (q + (decL k).length)), .ref w] (fun r _ H => r = some (.int (nI q)) ∧ ∃ f' : Nat → Int32, va_P g.1 pq_cl [(w, .inl (g.2 1, m, .inl f'))] H ∧ sb_Fit f' ∧ (∀ j, j < q → f' j = f j) ∧ ∀ j, j < (decL k).length → f' (q + j) = nI ((decL k).getD j 0)) := by
  obtain ⟨P9, hP9⟩ : ∃ P9, q + (decL k).length = P9 := ⟨_, rfl⟩
  rw [hP9] at hq ⊢
  refine sM.of (own := RJ6) (by decide) rfl (Nat.le_of_ble_eq_true rfl) rfl ?_
  intro p e s mi below meth c ls Q A S hin hP hK hD hS hA hAw hI hl hend
  obtain ⟨hx, hb, hml, hown, hts⟩ := id S
  have hdl := decL_len k
  refine lv_iload_n hx hb dJ6_getChars_ba4f3_0 rfl (lv_at hl 1 rfl) ?_
  refine lv_istore (lv' := [(5, .int (nI P9)), (0, .int (nI k)), (1, .int (nI P9)), (2, .ref w)]) hx hb dJ6_getChars_ba4f3_1 hl (by decide) rfl (fun ls hl => ?_)
  refine lv_iload_n hx hb dJ6_getChars_ba4f3_3 rfl (lv_at hl 1 rfl) ?_
  refine lv_if_ge (tgt := 11) hx hb dJ6_getChars_ba4f3_4 (by decide) (fun _ => ?_) (fun h9 => absurd (nI_pos' (by omega)) h9)
  refine lv_iconst (v := 0) hx hb dJ6_getChars_ba4f3_11 (by decide) ?_
  refine lv_istore (lv' := [(6, .int 0), (5, .int (nI P9)), (0, .int (nI k)), (1, .int (nI P9)), (2, .ref w)]) hx hb dJ6_getChars_ba4f3_12 hl (by decide) rfl (fun ls hl => ?_)
  refine lv_iload hx hb dJ6_getChars_ba4f3_14 (lv_at hl 0 rfl) ?_
  refine lv_if_ne (tgt := 22) hx hb dJ6_getChars_ba4f3_16 (by decide) (fun h9 => absurd rfl h9) (fun _ => ?_)
  refine lv_iload_n hx hb dJ6_getChars_ba4f3_19 rfl (lv_at hl 2 rfl) ?_
  refine lv_ineg hx hb dJ6_getChars_ba4f3_20 ?_
  refine lv_istore_n (lv' := [(0, .int (-(nI k))), (6, .int 0), (5, .int (nI P9)), (1, .int (nI P9)), (2, .ref w)]) hx hb dJ6_getChars_ba4f3_21 rfl hl (by decide) rfl (fun ls hl => ?_)
  refine lv_iload_n hx hb dJ6_getChars_ba4f3_22 rfl (lv_at hl 0 rfl) ?_
  refine lv_bipush (v := (-100)) hx hb dJ6_getChars_ba4f3_23 (by decide) ?_
  refine lv_icmp_gt (tgt := 72) hx hb dJ6_getChars_ba4f3_25 (by decide) (fun _ => ?_) (fun h9 => absurd ((sb_nlt (a := 100) (b := k) (by decide) (by omega)).mpr (by omega)) h9)
  refine lv_aload_n hx hb dJ6_getChars_ba4f3_72 rfl (lv_at hl 4 rfl) ?_
  refine lv_iinc (v := nI (P9 - 1)) (lv' := [(5, .int (nI (P9 - 1))), (0, .int (-(nI k))), (6, .int 0), (1, .int (nI P9)), (2, .ref w)]) hx hb dJ6_getChars_ba4f3_73 hl (k := 2) rfl (pz_m1 (by omega)) (by decide) rfl (fun ls hl => ?_)
  refine lv_iload hx hb dJ6_getChars_ba4f3_76 (lv_at hl 0 rfl) ?_
  refine s_gs S hI.1.2.2.2.2.2.1 hS fl_J6_83 dJ6_getChars_ba4f3_78 ?_
  refine lv_iload_n hx hb dJ6_getChars_ba4f3_81 rfl (lv_at hl 1 rfl) ?_
  refine lv_ineg hx hb dJ6_getChars_ba4f3_82 ?_
  rw [Int32.neg_neg]
  refine va_tb (v := .int (nI (48 + k % 10))) hx hb hI.1.2.2.2.2.2.2.1 hS (vp_in_nI hk (by decide)) (by rw [nI_clamp (by omega)]; rfl) dJ6_getChars_ba4f3_83 ?_
  refine va_bast hx hb hK.1 hP hD hS 0 1 rfl rfl (vp_in_nI (by omega) (by omega)) dJ6_getChars_ba4f3_84 (fun H1 locs1 hP hD hS => ?_)
  rw [nI_clamp (n := P9 - 1) (by omega), pz_nb (by omega)] at hP hD
  refine lv_iload_n hx hb dJ6_getChars_ba4f3_85 rfl (lv_at hl 1 rfl) ?_
  refine lv_bipush (v := (-9)) hx hb dJ6_getChars_ba4f3_86 (by decide) ?_
  by_cases h10 : k < 10
  · refine lv_icmp_ge (tgt := 104) hx hb dJ6_getChars_ba4f3_88 (by decide) (fun _ => ?_) (fun h9 => absurd ((sb_nle (a := 9) (b := k) (by decide) (by omega)).mpr (by omega)) h9)
    refine lv_iload hx hb dJ6_getChars_ba4f3_104 (lv_at hl 2 rfl) ?_
    refine lv_if_eq (tgt := 118) hx hb dJ6_getChars_ba4f3_106 (by decide) (fun _ => ?_) (fun h9 => absurd rfl h9)
    refine lv_iload hx hb dJ6_getChars_ba4f3_118 (lv_at hl 0 rfl) ?_
    rw [decL_1 h10] at hP9 hend
    have e9 : P9 - 1 = q := by rw [← hP9]; rfl
    rw [e9] at hP hD ⊢
    exact hend _ _ _ _ _ _ _ _ (sRet.i rfl dJ6_getChars_ba4f3_120) ⟨rfl, _, hP, sb_fitU hf (pz_fb (by omega)), fun j hj => pk_un (by omega), fun j hj => by obtain rfl : j = 0 := Nat.lt_one_iff.mp hj; rw [Nat.add_zero, pk_us, show k % 10 = k by omega]; rfl⟩ hS (Nat.le_of_ble_eq_true rfl) (Nat.le_of_ble_eq_true rfl)
  · refine lv_icmp_ge (tgt := 104) hx hb dJ6_getChars_ba4f3_88 (by decide) (fun h9 => absurd ((sb_nle (a := 9) (b := k) (by decide) (by omega)).mp h9) (by omega)) (fun _ => ?_)
    refine lv_aload_n hx hb dJ6_getChars_ba4f3_91 rfl (lv_at hl 4 rfl) ?_
    rw [decL_2 h10] at hP9 hend
    have e9 : P9 - 1 = q + 1 := by rw [← hP9]; rfl
    rw [e9] at hP hD hl
    refine lv_iinc (v := nI q) (lv' := [(5, .int (nI q)), (0, .int (-(nI k))), (6, .int 0), (1, .int (nI P9)), (2, .ref w)]) hx hb dJ6_getChars_ba4f3_92 hl (k := 0) rfl (pz_m1 (a := q + 1) (by omega)) (by decide) rfl (fun ls hl => ?_)
    refine lv_iload hx hb dJ6_getChars_ba4f3_95 (lv_at hl 0 rfl) ?_
    refine s_gs S hI.1.2.2.2.2.1.1 hS fl_J6_87 dJ6_getChars_ba4f3_97 ?_
    refine lv_iload_n hx hb dJ6_getChars_ba4f3_100 rfl (lv_at hl 1 rfl) ?_
    refine lv_ineg hx hb dJ6_getChars_ba4f3_101 ?_
    rw [Int32.neg_neg]
    refine va_tb (v := .int (nI (48 + k / 10))) hx hb hI.1.2.2.2.2.1.2 hS (vp_in_nI hk (by decide)) (by rw [nI_clamp (by omega)]; rfl) dJ6_getChars_ba4f3_102 ?_
    refine va_bast hx hb hK.1 hP hD hS 0 1 rfl rfl (vp_in_nI (by omega) (by omega)) dJ6_getChars_ba4f3_103 (fun H1 locs1 hP hD hS => ?_)
    rw [nI_clamp (n := q) (by omega), pz_nb (by omega)] at hP hD
    refine lv_iload hx hb dJ6_getChars_ba4f3_104 (lv_at hl 2 rfl) ?_
    refine lv_if_eq (tgt := 118) hx hb dJ6_getChars_ba4f3_106 (by decide) (fun _ => ?_) (fun h9 => absurd rfl h9)
    refine lv_iload hx hb dJ6_getChars_ba4f3_118 (lv_at hl 0 rfl) ?_
    exact hend _ _ _ _ _ _ _ _ (sRet.i rfl dJ6_getChars_ba4f3_120) ⟨rfl, _, hP, sb_fitU (sb_fitU hf (pz_fb (by omega))) (pz_fb (by omega)), fun j hj => by rw [pk_un (by omega), pk_un (by omega)], fun j hj => by
      match j, hj with
      | 0, _ => exact pk_us
      | 1, _ => rw [pk_un (by omega), pk_us]; rfl⟩ hS (Nat.le_of_ble_eq_true rfl) (Nat.le_of_ble_eq_true rfl)
set_option maxHeartbeats 4000000 in
set_option maxRecDepth 100000 in
theorem c_J5_appendI (l : Launch) (g : pq_g) (ad av : Nat → Nat) (b w m : Nat) (f : Nat → Int32) (x : List Nat) (TX : tx_L) (k : Nat) (hxm : x.length ≤ m) (hm : m ≤ 1002) (hlen : (x ++ decL k).length ≤ 500) (hf : sb_Fit f) (hx9 : sb_T x f) (hk9 : k < 100) : sM l yJ5_append_c97b9 cJ5_append_c97b9 4 (some (.object "java/lang/AbstractStringBuilder")) 5 1 2000 g ad av TX (sbW g b w m (nI x.length) f) [.ref b, .int (nI k)] (fun r sz H => ∃ (w' m' : Nat) (f' : Nat → Int32), r = some (.ref b) ∧ va_P g.1 pq_cl (sbW g b w' m' (nI (x ++ decL k).length) f') H ∧ (w' = w ∨ sz ≤ w') ∧ (x ++ decL k).length ≤ m' ∧ m' ≤ 1002 ∧ sb_Fit f' ∧ sb_T (x ++ decL k) f') := by
  refine sM.of (own := RJ5) (by decide) rfl (Nat.le_of_ble_eq_true rfl) rfl ?_
  intro p e s mi below meth c ls Q A S hin hP hK hD hS hA hAw hI hl hend
  obtain ⟨hx, hb, hml, hown, hts⟩ := id S
  have hlen9 := hlen
  rw [List.length_append] at hlen9
  refine lv_aload_n hx hb dJ5_append_c97b9_0 rfl (lv_at hl 0 rfl) ?_
  refine sb_get S hK hP 0 rfl 3 (by decide) fl_J5_79 rfl (v := .int (nI x.length)) rfl dJ5_append_c97b9_1 ?_
  refine lv_istore_n (lv' := [(2, .int (nI x.length)), (0, .ref b), (1, .int (nI k))]) hx hb dJ5_append_c97b9_4 rfl hl (by decide) rfl (fun ls hl => ?_)
  refine lv_iload_n hx hb dJ5_append_c97b9_5 rfl (lv_at hl 0 rfl) ?_
  refine lv_iload_n hx hb dJ5_append_c97b9_6 rfl (lv_at hl 2 rfl) ?_
  refine sS S (c_J6_stringSize l g ad av TX k hk9) vs_J5_245 hK (hI.at hS (pq_Afree pq_D0 hS hA) (fun _ h => h)) pq_P0 pq_D0 hS hA rfl rfl hl.1 (Nat.le_of_ble_eq_true rfl) dJ5_append_c97b9_7 ⟨Nat.le_of_ble_eq_true rfl, Nat.le_of_ble_eq_true rfl⟩ ⟨Nat.le_of_ble_eq_true rfl, Nat.le_of_ble_eq_true rfl⟩ (fun r H1 locs1 hr hz hk hS => ?_)
  subst hr
  replace hP := pq_kp0 hP hk
  show W _ _ _ _ _ _ _ _ _ _ _ _ _ _ _ (F0 _ _ _ [.int (nI (decL k).length), .int (nI x.length)])
  refine lv_iadd hx hb dJ5_append_c97b9_10 ?_
  rw [nI_add]
  refine lv_istore_n (lv' := [(3, .int (nI (x.length + (decL k).length))), (2, .int (nI x.length)), (0, .ref b), (1, .int (nI k))]) hx hb dJ5_append_c97b9_11 rfl hl (by decide) rfl (fun ls hl => ?_)
  refine lv_aload_n hx hb dJ5_append_c97b9_12 rfl (lv_at hl 2 rfl) ?_
  refine lv_iload_n hx hb dJ5_append_c97b9_13 rfl (lv_at hl 0 rfl) ?_
  have hS8 := hS
  refine sP S (c_J5_ensure l g ad av b w m x.length f TX (x.length + (decL k).length) hm (by omega) hf) vp_J5_100 (hI.pm List.mem_cons_self) hK (hI.at hS (pq_Afree hD hS hA) (fun _ h => h)) hP hD hS hA (va_recv hK.1 hP (ci := 8) rfl (q0 := 0) rfl) rfl rfl hl.1 (Nat.le_of_ble_eq_true rfl) dJ5_append_c97b9_14 ⟨Nat.le_of_ble_eq_true rfl, Nat.le_of_ble_eq_true rfl⟩ ⟨Nat.le_of_ble_eq_true rfl, Nat.le_of_ble_eq_true rfl⟩ (fun r H2 locs2 hr hz2 hk2 hS => ?_)
  obtain ⟨rfl, w', m', f', hP2, hw, hq1, hq2, hq3, hf', hff⟩ := hr
  show W _ _ _ _ _ _ _ _ _ _ _ _ _ _ _ (F0 _ _ _ [])
  have hD2 : va_D A (sbW g b w' m' (nI x.length) f') := pz_Dsb hP hD hS8 hA hw
  replace hP := hP2
  replace hD := hD2
  clear hP2 hD2
  refine lv_aload_n hx hb dJ5_append_c97b9_17 rfl (lv_at hl 2 rfl) ?_
  refine sV S (c_J5_isLatin1 l g ad av b w' m' x.length f' TX) vv_J5_83 hK (hI.at hS (pq_Afree hD hS hA) (fun _ h => h)) hP hD hS hA (va_recv hK.1 hP (ci := 8) rfl (q0 := 0) rfl) rfl rfl hl.1 (Nat.le_of_ble_eq_true rfl) dJ5_append_c97b9_18 ⟨Nat.le_of_ble_eq_true rfl, Nat.le_of_ble_eq_true rfl⟩ ⟨Nat.le_of_ble_eq_true rfl, Nat.le_of_ble_eq_true rfl⟩ (fun r H3 locs3 hr hz3 hk3 hS => ?_)
  obtain ⟨rfl, hP⟩ := hr
  show W _ _ _ _ _ _ _ _ _ _ _ _ _ _ _ (F0 _ _ _ [.int 1])
  refine lv_if_eq (tgt := 37) hx hb dJ5_append_c97b9_21 (by decide) (fun h9 => absurd h9 (by decide)) (fun _ => ?_)
  refine lv_iload_n hx hb dJ5_append_c97b9_24 rfl (lv_at hl 3 rfl) ?_
  refine lv_iload_n hx hb dJ5_append_c97b9_25 rfl (lv_at hl 0 rfl) ?_
  refine lv_aload_n hx hb dJ5_append_c97b9_26 rfl (lv_at hl 2 rfl) ?_
  refine sb_get S hK hP 0 rfl 0 (by decide) fl_J5_15 rfl (v := .ref w') rfl dJ5_append_c97b9_27 ?_
  refine sS S (c_J6_getChars l g ad av w' m' f' TX k x.length hk9 hq1 hq3 hf') vs_J5_248 hK (hI.at hS (pq_Afree (pq_D2 hD) hS hA) (fun _ h => h)) (pq_P2 hP) (pq_D2 hD) hS hA rfl rfl hl.1 (Nat.le_of_ble_eq_true rfl) dJ5_append_c97b9_30 ⟨Nat.le_of_ble_eq_true rfl, Nat.le_of_ble_eq_true rfl⟩ ⟨Nat.le_of_ble_eq_true rfl, Nat.le_of_ble_eq_true rfl⟩ (fun r H4 locs4 hr hz4 hk4 hS => ?_)
  obtain ⟨rfl, f2, hP3, hf2, g1, g2⟩ := hr
  show W _ _ _ _ _ _ _ _ _ _ _ _ _ _ _ (F0 _ _ _ [.int (nI x.length)])
  replace hP : va_P g.1 pq_cl (sbW g b w' m' (nI x.length) f2) _ := va_P.app (pq_kp (pq_P1 hP) (pq_Dx hD) hk4) hP3
  replace hD : va_D A (sbW g b w' m' (nI x.length) f2) := pq_adr hD rfl
  clear hP3
  refine lv_pop hx hb dJ5_append_c97b9_33 rfl ?_
  refine lv_goto (tgt := 48) hx hb dJ5_append_c97b9_34 (by decide) ?_
  refine lv_aload_n hx hb dJ5_append_c97b9_48 rfl (lv_at hl 2 rfl) ?_
  refine lv_iload_n hx hb dJ5_append_c97b9_49 rfl (lv_at hl 0 rfl) ?_
  refine sb_putf S hK hP hD hS 0 rfl 3 (by decide) fl_J5_79 rfl (ty := .int) rfl rfl rfl (Nat.le_of_ble_eq_true rfl) rfl dJ5_append_c97b9_50 (fun H5 locs5 hP5 hS => ?_)
  refine lv_aload_n hx hb dJ5_append_c97b9_53 rfl (lv_at hl 2 rfl) ?_
  have hw9 : w' = w ∨ s.heap.size ≤ w' := hw.imp id (fun h => Nat.le_trans hS8.1 h)
  exact hend _ _ _ _ _ _ _ _ (sRet.o dJ5_append_c97b9_54) ⟨w', m', f2, rfl, by rw [List.length_append]; exact hP5, hw9, by rw [List.length_append]; exact hq1, hq3, hf2, hx9.cat hxm hff g1 g2⟩ hS (Nat.le_of_ble_eq_true rfl) (Nat.le_of_ble_eq_true rfl)
set_option maxHeartbeats 4000000 in
set_option maxRecDepth 100000 in
theorem c_J4_appendI (l : Launch) (g : pq_g) (ad av : Nat → Nat) (b w m : Nat) (f : Nat → Int32) (x : List Nat) (TX : tx_L) (k : Nat) (hxm : x.length ≤ m) (hm : m ≤ 1002) (hlen : (x ++ decL k).length ≤ 500) (hf : sb_Fit f) (hx9 : sb_T x f) (hk9 : k < 100) : sM l yJ4_append_bf812 cJ4_append_bf812 2 (some (.object "java/lang/StringBuilder")) 6 1 2000 g ad av TX (sbW g b w m (nI x.length) f) [.ref b, .int (nI k)] (fun r sz H => ∃ (w' m' : Nat) (f' : Nat → Int32), r = some (.ref b) ∧ va_P g.1 pq_cl (sbW g b w' m' (nI (x ++ decL k).length) f') H ∧ (w' = w ∨ sz ≤ w') ∧ (x ++ decL k).length ≤ m' ∧ m' ≤ 1002 ∧ sb_Fit f' ∧ sb_T (x ++ decL k) f') := by
  refine sM.of (own := RJ4) (by decide) rfl (Nat.le_of_ble_eq_true rfl) rfl ?_
  intro p e s mi below meth c ls Q A S hin hP hK hD hS hA hAw hI hl hend
  obtain ⟨hx, hb, hml, hown, hts⟩ := id S
  refine lv_aload_n hx hb dJ4_append_bf812_0 rfl (lv_at hl 0 rfl) ?_
  refine lv_iload_n hx hb dJ4_append_bf812_1 rfl (lv_at hl 1 rfl) ?_
  refine sU S (hK.1.1 8 _ rfl).2 (c_J5_appendI l g ad av b w m f x TX k hxm hm hlen hf hx9 hk9) vu_J4_53 hK (hI.at hS (pq_Afree hD hS hA) (fun _ h => h)) hP hD hS hA (va_recv hK.1 hP (ci := 8) rfl (q0 := 0) rfl) rfl rfl hl.1 (Nat.le_of_ble_eq_true rfl) dJ4_append_bf812_2 ⟨Nat.le_of_ble_eq_true rfl, Nat.le_of_ble_eq_true rfl⟩ ⟨Nat.le_of_ble_eq_true rfl, Nat.le_of_ble_eq_true rfl⟩ (fun r H1 locs1 hr hz hk hS => ?_)
  obtain ⟨w', m', f', rfl, h2, h3, h4, h5, h6, h7⟩ := hr
  show W _ _ _ _ _ _ _ _ _ _ _ _ _ _ _ (F0 _ _ _ [.ref b])
  refine lv_pop hx hb dJ4_append_bf812_5 rfl ?_
  refine lv_aload_n hx hb dJ4_append_bf812_6 rfl (lv_at hl 0 rfl) ?_
  exact hend _ _ _ _ _ _ _ _ (sRet.o dJ4_append_bf812_7) ⟨w', m', f', rfl, h2, h3, h4, h5, h6, h7⟩ hS (Nat.le_of_ble_eq_true rfl) (Nat.le_of_ble_eq_true rfl)
set_option maxHeartbeats 4000000 in
set_option maxRecDepth 100000 in
theorem c_J5_init (l : Launch) (g : pq_g) (ad av : Nat → Nat) (b : Nat) (TX : tx_L) : sM l yJ5_init_d00df cJ5_init_d00df 2 none 2 1 16 g ad av TX [(b, (.inr (8, [.null, .int 0, .int 0, .int 0]) : va_E))] [.ref b, .int 16] (fun r sz H => r = none ∧ ∃ (w : Nat) (f : Nat → Int32), va_P g.1 pq_cl (sbW g b w 16 (nI 0) f) H ∧ sz ≤ w ∧ sb_Fit f) := by
  refine sM.of (own := RJ5) (by decide) rfl (Nat.le_of_ble_eq_true rfl) rfl ?_
  intro p e s mi below meth c ls Q A S hin hP hK hD hS hA hAw hI hl hend
  obtain ⟨hx, hb, hml, hown, hts⟩ := id S
  refine lv_aload_n hx hb dJ5_init_d00df_0 rfl (lv_at hl 0 rfl) ?_
  refine pq_obj S vo_J5 vo_m vo_c hl.1 dJ5_init_d00df_1 (by decide) ?_
  refine s_gs S hI.1.2.2.1 hS fl_J5_18 dJ5_init_d00df_4 ?_
  refine lv_if_eq (tgt := 25) hx hb dJ5_init_d00df_7 (by decide) (fun h9 => absurd h9 (by decide)) (fun _ => ?_)
  refine lv_aload_n hx hb dJ5_init_d00df_10 rfl (lv_at hl 0 rfl) ?_
  refine lv_iload_n hx hb dJ5_init_d00df_11 rfl (lv_at hl 1 rfl) ?_
  refine pq_newa S 1 (atype := .byte) vo_abyte (ty := .byte) rfl hK hP hD hS hA (cA := g.2 1) rfl (N' := 16) (a0 := (16, .inl (fun _ => 0))) (fun _ => rfl) (by decide) (by decide) (Nat.le_of_ble_eq_true rfl) (Nat.le_of_ble_eq_true rfl) (Nat.le_of_ble_eq_true rfl) dJ5_init_d00df_12 (fun z H1 hP hD hS => ?_)
  have hz9 : s.heap.size ≤ z := pz_new (fun q h => hAw q h) hD
  refine sb_putf S hK hP hD hS 0 rfl 0 (by decide) fl_J5_15 rfl (ty := .array .byte) rfl rfl rfl (Nat.le_of_ble_eq_true rfl) rfl dJ5_init_d00df_14 (fun H1 locs1 hP hS => ?_)
  replace hP : va_P g.1 pq_cl (sbW g b z 16 0 (fun _ => 0)) H1 := hP
  replace hD : va_D A (sbW g b z 16 0 (fun _ => 0)) := pq_adr hD rfl
  refine lv_aload_n hx hb dJ5_init_d00df_17 rfl (lv_at hl 0 rfl) ?_
  refine lv_iconst (v := 0) hx hb dJ5_init_d00df_18 (by decide) ?_
  refine sb_putf S hK hP hD hS 0 rfl 1 (by decide) fl_J5_22 rfl (ty := .byte) rfl rfl rfl (Nat.le_of_ble_eq_true rfl) rfl dJ5_init_d00df_19 (fun H1 locs1 hP hS => ?_)
  refine lv_goto (tgt := 38) hx hb dJ5_init_d00df_22 (by decide) ?_
  exact hend _ _ _ _ _ _ _ _ (sRet.v dJ5_init_d00df_38) ⟨rfl, z, _, hP, hz9, sb_fit0⟩ hS (Nat.le_of_ble_eq_true rfl) (Nat.le_of_ble_eq_true rfl)
set_option maxHeartbeats 4000000 in
set_option maxRecDepth 100000 in
theorem c_J4_init (l : Launch) (g : pq_g) (ad av : Nat → Nat) (b : Nat) (TX : tx_L) : sM l yJ4_init_da8c8 cJ4_init_da8c8 1 none 3 1 16 g ad av TX [(b, (.inr (8, [.null, .int 0, .int 0, .int 0]) : va_E))] [.ref b] (fun r sz H => r = none ∧ ∃ (w : Nat) (f : Nat → Int32), va_P g.1 pq_cl (sbW g b w 16 (nI 0) f) H ∧ sz ≤ w ∧ sb_Fit f) := by
  refine sM.of (own := RJ4) (by decide) rfl (Nat.le_of_ble_eq_true rfl) rfl ?_
  intro p e s mi below meth c ls Q A S hin hP hK hD hS hA hAw hI hl hend
  obtain ⟨hx, hb, hml, hown, hts⟩ := id S
  refine lv_aload_n hx hb dJ4_init_da8c8_0 rfl (lv_at hl 0 rfl) ?_
  refine lv_bipush (v := 16) hx hb dJ4_init_da8c8_1 (by decide) ?_
  refine sN S (c_J5_init l g ad av b TX) vi_J4_1 hK (hI.at hS (pq_Afree hD hS hA) (fun _ h => h)) hP hD hS hA rfl rfl hl.1 (Nat.le_of_ble_eq_true rfl) dJ4_init_da8c8_3 ⟨Nat.le_of_ble_eq_true rfl, Nat.le_of_ble_eq_true rfl⟩ ⟨Nat.le_of_ble_eq_true rfl, Nat.le_of_ble_eq_true rfl⟩ (fun r H1 locs1 hr hz hk hS => ?_)
  obtain ⟨rfl, w, f, h1, h2, h3⟩ := hr
  show W _ _ _ _ _ _ _ _ _ _ _ _ _ _ _ (F0 _ _ _ [])
  exact hend _ _ _ _ _ _ _ _ (sRet.v dJ4_init_da8c8_6) ⟨rfl, w, f, h1, h2, h3⟩ hS (Nat.le_of_ble_eq_true rfl) (Nat.le_of_ble_eq_true rfl)
set_option maxHeartbeats 4000000 in
set_option maxRecDepth 100000 in
theorem c_J7_checkLength (l : Launch) (g : pq_g) (ad av : Nat → Nat) (TX : tx_L) (n : Nat) (hn : n ≤ 1002) : sM l yJ7_checkLength_df160 cJ7_checkLength_df160 2 none 1 0 0 g ad av TX [] [.int 0, .int (nI n)] (fun r _ _ => r = none) := by
  refine sM.of (own := RJ7) (by decide) rfl (Nat.le_of_ble_eq_true rfl) rfl ?_
  intro p e s mi below meth c ls Q A S hin hP hK hD hS hA hAw hI hl hend
  obtain ⟨hx, hb, hml, hown, hts⟩ := id S
  refine lv_iload_n hx hb dJ7_checkLength_df160_0 rfl (lv_at hl 1 rfl) ?_
  refine lv_iload_n hx hb dJ7_checkLength_df160_1 rfl (lv_at hl 0 rfl) ?_
  refine lv_icmp_ge (tgt := 37) hx hb dJ7_checkLength_df160_2 (by decide) (fun _ => ?_) (fun h9 => absurd (nI_pos' (by omega)) h9)
  exact hend _ _ _ _ _ _ _ _ (sRet.v dJ7_checkLength_df160_37) rfl hS (Nat.le_refl _) (Nat.le_refl _)
set_option maxHeartbeats 4000000 in
set_option maxRecDepth 100000 in
theorem c_J7_copyOfRangeByte (l : Launch) (g : pq_g) (ad av : Nat → Nat) (w m : Nat) (f : Nat → Int32) (TX : tx_L) (n : Nat) (hn : n ≤ m) (hm : m ≤ 1002) (hf : sb_Fit f) : sM l yJ7_copyOfRangeByte_39247 cJ7_copyOfRangeByte_39247 5 (some (.array .byte)) 2 1 2000 g ad av TX [(w, .inl (g.2 1, m, .inl f))] [.ref w, .int 0, .int (nI n)] (fun r sz H => ∃ (z : Nat) (f' : Nat → Int32), r = some (.ref z) ∧ sz ≤ z ∧ va_P g.1 pq_cl ([(w, .inl (g.2 1, m, .inl f))] ++ [(z, .inl (g.2 1, n, .inl f'))]) H ∧ ∀ j, j < n → f' j = f j) := by
  refine sM.of (own := RJ7) (by decide) rfl (Nat.le_of_ble_eq_true rfl) rfl ?_
  intro p e s mi below meth c ls Q A S hin hP hK hD hS hA hAw hI hl hend
  obtain ⟨hx, hb, hml, hown, hts⟩ := id S
  refine lv_iload_n hx hb dJ7_copyOfRangeByte_39247_0 rfl (lv_at hl 1 rfl) ?_
  refine lv_iload_n hx hb dJ7_copyOfRangeByte_39247_1 rfl (lv_at hl 2 rfl) ?_
  refine sS S (c_J7_checkLength l g ad av TX n (by omega)) vs_J7_343 hK (hI.at hS (pq_Afree pq_D0 hS hA) (fun _ h => h)) pq_P0 pq_D0 hS hA rfl rfl hl.1 (Nat.le_of_ble_eq_true rfl) dJ7_copyOfRangeByte_39247_2 ⟨Nat.le_of_ble_eq_true rfl, Nat.le_of_ble_eq_true rfl⟩ ⟨Nat.le_of_ble_eq_true rfl, Nat.le_of_ble_eq_true rfl⟩ (fun r H1 locs1 hr hz hk hS => ?_)
  subst hr
  replace hP := pq_kp0 hP hk
  show W _ _ _ _ _ _ _ _ _ _ _ _ _ _ _ (F0 _ _ _ [])
  refine lv_iload_n hx hb dJ7_copyOfRangeByte_39247_5 rfl (lv_at hl 2 rfl) ?_
  refine lv_iload_n hx hb dJ7_copyOfRangeByte_39247_6 rfl (lv_at hl 1 rfl) ?_
  refine lv_isub hx hb dJ7_copyOfRangeByte_39247_7 ?_
  rw [show nI n - 0 = nI n from Int32.sub_zero _]
  refine lv_istore_n (lv' := [(3, .int (nI n)), (0, .ref w), (1, .int 0), (2, .int (nI n))]) hx hb dJ7_copyOfRangeByte_39247_8 rfl hl (by decide) rfl (fun ls hl => ?_)
  refine lv_iload_n hx hb dJ7_copyOfRangeByte_39247_9 rfl (lv_at hl 0 rfl) ?_
  refine pq_newa S 1 (atype := .byte) vo_abyte (ty := .byte) rfl hK hP hD hS hA (cA := g.2 1) rfl (N' := n) (a0 := (n, .inl (fun _ => 0))) (fun _ => rfl) (nI_pos (by omega)) (nI_clamp (by omega)) (by show n * 1 ≤ 536870912; omega) (Nat.le_of_ble_eq_true rfl) (show 0 + 0 + n ≤ 2000 by omega) dJ7_copyOfRangeByte_39247_10 (fun z H2 hP hD hS => ?_)
  have hz9 : s.heap.size ≤ z := pz_new (fun q h => hAw q h) hD
  refine lv_astore (lv' := [(4, .ref z), (3, .int (nI n)), (0, .ref w), (1, .int 0), (2, .int (nI n))]) hx hb dJ7_copyOfRangeByte_39247_12 hl (by decide) rfl (fun ls hl => ?_)
  refine lv_aload_n hx hb dJ7_copyOfRangeByte_39247_14 rfl (lv_at hl 2 rfl) ?_
  refine lv_iload_n hx hb dJ7_copyOfRangeByte_39247_15 rfl (lv_at hl 3 rfl) ?_
  refine lv_aload hx hb dJ7_copyOfRangeByte_39247_16 (lv_at hl 0 rfl) ?_
  refine lv_iconst (v := 0) hx hb dJ7_copyOfRangeByte_39247_18 (by decide) ?_
  refine lv_aload_n hx hb dJ7_copyOfRangeByte_39247_19 rfl (lv_at hl 2 rfl) ?_
  refine va_alen (v := nI m) hx hb hK.1 hP 0 1 rfl rfl rfl dJ7_copyOfRangeByte_39247_20 ?_
  refine lv_iload_n hx hb dJ7_copyOfRangeByte_39247_21 rfl (lv_at hl 3 rfl) ?_
  refine lv_isub hx hb dJ7_copyOfRangeByte_39247_22 ?_
  rw [show nI m - 0 = nI m from Int32.sub_zero _]
  refine lv_iload_n hx hb dJ7_copyOfRangeByte_39247_23 rfl (lv_at hl 1 rfl) ?_
  refine pq_min S vm_J7_304 hl.1 (Nat.le_of_ble_eq_true rfl) dJ7_copyOfRangeByte_39247_24 (by decide) ⟨Nat.le_of_ble_eq_true rfl, show 0 + 0 + n ≤ 2000 by omega⟩ ?_
  rw [show (if nI n < nI m then nI n else nI m) = nI n by
      by_cases e : n < m
      · exact if_pos (nI_lt e (by omega))
      · rw [if_neg (nI_nlt (by omega) (by omega)), show m = n by omega]]
  refine va_copyi hx hb (S.2.2.1.trans hl.1.symm) hown (hts _ va_J7_150) (hts _ va_cp.1) (hts _ va_cp.2.1) (hts _ va_cp.2.2) hK.1 hP hD hS 0 1 1 1 rfl rfl rfl rfl rfl (by decide) (by decide) (nI_pos (by omega)) (by rw [nI_clamp (by omega), sb_cl0]; omega) (by rw [nI_clamp (by omega), sb_cl0]; omega) (fun i _ => hf _) (by decide) (Nat.le_of_ble_eq_true rfl) dJ7_copyOfRangeByte_39247_27 (fun H1 locs hP _ hS => ?_)
  rw [nI_clamp (n := n) (by omega), sb_cl0] at hP
  refine lv_aload hx hb dJ7_copyOfRangeByte_39247_30 (lv_at hl 0 rfl) ?_
  exact hend _ _ _ _ _ _ _ _ (sRet.a dJ7_copyOfRangeByte_39247_32) ⟨z, _, rfl, hz9, hP, fun j hj => sb_cpy0 hj⟩ hS (Nat.le_of_ble_eq_true rfl) (show 0 + 0 + n ≤ 2000 by omega)
set_option maxHeartbeats 4000000 in
set_option maxRecDepth 100000 in
theorem c_J7_copyOfRange (l : Launch) (g : pq_g) (ad av : Nat → Nat) (w m : Nat) (f : Nat → Int32) (TX : tx_L) (n : Nat) (hn : n ≤ m) (hm : m ≤ 1002) (hf : sb_Fit f) : sM l yJ7_copyOfRange_39247 cJ7_copyOfRange_39247 3 (some (.array .byte)) 3 1 2000 g ad av TX [(w, .inl (g.2 1, m, .inl f))] [.ref w, .int 0, .int (nI n)] (fun r sz H => ∃ (z : Nat) (f' : Nat → Int32), r = some (.ref z) ∧ sz ≤ z ∧ va_P g.1 pq_cl ([(w, .inl (g.2 1, m, .inl f))] ++ [(z, .inl (g.2 1, n, .inl f'))]) H ∧ ∀ j, j < n → f' j = f j) := by
  refine sM.of (own := RJ7) (by decide) rfl (Nat.le_of_ble_eq_true rfl) rfl ?_
  intro p e s mi below meth c ls Q A S hin hP hK hD hS hA hAw hI hl hend
  obtain ⟨hx, hb, hml, hown, hts⟩ := id S
  refine lv_iload_n hx hb dJ7_copyOfRange_39247_0 rfl (lv_at hl 1 rfl) ?_
  refine lv_if_ne (tgt := 10) hx hb dJ7_copyOfRange_39247_1 (by decide) (fun h9 => absurd rfl h9) (fun _ => ?_)
  refine lv_iload_n hx hb dJ7_copyOfRange_39247_4 rfl (lv_at hl 2 rfl) ?_
  refine lv_aload_n hx hb dJ7_copyOfRange_39247_5 rfl (lv_at hl 0 rfl) ?_
  refine va_alen (v := nI m) hx hb hK.1 hP 0 1 rfl rfl rfl dJ7_copyOfRange_39247_6 ?_
  by_cases e : n = m
  · subst e
    refine lv_icmp_eq (tgt := 17) hx hb dJ7_copyOfRange_39247_7 (by decide) (fun _ => ?_) (fun h9 => absurd rfl h9)
    refine lv_aload_n hx hb dJ7_copyOfRange_39247_17 rfl (lv_at hl 0 rfl) ?_
    have hnm : s.vm.findClass "[B" = some (g.2 1) := (hK.1.2 1 _ rfl).2
    refine va_clone hx hb (S.2.2.1.trans hl.1.symm) hown (hts _ vl_clone.1) (hts _ vl_clone.2.1) (hts _ vl_clone.2.2.1) (hts _ vl_clone.2.2.2.1) (hts _ vl_clone.2.2.2.2.1) hI.1.2.2.2.2.2.2.2 hK.1 hP hD hS hA 0 1 rfl rfl hnm (fun i v h => by
        have h1 : (arrV (g.2 1) n (fun j => .int (f j))).slots[i]? = some v := h
        rw [show (arrV (g.2 1) n (fun j => .int (f j))).slots = Array.ofFn (n := n) (fun j => Value.int (f j.val)) from rfl] at h1
        obtain ⟨h2, h3⟩ := Array.getElem?_eq_some_iff.mp h1
        rw [Array.getElem_ofFn] at h3
        rw [← h3]; exact hf i) (by decide) (Nat.le_of_ble_eq_true rfl) (Nat.le_of_ble_eq_true rfl) (show 0 + n ≤ 2000 by omega) dJ7_copyOfRange_39247_18 (fun z H1 _ hP hD hS => ?_)
    have hz9 : s.heap.size ≤ z := pz_new (fun q h => hAw q h) hD
    refine va_castA hx hb hown (hts _ vl_clone.2.2.2.2.2) hP 1 rfl hnm dJ7_copyOfRange_39247_21 ?_
    exact hend _ _ _ _ _ _ _ _ (sRet.a dJ7_copyOfRange_39247_24) ⟨z, f, rfl, hz9, hP, fun _ _ => rfl⟩ hS (Nat.le_of_ble_eq_true rfl) (show 0 + n ≤ 2000 by omega)
  · refine lv_icmp_eq (tgt := 17) hx hb dJ7_copyOfRange_39247_7 (by decide) (fun h9 => absurd ((nI_eq (by omega) (by omega)).mp h9) e) (fun _ => ?_)
    refine lv_aload_n hx hb dJ7_copyOfRange_39247_10 rfl (lv_at hl 0 rfl) ?_
    refine lv_iload_n hx hb dJ7_copyOfRange_39247_11 rfl (lv_at hl 1 rfl) ?_
    refine lv_iload_n hx hb dJ7_copyOfRange_39247_12 rfl (lv_at hl 2 rfl) ?_
    refine sS S (c_J7_copyOfRangeByte l g ad av w m f TX n hn hm hf) vs_J7_339 hK (hI.at hS (pq_Afree hD hS hA) (fun _ h => h)) hP hD hS hA rfl rfl hl.1 (Nat.le_of_ble_eq_true rfl) dJ7_copyOfRange_39247_13 ⟨Nat.le_of_ble_eq_true rfl, Nat.le_of_ble_eq_true rfl⟩ ⟨Nat.le_of_ble_eq_true rfl, Nat.le_of_ble_eq_true rfl⟩ (fun r H1 locs1 hr hz hk hS => ?_)
    obtain ⟨z, f', rfl, h2, h3, h4⟩ := hr
    show W _ _ _ _ _ _ _ _ _ _ _ _ _ _ _ (F0 _ _ _ [.ref z])
    exact hend _ _ _ _ _ _ _ _ (sRet.a dJ7_copyOfRange_39247_16) ⟨z, f', rfl, h2, h3, h4⟩ hS (Nat.le_of_ble_eq_true rfl) (Nat.le_of_ble_eq_true rfl)
set_option maxHeartbeats 4000000 in
set_option maxRecDepth 100000 in
theorem c_J0_initA (l : Launch) (g : pq_g) (ad av : Nat → Nat) (b w m n : Nat) (f : Nat → Int32) (b2 : Nat) (TX : tx_L) (hn : n ≤ m) (hm : m ≤ 1002) (hf : sb_Fit f) : sM l yJ0_init_db425 cJ0_init_db425 5 none 4 1 2000 g ad av TX ([(b2, (.inr (7, [.null, .int 0, .int 0, .int 0]) : va_E))] ++ sbW g b w m (nI n) f) [.ref b2, .ref b, .null] (fun r sz H => r = none ∧ ∃ (z : Nat) (f' : Nat → Int32), va_P g.1 pq_cl ([(b2, (.inr (7, [.ref z, .int 0, .int 0, .int 0]) : va_E))] ++ (sbW g b w m (nI n) f ++ [(z, .inl (g.2 1, n, .inl f'))])) H ∧ sz ≤ z ∧ ∀ j, j < n → f' j = f j) := by
  refine sM.of (own := RJ0) (by decide) rfl (Nat.le_of_ble_eq_true rfl) rfl ?_
  intro p e s mi below meth c ls Q A S hin hP hK hD hS hA hAw hI hl hend
  obtain ⟨hx, hb, hml, hown, hts⟩ := id S
  refine lv_aload_n hx hb dJ0_init_db425_0 rfl (lv_at hl 0 rfl) ?_
  refine pq_obj S vo_J0 vo_m vo_c hl.1 dJ0_init_db425_1 (by decide) ?_
  refine lv_aload_n hx hb dJ0_init_db425_4 rfl (lv_at hl 1 rfl) ?_
  refine sV S (c_J5_getValue l g ad av b w m n f TX) vv_J0_552 hK (hI.at hS (pq_Afree (pq_D2 hD) hS hA) (fun _ h => h)) (pq_P2 hP) (pq_D2 hD) hS hA (va_recv hK.1 (pq_P2 hP) (ci := 8) rfl (q0 := 0) rfl) rfl rfl hl.1 (Nat.le_of_ble_eq_true rfl) dJ0_init_db425_5 ⟨Nat.le_of_ble_eq_true rfl, Nat.le_of_ble_eq_true rfl⟩ ⟨Nat.le_of_ble_eq_true rfl, Nat.le_of_ble_eq_true rfl⟩ (fun r H1 locs1 hr hz hk hS => ?_)
  obtain ⟨rfl, hP1⟩ := hr
  replace hP := va_P.app (pq_kp (pq_P1 hP) (pq_Dx hD) hk) hP1
  clear hP1
  show W _ _ _ _ _ _ _ _ _ _ _ _ _ _ _ (F0 _ _ _ [.ref w])
  refine lv_astore_n (lv' := [(3, .ref w), (0, .ref b2), (1, .ref b), (2, .null)]) hx hb dJ0_init_db425_8 rfl hl (by decide) rfl (fun ls hl => ?_)
  refine lv_aload_n hx hb dJ0_init_db425_9 rfl (lv_at hl 2 rfl) ?_
  refine sB S (c_J4_length l g ad av b w m n f TX) hK (hI.at hS (pq_Afree (pq_D2 hD) hS hA) (fun _ h => h)) (pq_P2 hP) (pq_D2 hD) hS hA (va_recv hK.1 (pq_P2 hP) (ci := 8) rfl (q0 := 0) rfl) hl.1 (Nat.le_of_ble_eq_true rfl) dJ0_init_db425_10 ⟨Nat.le_of_ble_eq_true rfl, Nat.le_of_ble_eq_true rfl⟩ ⟨Nat.le_of_ble_eq_true rfl, Nat.le_of_ble_eq_true rfl⟩ (fun r H1 locs1 hr hz hk hS => ?_)
  obtain ⟨rfl, hP1⟩ := hr
  replace hP := va_P.app (pq_kp (pq_P1 hP) (pq_Dx hD) hk) hP1
  clear hP1
  show W _ _ _ _ _ _ _ _ _ _ _ _ _ _ _ (F0 _ _ _ [.int (nI n)])
  refine lv_istore (lv' := [(4, .int (nI n)), (3, .ref w), (0, .ref b2), (1, .ref b), (2, .null)]) hx hb dJ0_init_db425_13 hl (by decide) rfl (fun ls hl => ?_)
  refine lv_aload_n hx hb dJ0_init_db425_15 rfl (lv_at hl 3 rfl) ?_
  refine sV S (c_J5_isLatin1 l g ad av b w m n f TX) vv_J0_1047 hK (hI.at hS (pq_Afree (pq_D2 hD) hS hA) (fun _ h => h)) (pq_P2 hP) (pq_D2 hD) hS hA (va_recv hK.1 (pq_P2 hP) (ci := 8) rfl (q0 := 0) rfl) rfl rfl hl.1 (Nat.le_of_ble_eq_true rfl) dJ0_init_db425_16 ⟨Nat.le_of_ble_eq_true rfl, Nat.le_of_ble_eq_true rfl⟩ ⟨Nat.le_of_ble_eq_true rfl, Nat.le_of_ble_eq_true rfl⟩ (fun r H1 locs1 hr hz hk hS => ?_)
  obtain ⟨rfl, hP1⟩ := hr
  replace hP := va_P.app (pq_kp (pq_P1 hP) (pq_Dx hD) hk) hP1
  clear hP1
  show W _ _ _ _ _ _ _ _ _ _ _ _ _ _ _ (F0 _ _ _ [.int 1])
  refine lv_if_eq (tgt := 41) hx hb dJ0_init_db425_19 (by decide) (fun h9 => absurd h9 (by decide)) (fun _ => ?_)
  refine lv_aload_n hx hb dJ0_init_db425_22 rfl (lv_at hl 2 rfl) ?_
  refine lv_iconst (v := 0) hx hb dJ0_init_db425_23 (by decide) ?_
  refine pq_putF S (hin.trans rfl) hK hP hD hS inJ0 tyJ0_ok nmJ0 0 rfl rfl 1 (by decide) fl_J0_15 rfl rfl (ty := .byte) (v := .int 0) rfl rfl rfl (Nat.le_of_ble_eq_true rfl) dJ0_init_db425_24 (fun H2 locs2 hP hD hS => ?_)
  replace hP : va_P g.1 pq_cl ([(b2, (.inr (7, [.null, .int 0, .int 0, .int 0]) : va_E))] ++ sbW g b w m (nI n) f) H2 := hP
  replace hD : va_D A ([(b2, (.inr (7, [.null, .int 0, .int 0, .int 0]) : va_E))] ++ sbW g b w m (nI n) f) := hD
  refine lv_aload_n hx hb dJ0_init_db425_27 rfl (lv_at hl 2 rfl) ?_
  refine lv_aload_n hx hb dJ0_init_db425_28 rfl (lv_at hl 1 rfl) ?_
  refine lv_iconst (v := 0) hx hb dJ0_init_db425_29 (by decide) ?_
  refine lv_iload hx hb dJ0_init_db425_30 (lv_at hl 0 rfl) ?_
  have hS9 := hS
  refine sS S (c_J7_copyOfRange l g ad av w m f TX n hn hm hf) vs_J0_54 hK (hI.at hS (pq_Afree (pq_D2 (pq_D2 hD)) hS hA) (fun _ h => h)) (pq_P2 (pq_P2 hP)) (pq_D2 (pq_D2 hD)) hS hA rfl rfl hl.1 (Nat.le_of_ble_eq_true rfl) dJ0_init_db425_32 ⟨Nat.le_of_ble_eq_true rfl, Nat.le_of_ble_eq_true rfl⟩ ⟨Nat.le_of_ble_eq_true rfl, Nat.le_of_ble_eq_true rfl⟩ (fun r H3 locs3 hr hz hk hS => ?_)
  obtain ⟨z, f', rfl, h2, h3, h4⟩ := hr
  show W _ _ _ _ _ _ _ _ _ _ _ _ _ _ _ (F0 _ _ _ [.ref z, .ref b2])
  have hP3 := va_P.app (pq_kp (pq_P1 hP) (pq_ap2 (pq_Dx hD)) hk) (va_P.app (pq_kp (pq_P1 (pq_P2 hP)) (pq_Dx (pq_D2 hD)) hk) h3)
  have hD3 : va_D A ([(b2, (.inr (7, [.null, .int 0, .int 0, .int 0]) : va_E))] ++ ([(b, (.inr (8, [.ref w, .int 0, .int 0, .int (nI n)]) : va_E))] ++ ([(w, .inl (g.2 1, m, .inl f))] ++ [(z, .inl (g.2 1, n, .inl f'))]))) := pz_Dn hP hD hS9 h2 hA
  have hzs : s.heap.size ≤ z := Nat.le_trans hS9.1 h2
  refine pq_putF S (hin.trans rfl) hK hP3 hD3 hS inJ0 tyJ0_ok nmJ0 0 rfl rfl 0 (by decide) fl_J0_9 rfl rfl (ty := .array .byte) (v := .ref z) rfl rfl rfl (Nat.le_of_ble_eq_true rfl) dJ0_init_db425_35 (fun H4 locs4 hP4 hD4 hS => ?_)
  refine lv_goto (tgt := 97) hx hb dJ0_init_db425_38 (by decide) ?_
  exact hend _ _ _ _ _ _ _ _ (sRet.v dJ0_init_db425_97) ⟨rfl, z, f', hP4, hzs, h4⟩ hS (Nat.le_of_ble_eq_true rfl) (Nat.le_of_ble_eq_true rfl)
set_option maxHeartbeats 4000000 in
set_option maxRecDepth 100000 in
theorem c_J0_initB (l : Launch) (g : pq_g) (ad av : Nat → Nat) (b w m n : Nat) (f : Nat → Int32) (b2 : Nat) (TX : tx_L) (hn : n ≤ m) (hm : m ≤ 1002) (hf : sb_Fit f) : sM l yJ0_init_81219 cJ0_init_81219 2 none 5 1 2000 g ad av TX ([(b2, (.inr (7, [.null, .int 0, .int 0, .int 0]) : va_E))] ++ sbW g b w m (nI n) f) [.ref b2, .ref b] (fun r sz H => r = none ∧ ∃ (z : Nat) (f' : Nat → Int32), va_P g.1 pq_cl ([(b2, (.inr (7, [.ref z, .int 0, .int 0, .int 0]) : va_E))] ++ (sbW g b w m (nI n) f ++ [(z, .inl (g.2 1, n, .inl f'))])) H ∧ sz ≤ z ∧ ∀ j, j < n → f' j = f j) := by
  refine sM.of (own := RJ0) (by decide) rfl (Nat.le_of_ble_eq_true rfl) rfl ?_
  intro p e s mi below meth c ls Q A S hin hP hK hD hS hA hAw hI hl hend
  obtain ⟨hx, hb, hml, hown, hts⟩ := id S
  refine lv_aload_n hx hb dJ0_init_81219_0 rfl (lv_at hl 0 rfl) ?_
  refine lv_aload_n hx hb dJ0_init_81219_1 rfl (lv_at hl 1 rfl) ?_
  refine lv_null hx hb dJ0_init_81219_2 ?_
  refine sN S (c_J0_initA l g ad av b w m n f b2 TX hn hm hf) vi_J0_489 hK (hI.at hS (pq_Afree hD hS hA) (fun _ h => h)) hP hD hS hA rfl rfl hl.1 (Nat.le_of_ble_eq_true rfl) dJ0_init_81219_3 ⟨Nat.le_of_ble_eq_true rfl, Nat.le_of_ble_eq_true rfl⟩ ⟨Nat.le_of_ble_eq_true rfl, Nat.le_of_ble_eq_true rfl⟩ (fun r H1 locs1 hr hz hk hS => ?_)
  obtain ⟨rfl, z, f', h1, h2, h3⟩ := hr
  show W _ _ _ _ _ _ _ _ _ _ _ _ _ _ _ (F0 _ _ _ [])
  exact hend _ _ _ _ _ _ _ _ (sRet.v dJ0_init_81219_6) ⟨rfl, z, f', h1, h2, h3⟩ hS (Nat.le_of_ble_eq_true rfl) (Nat.le_of_ble_eq_true rfl)
set_option maxHeartbeats 4000000 in
set_option maxRecDepth 100000 in
theorem c_J4_toString (l : Launch) (g : pq_g) (ad av : Nat → Nat) (b w m n : Nat) (f : Nat → Int32) (TX : tx_L) (hn : n ≤ m) (hm : m ≤ 1002) (hf : sb_Fit f) : sM l yJ4_toString_0e30d cJ4_toString_0e30d 1 (some (.object "java/lang/String")) 6 2 2004 g ad av TX (sbW g b w m (nI n) f) [.ref b] (fun r sz H => ∃ (b2 z : Nat) (f' : Nat → Int32), r = some (.ref b2) ∧ sz ≤ b2 ∧ sz ≤ z ∧ b2 ≠ z ∧ va_P g.1 pq_cl (sbW g b w m (nI n) f) H ∧ va_P g.1 pq_cl (stW g b2 z n f') H ∧ ∀ j, j < n → f' j = f j) := by
  refine sM.of (own := RJ4) (by decide) rfl (Nat.le_of_ble_eq_true rfl) rfl ?_
  intro p e s mi below meth c ls Q A S hin hP hK hD hS hA hAw hI hl hend
  obtain ⟨hx, hb, hml, hown, hts⟩ := id S
  refine pq_new S inJ0 tyJ0 tyJ0_ok vnJ4_18.1 vnJ4_18.2.1 vnJ4_18.2.2 hK hP hD hS hA (ci := 7) rfl (fs := [.null, .int 0, .int 0, .int 0]) (by decide +kernel) (Nat.le_of_ble_eq_true rfl) (Nat.le_of_ble_eq_true rfl) dJ4_toString_0e30d_0 (fun b2 H1 hP hD hS => ?_)
  have hb9 : s.heap.size ≤ b2 := pz_new (fun q h => hAw q h) hD
  replace hP : va_P g.1 pq_cl ([(b2, (.inr (7, [.null, .int 0, .int 0, .int 0]) : va_E))] ++ sbW g b w m (nI n) f) H1 := va_P.app (pq_P2 hP) (pq_P1 hP)
  replace hD : va_D A ([(b2, (.inr (7, [.null, .int 0, .int 0, .int 0]) : va_E))] ++ sbW g b w m (nI n) f) := pq_Da (pq_D2 hD) (pq_D1 hD) (pq_aps (pq_Dx hD))
  refine lv_dup hx hb dJ4_toString_0e30d_3 rfl ?_
  refine lv_aload_n hx hb dJ4_toString_0e30d_4 rfl (lv_at hl 0 rfl) ?_
  have hS9 := hS
  refine sN S (c_J0_initB l g ad av b w m n f b2 TX hn hm hf) vi_J4_137 hK (hI.at hS (pq_Afree hD hS hA) (fun _ h => h)) hP hD hS hA rfl rfl hl.1 (Nat.le_of_ble_eq_true rfl) dJ4_toString_0e30d_5 ⟨Nat.le_of_ble_eq_true rfl, Nat.le_of_ble_eq_true rfl⟩ ⟨Nat.le_of_ble_eq_true rfl, Nat.le_of_ble_eq_true rfl⟩ (fun r H2 locs2 hr hz hk hS => ?_)
  obtain ⟨rfl, z, f', h1, h2, h3⟩ := hr
  show W _ _ _ _ _ _ _ _ _ _ _ _ _ _ _ (F0 _ _ _ [.ref b2])
  have hbz : b2 ≠ z := fun e => by
      have := (pq_P1 hP 0 _ rfl).lt
      have e9 : b2 < H1.size := this
      omega
  exact hend _ _ _ _ _ _ _ _ (sRet.o dJ4_toString_0e30d_8) ⟨b2, z, f', rfl, hb9, Nat.le_trans hS9.1 h2, hbz, pq_P1 (pq_P2 h1), va_P.app (pq_P1 h1) (pq_P2 (pq_P2 h1)), h3⟩ hS (Nat.le_of_ble_eq_true rfl) (Nat.le_of_ble_eq_true rfl)
