theorem dJ4_length_8abf5_0 : decode cJ4_length_8abf5 0 = .ok (.aload_n 0, 1) := by decide +kernel
theorem dJ4_length_8abf5_1 : decode cJ4_length_8abf5 1 = .ok (.invokespecial 343, 3) := by decide +kernel
theorem dJ4_length_8abf5_4 : decode cJ4_length_8abf5 4 = .ok (.ireturn, 1) := by decide +kernel
set_option maxHeartbeats 4000000 in
set_option maxRecDepth 100000 in
theorem c_J5_isLatin1 (l : Launch) (g : pq_g) (ad av : Nat → Nat) (b w m n : Nat) (f : Nat → Int32) (TX : tx_L) : sM l yJ5_isLatin1_aae02 cJ5_isLatin1_aae02 1 (some .boolean) 1 0 0 g ad av TX (sbW g b w m (nI n) f) [.ref b] (fun r _ H => r = some (.int 1) ∧ va_P g.1 pq_cl (sbW g b w m (nI n) f) H) := by
  refine sM.of (own := RJ5) (by decide) rfl (Nat.le_of_ble_eq_true rfl) rfl ?_
  intro p e s mi below meth c ls Q A S hin hP hK hD hS hA hAw hI hl hend
  obtain ⟨hx, hb, hml, hown, hts⟩ := id S
  refine s_gs S hI.1.2.2.1 hS fl_J5_18 dJ5_isLatin1_aae02_0 ?_
  refine lv_if_eq (tgt := 17) hx hb dJ5_isLatin1_aae02_3 (by decide) (fun h9 => absurd h9 (by decide)) (fun _ => ?_)
  refine lv_aload_n hx hb dJ5_isLatin1_aae02_6 rfl (lv_at hl 0 rfl) ?_
  refine sb_get S hK hP 0 rfl 1 (by decide) fl_J5_22 rfl (v := .int 0) rfl dJ5_isLatin1_aae02_7 ?_
  refine lv_if_ne (tgt := 17) hx hb dJ5_isLatin1_aae02_10 (by decide) (fun h9 => absurd rfl h9) (fun _ => ?_)
  refine lv_iconst (v := 1) hx hb dJ5_isLatin1_aae02_13 (by decide) ?_
  refine lv_goto (tgt := 18) hx hb dJ5_isLatin1_aae02_14 (by decide) ?_
  exact hend _ _ _ _ _ _ _ _ (sRet.i rfl dJ5_isLatin1_aae02_18) ⟨rfl, hP⟩ hS (Nat.le_of_ble_eq_true rfl) (Nat.le_of_ble_eq_true rfl)
set_option maxHeartbeats 4000000 in
set_option maxRecDepth 100000 in
theorem c_J5_getValue (l : Launch) (g : pq_g) (ad av : Nat → Nat) (b w m n : Nat) (f : Nat → Int32) (TX : tx_L) : sM l yJ5_getValue_6d5f1 cJ5_getValue_6d5f1 1 (some (.array .byte)) 1 0 0 g ad av TX (sbW g b w m (nI n) f) [.ref b] (fun r _ H => r = some (.ref w) ∧ va_P g.1 pq_cl (sbW g b w m (nI n) f) H) := by
  refine sM.of (own := RJ5) (by decide) rfl (Nat.le_of_ble_eq_true rfl) rfl ?_
  intro p e s mi below meth c ls Q A S hin hP hK hD hS hA hAw hI hl hend
  obtain ⟨hx, hb, hml, hown, hts⟩ := id S
  refine lv_aload_n hx hb dJ5_getValue_6d5f1_0 rfl (lv_at hl 0 rfl) ?_
  refine sb_get S hK hP 0 rfl 0 (by decide) fl_J5_15 rfl (v := .ref w) rfl dJ5_getValue_6d5f1_1 ?_
  exact hend _ _ _ _ _ _ _ _ (sRet.a dJ5_getValue_6d5f1_4) ⟨rfl, hP⟩ hS (Nat.le_of_ble_eq_true rfl) (Nat.le_of_ble_eq_true rfl)
set_option maxHeartbeats 4000000 in
set_option maxRecDepth 100000 in
theorem c_J5_length (l : Launch) (g : pq_g) (ad av : Nat → Nat) (b w m n : Nat) (f : Nat → Int32) (TX : tx_L) : sM l yJ5_length_8abf5 cJ5_length_8abf5 1 (some .int) 1 0 0 g ad av TX (sbW g b w m (nI n) f) [.ref b] (fun r _ H => r = some (.int (nI n)) ∧ va_P g.1 pq_cl (sbW g b w m (nI n) f) H) := by
  refine sM.of (own := RJ5) (by decide) rfl (Nat.le_of_ble_eq_true rfl) rfl ?_
  intro p e s mi below meth c ls Q A S hin hP hK hD hS hA hAw hI hl hend
  obtain ⟨hx, hb, hml, hown, hts⟩ := id S
  refine lv_aload_n hx hb dJ5_length_8abf5_0 rfl (lv_at hl 0 rfl) ?_
  refine sb_get S hK hP 0 rfl 3 (by decide) fl_J5_79 rfl (v := .int (nI n)) rfl dJ5_length_8abf5_1 ?_
  exact hend _ _ _ _ _ _ _ _ (sRet.i rfl dJ5_length_8abf5_4) ⟨rfl, hP⟩ hS (Nat.le_of_ble_eq_true rfl) (Nat.le_of_ble_eq_true rfl)
set_option maxHeartbeats 4000000 in
set_option maxRecDepth 100000 in
theorem c_J4_length (l : Launch) (g : pq_g) (ad av : Nat → Nat) (b w m n : Nat) (f : Nat → Int32) (TX : tx_L) : sM l yJ4_length_8abf5 cJ4_length_8abf5 1 (some .int) 2 0 0 g ad av TX (sbW g b w m (nI n) f) [.ref b] (fun r _ H => r = some (.int (nI n)) ∧ va_P g.1 pq_cl (sbW g b w m (nI n) f) H) := by
  refine sM.of (own := RJ4) (by decide) rfl (Nat.le_of_ble_eq_true rfl) rfl ?_
  intro p e s mi below meth c ls Q A S hin hP hK hD hS hA hAw hI hl hend
  obtain ⟨hx, hb, hml, hown, hts⟩ := id S
  refine lv_aload_n hx hb dJ4_length_8abf5_0 rfl (lv_at hl 0 rfl) ?_
  refine sU S (hK.1.1 8 _ rfl).2 (c_J5_length l g ad av b w m n f TX) vu_J4_343 hK (hI.at hS (pq_Afree hD hS hA) (fun _ h => h)) hP hD hS hA (va_recv hK.1 hP (ci := 8) rfl (q0 := 0) rfl) rfl rfl hl.1 (Nat.le_of_ble_eq_true rfl) dJ4_length_8abf5_1 ⟨Nat.le_of_ble_eq_true rfl, Nat.le_of_ble_eq_true rfl⟩ ⟨Nat.le_of_ble_eq_true rfl, Nat.le_of_ble_eq_true rfl⟩ (fun r H1 locs1 hr hz hk hS => ?_)
  obtain ⟨rfl, hP⟩ := hr
  show W _ _ _ _ _ _ _ _ _ _ _ _ _ _ _ (F0 _ _ _ [.int (nI n)])
  exact hend _ _ _ _ _ _ _ _ (sRet.i rfl dJ4_length_8abf5_4) ⟨rfl, hP⟩ hS (Nat.le_of_ble_eq_true rfl) (Nat.le_of_ble_eq_true rfl)
def sb_mx (x y : Nat) : Nat := if x < y then y else x
theorem sb_mx_ok {x y : Nat} (hx : x < 2 ^ 31) (hy : y < 2 ^ 31) : (if nI x < nI y then nI y else nI x) = nI (sb_mx x y) := by
  unfold sb_mx
  by_cases h : x < y
  · rw [if_pos h, if_pos (nI_lt h hy)]
  · rw [if_neg h, if_neg (nI_nlt (by omega) hx)]
set_option maxHeartbeats 4000000 in
set_option maxRecDepth 100000 in
theorem c_J8_newLength (l : Launch) (g : pq_g) (ad av : Nat → Nat) (TX : tx_L) (o x y : Nat) (h0 : 0 < o + sb_mx x y) (h1 : o + sb_mx x y ≤ 2000) (hx : x ≤ 2000) (hy : y ≤ 2000) : sM l yJ8_newLength_cabcc cJ8_newLength_cabcc 4 (some .int) 2 0 0 g ad av TX [] [.int (nI o), .int (nI x), .int (nI y)] (fun r _ _ => r = some (.int (nI (o + sb_mx x y)))) := by
  refine sM.of (own := RJ8) (by decide) rfl (Nat.le_of_ble_eq_true rfl) rfl ?_
  intro p e s mi below meth c ls Q A S hin hP hK hD hS hA hAw hI hl hend
  obtain ⟨hx, hb, hml, hown, hts⟩ := id S
  refine lv_iload_n hx hb dJ8_newLength_cabcc_0 rfl (lv_at hl 0 rfl) ?_
  refine lv_iload_n hx hb dJ8_newLength_cabcc_1 rfl (lv_at hl 1 rfl) ?_
  refine lv_iload_n hx hb dJ8_newLength_cabcc_2 rfl (lv_at hl 2 rfl) ?_
  refine pq_max S vm_J8_194 hl.1 (Nat.le_of_ble_eq_true rfl) dJ8_newLength_cabcc_3 (by decide) ⟨Nat.le_of_ble_eq_true rfl, Nat.le_of_ble_eq_true rfl⟩ ?_
  rw [sb_mx_ok (by omega) (by omega)]
  refine lv_iadd hx hb dJ8_newLength_cabcc_6 ?_
  rw [nI_add]
  refine lv_istore_n (lv' := [(3, .int (nI (o + sb_mx x y))), (0, .int (nI o)), (1, .int (nI x)), (2, .int (nI y))]) hx hb dJ8_newLength_cabcc_7 rfl hl (by decide) rfl (fun ls hl => ?_)
  refine lv_iconst (v := 0) hx hb dJ8_newLength_cabcc_8 (by decide) ?_
  refine lv_iload_n hx hb dJ8_newLength_cabcc_9 rfl (lv_at hl 0 rfl) ?_
  refine lv_icmp_ge (tgt := 21) hx hb dJ8_newLength_cabcc_10 (by decide) (fun h9 => absurd h9 (Int32.not_le.mpr (nI_lt (a := 0) (by omega) (by omega)))) (fun _ => ?_)
  refine lv_iload_n hx hb dJ8_newLength_cabcc_13 rfl (lv_at hl 0 rfl) ?_
  refine lv_ldc hx hb hown (hts _ vl_cst.2) dJ8_newLength_cabcc_14 ?_
  refine lv_icmp_gt (tgt := 21) hx hb dJ8_newLength_cabcc_16 (by decide) (fun h9 => absurd h9 (Int32.not_lt.mpr (show nI (o + sb_mx x y) ≤ nI 2147483639 from nI_le (by omega) (by decide)))) (fun _ => ?_)
  refine lv_iload_n hx hb dJ8_newLength_cabcc_19 rfl (lv_at hl 0 rfl) ?_
  exact hend _ _ _ _ _ _ _ _ (sRet.i rfl dJ8_newLength_cabcc_20) rfl hS (Nat.le_refl _) (Nat.le_refl _)
def sb_cp (q m : Nat) : Nat := m + sb_mx (q - m) (m + 2)
set_option maxHeartbeats 4000000 in
set_option maxRecDepth 100000 in
theorem c_J5_newCapacity (l : Launch) (g : pq_g) (ad av : Nat → Nat) (b w m n : Nat) (f : Nat → Int32) (TX : tx_L) (q : Nat) (hq : m < q) (hq5 : q ≤ 500) : sM l yJ5_newCapacity_0f7a4 cJ5_newCapacity_0f7a4 6 (some .int) 3 0 0 g ad av TX (sbW g b w m (nI n) f) [.ref b, .int (nI q)] (fun r _ H => r = some (.int (nI (sb_cp q m))) ∧ va_P g.1 pq_cl (sbW g b w m (nI n) f) H) := by
  refine sM.of (own := RJ5) (by decide) rfl (Nat.le_of_ble_eq_true rfl) rfl ?_
  intro p e s mi below meth c ls Q A S hin hP hK hD hS hA hAw hI hl hend
  obtain ⟨hx, hb, hml, hown, hts⟩ := id S
  have hb9 : sb_mx (q - m) (m + 2) ≤ 502 := by unfold sb_mx; split <;> omega
  have hb8 : 0 < sb_mx (q - m) (m + 2) := by unfold sb_mx; split <;> omega
  refine lv_aload_n hx hb dJ5_newCapacity_0f7a4_0 rfl (lv_at hl 0 rfl) ?_
  refine sb_get S hK hP 0 rfl 0 (by decide) fl_J5_15 rfl (v := .ref w) rfl dJ5_newCapacity_0f7a4_1 ?_
  refine va_alen (v := nI m) hx hb hK.1 hP 1 1 rfl rfl rfl dJ5_newCapacity_0f7a4_4 ?_
  refine lv_istore_n (lv' := [(2, .int (nI m)), (0, .ref b), (1, .int (nI q))]) hx hb dJ5_newCapacity_0f7a4_5 rfl hl (by decide) rfl (fun ls hl => ?_)
  refine lv_iload_n hx hb dJ5_newCapacity_0f7a4_6 rfl (lv_at hl 2 rfl) ?_
  refine lv_aload_n hx hb dJ5_newCapacity_0f7a4_7 rfl (lv_at hl 1 rfl) ?_
  refine sb_get S hK hP 0 rfl 1 (by decide) fl_J5_22 rfl (v := .int 0) rfl dJ5_newCapacity_0f7a4_8 ?_
  refine lv_ishl hx hb dJ5_newCapacity_0f7a4_11 ?_
  rw [sb_shl0]
  refine lv_istore_n (lv' := [(3, .int (nI q)), (2, .int (nI m)), (0, .ref b), (1, .int (nI q))]) hx hb dJ5_newCapacity_0f7a4_12 rfl hl (by decide) rfl (fun ls hl => ?_)
  refine lv_iload_n hx hb dJ5_newCapacity_0f7a4_13 rfl (lv_at hl 0 rfl) ?_
  refine lv_iload_n hx hb dJ5_newCapacity_0f7a4_14 rfl (lv_at hl 1 rfl) ?_
  refine lv_isub hx hb dJ5_newCapacity_0f7a4_15 ?_
  rw [show nI q - nI m = nI (q - m) from pk_sub (by omega)]
  refine lv_istore (lv' := [(4, .int (nI (q - m))), (3, .int (nI q)), (2, .int (nI m)), (0, .ref b), (1, .int (nI q))]) hx hb dJ5_newCapacity_0f7a4_16 hl (by decide) rfl (fun ls hl => ?_)
  refine lv_iload_n hx hb dJ5_newCapacity_0f7a4_18 rfl (lv_at hl 2 rfl) ?_
  refine lv_iload hx hb dJ5_newCapacity_0f7a4_19 (lv_at hl 0 rfl) ?_
  refine lv_iload_n hx hb dJ5_newCapacity_0f7a4_21 rfl (lv_at hl 2 rfl) ?_
  refine lv_iconst (v := 2) hx hb dJ5_newCapacity_0f7a4_22 (by decide) ?_
  refine lv_aload_n hx hb dJ5_newCapacity_0f7a4_23 rfl (lv_at hl 3 rfl) ?_
  refine sb_get S hK hP 0 rfl 1 (by decide) fl_J5_22 rfl (v := .int 0) rfl dJ5_newCapacity_0f7a4_24 ?_
  refine lv_ishl hx hb dJ5_newCapacity_0f7a4_27 ?_
  rw [sb_shl0]
  refine lv_iadd hx hb dJ5_newCapacity_0f7a4_28 ?_
  rw [show nI m + 2 = nI (m + 2) from nI_add m 2]
  refine sS S (c_J8_newLength l g ad av TX m (q - m) (m + 2) (by omega) (by omega) (by omega) (by omega)) vs_J5_114 hK (hI.at hS (pq_Afree pq_D0 hS hA) (fun _ h => h)) pq_P0 pq_D0 hS hA rfl rfl hl.1 (Nat.le_of_ble_eq_true rfl) dJ5_newCapacity_0f7a4_29 ⟨Nat.le_of_ble_eq_true rfl, Nat.le_of_ble_eq_true rfl⟩ ⟨Nat.le_of_ble_eq_true rfl, Nat.le_of_ble_eq_true rfl⟩ (fun r H1 locs1 hr hz hk hS => ?_)
  subst hr
  replace hP := pq_kp0 hP hk
  show W _ _ _ _ _ _ _ _ _ _ _ _ _ _ _ (F0 _ _ _ [.int (nI (m + sb_mx (q - m) (m + 2)))])
  refine lv_istore (lv' := [(5, .int (nI (m + sb_mx (q - m) (m + 2)))), (4, .int (nI (q - m))), (3, .int (nI q)), (2, .int (nI m)), (0, .ref b), (1, .int (nI q))]) hx hb dJ5_newCapacity_0f7a4_32 hl (by decide) rfl (fun ls hl => ?_)
  refine lv_iload hx hb dJ5_newCapacity_0f7a4_34 (lv_at hl 0 rfl) ?_
  refine lv_ldc hx hb hown (hts _ vl_cst.1) dJ5_newCapacity_0f7a4_36 ?_
  refine lv_icmp_ne (tgt := 51) hx hb dJ5_newCapacity_0f7a4_38 (by decide) (fun _ => ?_) (fun h9 => by have := (nI_eq (a := m + sb_mx (q - m) (m + 2)) (b := 2147483647) (by omega) (by decide)).mp h9; omega)
  refine lv_iload hx hb dJ5_newCapacity_0f7a4_51 (lv_at hl 0 rfl) ?_
  refine lv_aload_n hx hb dJ5_newCapacity_0f7a4_53 rfl (lv_at hl 4 rfl) ?_
  refine sb_get S hK hP 0 rfl 1 (by decide) fl_J5_22 rfl (v := .int 0) rfl dJ5_newCapacity_0f7a4_54 ?_
  refine lv_ishr hx hb dJ5_newCapacity_0f7a4_57 ?_
  rw [sb_shr0]
  exact hend _ _ _ _ _ _ _ _ (sRet.i rfl dJ5_newCapacity_0f7a4_58) ⟨rfl, hP⟩ hS (Nat.le_of_ble_eq_true rfl) (Nat.le_of_ble_eq_true rfl)
set_option maxHeartbeats 4000000 in
set_option maxRecDepth 100000 in
theorem c_J7_copyOf (l : Launch) (g : pq_g) (ad av : Nat → Nat) (w m : Nat) (f : Nat → Int32) (TX : tx_L) (q : Nat) (hq : m < q) (hq5 : q ≤ 2000) (hf : sb_Fit f) : sM l yJ7_copyOf_9075b cJ7_copyOf_9075b 3 (some (.array .byte)) 2 1 2000 g ad av TX [(w, .inl (g.2 1, m, .inl f))] [.ref w, .int (nI q)] (fun r sz H => ∃ (z : Nat) (f' : Nat → Int32), r = some (.ref z) ∧ sz ≤ z ∧ va_P g.1 pq_cl ([(w, .inl (g.2 1, m, .inl f))] ++ [(z, .inl (g.2 1, q, .inl f'))]) H ∧ (∀ j, j < m → f' j = f j) ∧ sb_Fit f') := by
  refine sM.of (own := RJ7) (by decide) rfl (Nat.le_of_ble_eq_true rfl) rfl ?_
  intro p e s mi below meth c ls Q A S hin hP hK hD hS hA hAw hI hl hend
  obtain ⟨hx, hb, hml, hown, hts⟩ := id S
  refine lv_iload_n hx hb dJ7_copyOf_9075b_0 rfl (lv_at hl 1 rfl) ?_
  refine lv_aload_n hx hb dJ7_copyOf_9075b_1 rfl (lv_at hl 0 rfl) ?_
  refine va_alen (v := nI m) hx hb hK.1 hP 0 1 rfl rfl rfl dJ7_copyOf_9075b_2 ?_
  refine lv_icmp_ne (tgt := 14) hx hb dJ7_copyOf_9075b_3 (by decide) (fun _ => ?_) (fun h9 => by have := (nI_eq (a := q) (b := m) (by omega) (by omega)).mp h9; omega)
  refine lv_iload_n hx hb dJ7_copyOf_9075b_14 rfl (lv_at hl 1 rfl) ?_
  refine pq_newa S 1 (atype := .byte) vo_abyte (ty := .byte) rfl hK hP hD hS hA (cA := g.2 1) rfl (N' := q) (a0 := (q, .inl (fun _ => 0))) (fun _ => rfl) (nI_pos (by omega)) (nI_clamp (by omega)) (by show q * 1 ≤ 536870912; omega) (Nat.le_of_ble_eq_true rfl) (show 0 + q ≤ 2000 by omega) dJ7_copyOf_9075b_15 (fun z H1 hP hD hS => ?_)
  have hz9 : s.heap.size ≤ z := pz_new (fun q h => hAw q h) hD
  refine lv_astore_n (lv' := [(2, .ref z), (0, .ref w), (1, .int (nI q))]) hx hb dJ7_copyOf_9075b_17 rfl hl (by decide) rfl (fun ls hl => ?_)
  refine lv_aload_n hx hb dJ7_copyOf_9075b_18 rfl (lv_at hl 1 rfl) ?_
  refine lv_iconst (v := 0) hx hb dJ7_copyOf_9075b_19 (by decide) ?_
  refine lv_aload_n hx hb dJ7_copyOf_9075b_20 rfl (lv_at hl 0 rfl) ?_
  refine lv_iconst (v := 0) hx hb dJ7_copyOf_9075b_21 (by decide) ?_
  refine lv_aload_n hx hb dJ7_copyOf_9075b_22 rfl (lv_at hl 1 rfl) ?_
  refine va_alen (v := nI m) hx hb hK.1 hP 0 1 rfl rfl rfl dJ7_copyOf_9075b_23 ?_
  refine lv_iload_n hx hb dJ7_copyOf_9075b_24 rfl (lv_at hl 2 rfl) ?_
  refine pq_min S vm_J7_304 hl.1 (Nat.le_of_ble_eq_true rfl) dJ7_copyOf_9075b_25 (by decide) ⟨Nat.le_of_ble_eq_true rfl, show 0 + q ≤ 2000 by omega⟩ ?_
  rw [if_neg (nI_nlt (a := q) (b := m) (by omega) (by omega))]
  refine va_copyi hx hb (S.2.2.1.trans hl.1.symm) hown (hts _ va_J7_150) (hts _ va_cp.1) (hts _ va_cp.2.1) (hts _ va_cp.2.2) hK.1 hP hD hS 0 1 1 1 rfl rfl rfl rfl rfl (by decide) (by decide) (nI_pos (by omega)) (by rw [nI_clamp (by omega), sb_cl0]; omega) (by rw [nI_clamp (by omega), sb_cl0]; omega) (fun i _ => hf _) (by decide) (Nat.le_of_ble_eq_true rfl) dJ7_copyOf_9075b_28 (fun H1 locs hP _ hS => ?_)
  rw [nI_clamp (n := m) (by omega), sb_cl0] at hP
  refine lv_aload_n hx hb dJ7_copyOf_9075b_31 rfl (lv_at hl 0 rfl) ?_
  exact hend _ _ _ _ _ _ _ _ (sRet.a dJ7_copyOf_9075b_32) ⟨z, _, rfl, hz9, hP, fun j hj => sb_cpy0 hj, sb_fitC hf sb_fit0⟩ hS (Nat.le_of_ble_eq_true rfl) (show 0 + q ≤ 2000 by omega)
set_option maxHeartbeats 4000000 in
set_option maxRecDepth 100000 in
theorem c_J5_ensure (l : Launch) (g : pq_g) (ad av : Nat → Nat) (b w m n : Nat) (f : Nat → Int32) (TX : tx_L) (q : Nat) (hm : m ≤ 1002) (hq5 : q ≤ 500) (hf : sb_Fit f) : sM l yJ5_ensureCapacityInternal_d00df cJ5_ensureCapacityInternal_d00df 3 none 4 1 2000 g ad av TX (sbW g b w m (nI n) f) [.ref b, .int (nI q)] (fun r sz H => r = none ∧ ∃ (w' m' : Nat) (f' : Nat → Int32), va_P g.1 pq_cl (sbW g b w' m' (nI n) f') H ∧ (w' = w ∨ sz ≤ w') ∧ q ≤ m' ∧ m ≤ m' ∧ m' ≤ 1002 ∧ sb_Fit f' ∧ ∀ j, j < m → f' j = f j) := by
  refine sM.of (own := RJ5) (by decide) rfl (Nat.le_of_ble_eq_true rfl) rfl ?_
  intro p e s mi below meth c ls Q A S hin hP hK hD hS hA hAw hI hl hend
  obtain ⟨hx, hb, hml, hown, hts⟩ := id S
  refine lv_aload_n hx hb dJ5_ensureCapacityInternal_d00df_0 rfl (lv_at hl 0 rfl) ?_
  refine sb_get S hK hP 0 rfl 0 (by decide) fl_J5_15 rfl (v := .ref w) rfl dJ5_ensureCapacityInternal_d00df_1 ?_
  refine va_alen (v := nI m) hx hb hK.1 hP 1 1 rfl rfl rfl dJ5_ensureCapacityInternal_d00df_4 ?_
  refine lv_aload_n hx hb dJ5_ensureCapacityInternal_d00df_5 rfl (lv_at hl 0 rfl) ?_
  refine sb_get S hK hP 0 rfl 1 (by decide) fl_J5_22 rfl (v := .int 0) rfl dJ5_ensureCapacityInternal_d00df_6 ?_
  refine lv_ishr hx hb dJ5_ensureCapacityInternal_d00df_9 ?_
  rw [sb_shr0]
  refine lv_istore_n (lv' := [(2, .int (nI m)), (0, .ref b), (1, .int (nI q))]) hx hb dJ5_ensureCapacityInternal_d00df_10 rfl hl (by decide) rfl (fun ls hl => ?_)
  refine lv_iload_n hx hb dJ5_ensureCapacityInternal_d00df_11 rfl (lv_at hl 2 rfl) ?_
  refine lv_iload_n hx hb dJ5_ensureCapacityInternal_d00df_12 rfl (lv_at hl 0 rfl) ?_
  refine lv_isub hx hb dJ5_ensureCapacityInternal_d00df_13 ?_
  have e1 : (nI q - nI m).toInt = (q : Int) - m := pk_sub_toInt (by omega) (by omega)
  by_cases hqm : q ≤ m
  · refine lv_if_le (tgt := 38) hx hb dJ5_ensureCapacityInternal_d00df_14 (by decide) (fun _ => ?_) (fun h9 => absurd (show nI q - nI m ≤ 0 by rw [Int32.le_iff_toInt_le, e1, Int32.toInt_zero]; omega) h9)
    exact hend _ _ _ _ _ _ _ _ (sRet.v dJ5_ensureCapacityInternal_d00df_38) ⟨rfl, w, m, f, hP, Or.inl rfl, hqm, Nat.le_refl _, hm, hf, fun _ _ => rfl⟩ hS (Nat.le_of_ble_eq_true rfl) (Nat.le_of_ble_eq_true rfl)
  · refine lv_if_le (tgt := 38) hx hb dJ5_ensureCapacityInternal_d00df_14 (by decide) (fun h9 => absurd h9 (by rw [Int32.le_iff_toInt_le, e1, Int32.toInt_zero]; omega)) (fun _ => ?_)
    refine lv_aload_n hx hb dJ5_ensureCapacityInternal_d00df_17 rfl (lv_at hl 1 rfl) ?_
    refine lv_aload_n hx hb dJ5_ensureCapacityInternal_d00df_18 rfl (lv_at hl 1 rfl) ?_
    refine sb_get S hK hP 0 rfl 0 (by decide) fl_J5_15 rfl (v := .ref w) rfl dJ5_ensureCapacityInternal_d00df_19 ?_
    refine lv_aload_n hx hb dJ5_ensureCapacityInternal_d00df_22 rfl (lv_at hl 1 rfl) ?_
    refine lv_iload_n hx hb dJ5_ensureCapacityInternal_d00df_23 rfl (lv_at hl 2 rfl) ?_
    refine sP S (c_J5_newCapacity l g ad av b w m n f TX q (by omega) hq5) vp_J5_104 (hI.pm (List.mem_of_getElem? (i := 1) rfl)) hK (hI.at hS (pq_Afree hD hS hA) (fun _ h => h)) hP hD hS hA (va_recv hK.1 hP (ci := 8) rfl (q0 := 0) rfl) rfl rfl hl.1 (Nat.le_of_ble_eq_true rfl) dJ5_ensureCapacityInternal_d00df_24 ⟨Nat.le_of_ble_eq_true rfl, Nat.le_of_ble_eq_true rfl⟩ ⟨Nat.le_of_ble_eq_true rfl, Nat.le_of_ble_eq_true rfl⟩ (fun r H1 locs hr hz hk hS => ?_)
    obtain ⟨rfl, hP⟩ := hr
    show W _ _ _ _ _ _ _ _ _ _ _ _ _ _ _ (F0 _ _ _ [.int (nI (sb_cp q m)), .ref w, .ref b])
    refine lv_aload_n hx hb dJ5_ensureCapacityInternal_d00df_27 rfl (lv_at hl 1 rfl) ?_
    refine sb_get S hK hP 0 rfl 1 (by decide) fl_J5_22 rfl (v := .int 0) rfl dJ5_ensureCapacityInternal_d00df_28 ?_
    refine lv_ishl hx hb dJ5_ensureCapacityInternal_d00df_31 ?_
    rw [sb_shl0]
    have hS9 := hS
    have hb9 : q ≤ sb_cp q m ∧ m < sb_cp q m ∧ sb_cp q m ≤ 1002 := by unfold sb_cp sb_mx; split <;> omega
    refine sS S (c_J7_copyOf l g ad av w m f TX (sb_cp q m) (by omega) (by omega) hf) vs_J5_108 hK (hI.at hS (pq_Afree (pq_D2 hD) hS hA) (fun _ h => h)) (pq_P2 hP) (pq_D2 hD) hS hA rfl rfl hl.1 (Nat.le_of_ble_eq_true rfl) dJ5_ensureCapacityInternal_d00df_32 ⟨Nat.le_of_ble_eq_true rfl, Nat.le_of_ble_eq_true rfl⟩ ⟨Nat.le_of_ble_eq_true rfl, Nat.le_of_ble_eq_true rfl⟩ (fun r H2 locs hr hz2 hk2 hS => ?_)
    obtain ⟨z, f', rfl, hz9, hP2, hff, hf'⟩ := hr
    show W _ _ _ _ _ _ _ _ _ _ _ _ _ _ _ (F0 _ _ _ [.ref z, .ref b])
    have hzs : s.heap.size ≤ z := Nat.le_trans hS9.1 hz9
    have hP3 := va_P.app (pq_kp (pq_P1 hP) (pq_Dx hD) hk2) hP2
    have hD3 : va_D A ([(b, (.inr (8, [.ref w, .int 0, .int 0, .int (nI n)]) : va_E))] ++ ([(w, .inl (g.2 1, m, .inl f))] ++ [(z, .inl (g.2 1, sb_cp q m, .inl f'))])) := pz_Dn hP hD hS9 hz9 hA
    refine sb_putf S hK hP3 hD3 hS 0 rfl 0 (by decide) fl_J5_15 rfl (ty := .array .byte) rfl rfl rfl (Nat.le_of_ble_eq_true rfl) rfl dJ5_ensureCapacityInternal_d00df_35 (fun H3 locs hP4 hS => ?_)
    exact hend _ _ _ _ _ _ _ _ (sRet.v dJ5_ensureCapacityInternal_d00df_38) ⟨rfl, z, sb_cp q m, f', hP4.sub [0, 2] rfl, Or.inr hzs, hb9.1, Nat.le_of_lt hb9.2.1, hb9.2.2, hf', hff⟩ hS (Nat.le_of_ble_eq_true rfl) (Nat.le_of_ble_eq_true rfl)
