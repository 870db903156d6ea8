theorem pz_Dsb {D : va_G} {cl : List vw_C} {g : pq_g} {A : Nat → Prop} {b w m w' m' : Nat} {c c' : Int32} {f f' : Nat → Int32} {H0 H : Heap} {locs : List Loc} (hP : va_P D cl (sbW g b w m c f) H) (hD : va_D A (sbW g b w m c f)) (hS : va_S A H0 H locs) (hA : ∀ q : Nat, H0.size ≤ q → A q) (hw : w' = w ∨ H.size ≤ w') : va_D A (sbW g b w' m' c' f') := by
  rcases hw with rfl | hw
  · exact pq_adr hD rfl
  · exact pq_adr (pz_Dn (e := .inl (g.2 1, m', .inl f')) (pq_P1 hP) (pq_D1 hD) hS hw hA) rfl
theorem c_J0_coderT (l : Launch) (g : pq_g) (ad av : Nat → Nat) (t : List Nat) (b2 v2 : Nat) : sM l yJ0_coder_7d493 cJ0_coder_7d493 1 (some .byte) 1 0 0 g ad av [(t, b2, v2)] [] [.ref b2] (fun r _ _ => r = some (.int 0)) := c_J0_coder l g ad av t b2 v2
theorem pz_sub1 {t : List Nat} {b2 v2 : Nat} {TX : tx_L} : ∀ q ∈ [(t, b2, v2)], q ∈ (t, b2, v2) :: TX := fun q h => by rw [List.mem_singleton] at h; subst h; exact List.mem_cons_self
set_option maxHeartbeats 4000000 in
set_option maxRecDepth 100000 in
theorem c_J5_inflateIf (l : Launch) (g : pq_g) (ad av : Nat → Nat) (b w m n : Nat) (f : Nat → Int32) (t : List Nat) (b2 v2 : Nat) (TX : tx_L) : sM l yJ5_inflateIfNeededFor_a7421 cJ5_inflateIfNeededFor_a7421 2 none 2 0 0 g ad av ((t, b2, v2) :: TX) (sbW g b w m (nI n) f) [.ref b, .ref b2] (fun r _ H => r = none ∧ va_P g.1 pq_cl (sbW g b w m (nI n) f) H) := by
  refine sM.of (own := RJ5) (by decide) rfl (Nat.le_of_ble_eq_true rfl) rfl ?_
  intro p e s mi below meth c ls Q A S hin hP hK hD hS hA hAw hI hl hend
  obtain ⟨hx, hb, hml, hown, hts⟩ := id S
  have hT := hI.2.1 _ List.mem_cons_self
  refine s_gs S hI.1.2.2.1 hS fl_J5_18 dJ5_inflateIfNeededFor_a7421_0 ?_
  refine lv_if_eq (tgt := 21) hx hb dJ5_inflateIfNeededFor_a7421_3 (by decide) (fun h9 => absurd h9 (by decide)) (fun _ => ?_)
  refine lv_aload_n hx hb dJ5_inflateIfNeededFor_a7421_6 rfl (lv_at hl 0 rfl) ?_
  refine sb_get S hK hP 0 rfl 1 (by decide) fl_J5_22 rfl (v := .int 0) rfl dJ5_inflateIfNeededFor_a7421_7 ?_
  refine lv_aload_n hx hb dJ5_inflateIfNeededFor_a7421_10 rfl (lv_at hl 1 rfl) ?_
  refine sV S (c_J0_coder l g ad av t b2 v2) vv_J5_40 hK (hI.at hS (pq_Afree pq_D0 hS hA) pz_sub1) pq_P0 pq_D0 hS hA (hT.recv hS) rfl rfl hl.1 (Nat.le_of_ble_eq_true rfl) dJ5_inflateIfNeededFor_a7421_11 ⟨Nat.le_of_ble_eq_true rfl, Nat.le_of_ble_eq_true rfl⟩ ⟨Nat.le_of_ble_eq_true rfl, Nat.le_of_ble_eq_true rfl⟩ (fun r H1 locs1 hr hz hk hS => ?_)
  subst hr
  replace hP := pq_kp0 hP hk
  show W _ _ _ _ _ _ _ _ _ _ _ _ _ _ _ (F0 _ _ _ [.int 0, .int 0])
  refine lv_icmp_eq (tgt := 21) hx hb dJ5_inflateIfNeededFor_a7421_14 (by decide) (fun _ => ?_) (fun h9 => absurd rfl h9)
  exact hend _ _ _ _ _ _ _ _ (sRet.v dJ5_inflateIfNeededFor_a7421_21) ⟨rfl, hP⟩ hS (Nat.le_of_ble_eq_true rfl) (Nat.le_of_ble_eq_true rfl)
theorem tx_fit {t : List Nat} (h : ∀ c ∈ t, c < 128) : sb_Fit (fun j => nI (t.getD j 0)) := by
  intro j
  have h1 : t.getD j 0 < 128 := by
    rw [List.getD_eq_getElem?_getD]
    cases h2 : t[j]? with
    | none => decide
    | some c => exact h c (List.mem_of_getElem? h2)
  exact (show ∀ x, x < 128 → fits .byte (.int (nI x)) = true by decide +kernel) _ h1
set_option maxHeartbeats 4000000 in
set_option maxRecDepth 100000 in
theorem c_J0_getBytes (l : Launch) (g : pq_g) (ad av : Nat → Nat) (w m : Nat) (f : Nat → Int32) (t : List Nat) (b2 v2 : Nat) (TX : tx_L) (i : Nat) (hi : i + t.length ≤ m) (hm : m ≤ 1002) (hf : sb_Fit f) (ht : ∀ c ∈ t, c < 128) : sM l yJ0_getBytes_840e7 cJ0_getBytes_840e7 4 none 2 0 0 g ad av ((t, b2, v2) :: TX) [(w, .inl (g.2 1, m, .inl f))] [.ref b2, .ref w, .int (nI i), .int 0] (fun r _ H => r = none ∧ ∃ f' : Nat → Int32, va_P g.1 pq_cl [(w, .inl (g.2 1, m, .inl f'))] H ∧ sb_Fit f' ∧ (∀ j, j < i → f' j = f j) ∧ ∀ j, j < t.length → f' (i + j) = nI (t.getD j 0)) := by
  refine sM.of (own := RJ0) (by decide) rfl (Nat.le_of_ble_eq_true rfl) rfl ?_
  intro p e s mi below meth c ls Q A S hin hP hK hD hS hA hAw hI hl hend
  obtain ⟨hx, hb, hml, hown, hts⟩ := id S
  have hT := hI.2.1 _ List.mem_cons_self
  obtain ⟨h1, h2, h3, h4⟩ := id hT
  refine lv_aload_n hx hb dJ0_getBytes_840e7_0 rfl (lv_at hl 0 rfl) ?_
  refine sV S (c_J0_coder l g ad av t b2 v2) vv_J0_335 hK (hI.at hS (pq_Afree pq_D0 hS hA) pz_sub1) pq_P0 pq_D0 hS hA (hT.recv hS) rfl rfl hl.1 (Nat.le_of_ble_eq_true rfl) dJ0_getBytes_840e7_1 ⟨Nat.le_of_ble_eq_true rfl, Nat.le_of_ble_eq_true rfl⟩ ⟨Nat.le_of_ble_eq_true rfl, Nat.le_of_ble_eq_true rfl⟩ (fun r H1 locs1 hr hz hk hS => ?_)
  subst hr
  replace hP := pq_kp0 hP hk
  show W _ _ _ _ _ _ _ _ _ _ _ _ _ _ _ (F0 _ _ _ [.int 0])
  refine lv_iload_n hx hb dJ0_getBytes_840e7_4 rfl (lv_at hl 3 rfl) ?_
  refine lv_icmp_ne (tgt := 28) hx hb dJ0_getBytes_840e7_5 (by decide) (fun h9 => absurd rfl h9) (fun _ => ?_)
  refine lv_aload_n hx hb dJ0_getBytes_840e7_8 rfl (lv_at hl 0 rfl) ?_
  refine s_gf S h3 hS fl_J0_9 dJ0_getBytes_840e7_9 ?_
  refine lv_iconst (v := 0) hx hb dJ0_getBytes_840e7_12 (by decide) ?_
  refine lv_aload_n hx hb dJ0_getBytes_840e7_13 rfl (lv_at hl 1 rfl) ?_
  refine lv_iload_n hx hb dJ0_getBytes_840e7_14 rfl (lv_at hl 2 rfl) ?_
  refine lv_iload_n hx hb dJ0_getBytes_840e7_15 rfl (lv_at hl 3 rfl) ?_
  refine lv_ishl hx hb dJ0_getBytes_840e7_16 ?_
  rw [sb_shl0]
  refine lv_aload_n hx hb dJ0_getBytes_840e7_17 rfl (lv_at hl 0 rfl) ?_
  refine s_gf S h3 hS fl_J0_9 dJ0_getBytes_840e7_18 ?_
  refine va_tlen (v := nI t.length) hx hb h4 hS rfl dJ0_getBytes_840e7_21 ?_
  refine vk_copyt hx hb (S.2.2.1.trans hl.1.symm) hown (hts _ va_J0_212) (hts _ va_cp.1) (hts _ va_cp.2.1) (hts _ va_cp.2.2) hK.1 hP hD hS h4 0 1 rfl rfl (by decide) (nI_pos (by omega)) (nI_pos (by omega)) (by rw [nI_clamp (n := t.length) (by omega), sb_cl0]; show _ ≤ t.length; omega) (by rw [nI_clamp (n := t.length) (by omega), nI_clamp (n := i) (by omega)]; omega) (fun j _ => tx_fit ht _) (by decide) (Nat.le_of_ble_eq_true rfl) dJ0_getBytes_840e7_22 (fun H1 locs hP _ hS => ?_)
  rw [nI_clamp (n := t.length) (by omega), nI_clamp (n := i) (by omega), sb_cl0] at hP
  refine lv_goto (tgt := 43) hx hb dJ0_getBytes_840e7_25 (by decide) ?_
  exact hend _ _ _ _ _ _ _ _ (sRet.v dJ0_getBytes_840e7_43) ⟨rfl, _, hP, sb_fitC (tx_fit ht) hf, fun j hj => pk_cpy_out (Or.inl hj), fun j hj => by rw [pk_cpy_in (by omega) (by omega), show 0 + (i + j - i) = j by omega]⟩ hS (Nat.le_of_ble_eq_true rfl) (Nat.le_of_ble_eq_true rfl)
set_option maxHeartbeats 4000000 in
set_option maxRecDepth 100000 in
theorem c_J5_putStringAt (l : Launch) (g : pq_g) (ad av : Nat → Nat) (b w m n : Nat) (f : Nat → Int32) (t : List Nat) (b2 v2 : Nat) (TX : tx_L) (i : Nat) (hi : i + t.length ≤ m) (hm : m ≤ 1002) (hf : sb_Fit f) (ht : ∀ c ∈ t, c < 128) : sM l yJ5_putStringAt_47b60 cJ5_putStringAt_47b60 3 none 3 0 0 g ad av ((t, b2, v2) :: TX) (sbW g b w m (nI n) f) [.ref b, .int (nI i), .ref b2] (fun r _ H => r = none ∧ ∃ f' : Nat → Int32, va_P g.1 pq_cl (sbW g b w m (nI n) f') H ∧ sb_Fit f' ∧ (∀ j, j < i → f' j = f j) ∧ ∀ j, j < t.length → f' (i + j) = nI (t.getD j 0)) := by
  refine sM.of (own := RJ5) (by decide) rfl (Nat.le_of_ble_eq_true rfl) rfl ?_
  intro p e s mi below meth c ls Q A S hin hP hK hD hS hA hAw hI hl hend
  obtain ⟨hx, hb, hml, hown, hts⟩ := id S
  have hT := hI.2.1 _ List.mem_cons_self
  refine lv_aload_n hx hb dJ5_putStringAt_47b60_0 rfl (lv_at hl 0 rfl) ?_
  refine lv_aload_n hx hb dJ5_putStringAt_47b60_1 rfl (lv_at hl 2 rfl) ?_
  refine sP S (c_J5_inflateIf l g ad av b w m n f t b2 v2 TX) vp_J5_397 (hI.pm (List.mem_of_getElem? (i := 3) rfl)) hK (hI.at hS (pq_Afree hD hS hA) (fun _ h => h)) hP hD hS hA (va_recv hK.1 hP (ci := 8) rfl (q0 := 0) rfl) rfl rfl hl.1 (Nat.le_of_ble_eq_true rfl) dJ5_putStringAt_47b60_2 ⟨Nat.le_of_ble_eq_true rfl, Nat.le_of_ble_eq_true rfl⟩ ⟨Nat.le_of_ble_eq_true rfl, Nat.le_of_ble_eq_true rfl⟩ (fun r H1 locs1 hr hz hk hS => ?_)
  obtain ⟨rfl, hP⟩ := hr
  show W _ _ _ _ _ _ _ _ _ _ _ _ _ _ _ (F0 _ _ _ [])
  refine lv_aload_n hx hb dJ5_putStringAt_47b60_5 rfl (lv_at hl 2 rfl) ?_
  refine lv_aload_n hx hb dJ5_putStringAt_47b60_6 rfl (lv_at hl 0 rfl) ?_
  refine sb_get S hK hP 0 rfl 0 (by decide) fl_J5_15 rfl (v := .ref w) rfl dJ5_putStringAt_47b60_7 ?_
  refine lv_iload_n hx hb dJ5_putStringAt_47b60_10 rfl (lv_at hl 1 rfl) ?_
  refine lv_aload_n hx hb dJ5_putStringAt_47b60_11 rfl (lv_at hl 0 rfl) ?_
  refine sb_get S hK hP 0 rfl 1 (by decide) fl_J5_22 rfl (v := .int 0) rfl dJ5_putStringAt_47b60_12 ?_
  refine sV S (c_J0_getBytes l g ad av w m f t b2 v2 TX i hi hm hf ht) vv_J5_399 hK (hI.at hS (pq_Afree (pq_D2 hD) hS hA) (fun _ h => h)) (pq_P2 hP) (pq_D2 hD) hS hA (hT.recv hS) rfl rfl hl.1 (Nat.le_of_ble_eq_true rfl) dJ5_putStringAt_47b60_15 ⟨Nat.le_of_ble_eq_true rfl, Nat.le_of_ble_eq_true rfl⟩ ⟨Nat.le_of_ble_eq_true rfl, Nat.le_of_ble_eq_true rfl⟩ (fun r H2 locs2 hr hz hk hS => ?_)
  obtain ⟨rfl, f', hP2, hf', g1, g2⟩ := hr
  show W _ _ _ _ _ _ _ _ _ _ _ _ _ _ _ (F0 _ _ _ [])
  exact hend _ _ _ _ _ _ _ _ (sRet.v dJ5_putStringAt_47b60_18) ⟨rfl, f', va_P.app (pq_kp (pq_P1 hP) (pq_Dx hD) hk) hP2, hf', g1, g2⟩ hS (Nat.le_of_ble_eq_true rfl) (Nat.le_of_ble_eq_true rfl)
/-- a builder holds the text t -/
def sb_T (t : List Nat) (f : Nat → Int32) : Prop := ∀ j, j < t.length → f j = nI (t.getD j 0)
theorem sb_T.cat {t s : List Nat} {f f1 f' : Nat → Int32} {m : Nat} (h : sb_T t f) (hm : t.length ≤ m) (h1 : ∀ j, j < m → f1 j = f j) (h2 : ∀ j, j < t.length → f' j = f1 j) (h3 : ∀ j, j < s.length → f' (t.length + j) = nI (s.getD j 0)) : sb_T (t ++ s) f' := by
  intro j hj
  rw [List.length_append] at hj
  rw [List.getD_eq_getElem?_getD]
  rcases Nat.lt_or_ge j t.length with q | q
  · rw [List.getElem?_append_left q, h2 j q, h1 j (by omega), h j q, List.getD_eq_getElem?_getD]
  · rw [List.getElem?_append_right q, show j = t.length + (j - t.length) by omega, h3 (j - t.length) (by omega), List.getD_eq_getElem?_getD, show t.length + (j - t.length) - t.length = j - t.length by omega]
set_option maxHeartbeats 4000000 in
set_option maxRecDepth 100000 in
theorem c_J5_appendS (l : Launch) (g : pq_g) (ad av : Nat → Nat) (b w m : Nat) (f : Nat → Int32) (x : List Nat) (t : List Nat) (b2 v2 : Nat) (TX : tx_L) (hxm : x.length ≤ m) (hm : m ≤ 1002) (hlen : (x ++ t).length ≤ 500) (hf : sb_Fit f) (hx9 : sb_T x f) (ht : ∀ c ∈ t, c < 128) : sM l yJ5_append_cf1ce cJ5_append_cf1ce 3 (some (.object "java/lang/AbstractStringBuilder")) 5 1 2000 g ad av ((t, b2, v2) :: TX) (sbW g b w m (nI x.length) f) [.ref b, .ref b2] (fun r sz H => ∃ (w' m' : Nat) (f' : Nat → Int32), r = some (.ref b) ∧ va_P g.1 pq_cl (sbW g b w' m' (nI (x ++ t).length) f') H ∧ (w' = w ∨ sz ≤ w') ∧ (x ++ t).length ≤ m' ∧ m' ≤ 1002 ∧ sb_Fit f' ∧ sb_T (x ++ t) f') := by
  refine sM.of (own := RJ5) (by decide) rfl (Nat.le_of_ble_eq_true rfl) rfl ?_
  intro p e s mi below meth c ls Q A S hin hP hK hD hS hA hAw hI hl hend
  obtain ⟨hx, hb, hml, hown, hts⟩ := id S
  have hT := hI.2.1 _ List.mem_cons_self
  have hlen9 := hlen
  rw [List.length_append] at hlen9
  refine lv_aload_n hx hb dJ5_append_cf1ce_0 rfl (lv_at hl 1 rfl) ?_
  refine lv_ifnonnull (tgt := 9) hx hb dJ5_append_cf1ce_1 (by decide) ?_
  refine lv_aload_n hx hb dJ5_append_cf1ce_9 rfl (lv_at hl 1 rfl) ?_
  refine sV S (c_J0_length l g ad av t b2 v2 (by omega)) vv_J5_32 hK (hI.at hS (pq_Afree pq_D0 hS hA) pz_sub1) pq_P0 pq_D0 hS hA (hT.recv hS) rfl rfl hl.1 (Nat.le_of_ble_eq_true rfl) dJ5_append_cf1ce_10 ⟨Nat.le_of_ble_eq_true rfl, Nat.le_of_ble_eq_true rfl⟩ ⟨Nat.le_of_ble_eq_true rfl, Nat.le_of_ble_eq_true rfl⟩ (fun r H1 locs1 hr hz hk hS => ?_)
  subst hr
  replace hP := pq_kp0 hP hk
  show W _ _ _ _ _ _ _ _ _ _ _ _ _ _ _ (F0 _ _ _ [.int (nI t.length)])
  refine lv_istore_n (lv' := [(2, .int (nI t.length)), (0, .ref b), (1, .ref b2)]) hx hb dJ5_append_cf1ce_13 rfl hl (by decide) rfl (fun ls hl => ?_)
  refine lv_aload_n hx hb dJ5_append_cf1ce_14 rfl (lv_at hl 1 rfl) ?_
  refine lv_aload_n hx hb dJ5_append_cf1ce_15 rfl (lv_at hl 1 rfl) ?_
  refine sb_get S hK hP 0 rfl 3 (by decide) fl_J5_79 rfl (v := .int (nI x.length)) rfl dJ5_append_cf1ce_16 ?_
  refine lv_iload_n hx hb dJ5_append_cf1ce_19 rfl (lv_at hl 0 rfl) ?_
  refine lv_iadd hx hb dJ5_append_cf1ce_20 ?_
  rw [nI_add]
  have hS8 := hS
  refine sP S (c_J5_ensure l g ad av b w m x.length f ((t, b2, v2) :: TX) (x.length + t.length) hm (by omega) hf) vp_J5_100 (hI.pm List.mem_cons_self) hK (hI.at hS (pq_Afree hD hS hA) (fun _ h => h)) hP hD hS hA (va_recv hK.1 hP (ci := 8) rfl (q0 := 0) rfl) rfl rfl hl.1 (Nat.le_of_ble_eq_true rfl) dJ5_append_cf1ce_21 ⟨Nat.le_of_ble_eq_true rfl, Nat.le_of_ble_eq_true rfl⟩ ⟨Nat.le_of_ble_eq_true rfl, Nat.le_of_ble_eq_true rfl⟩ (fun r H2 locs2 hr hz2 hk2 hS => ?_)
  obtain ⟨rfl, w', m', f', hP2, hw, hq1, hq2, hq3, hf', hff⟩ := hr
  show W _ _ _ _ _ _ _ _ _ _ _ _ _ _ _ (F0 _ _ _ [])
  have hD2 : va_D A (sbW g b w' m' (nI x.length) f') := pz_Dsb hP hD hS8 hA hw
  replace hP := hP2
  replace hD := hD2
  clear hP2 hD2
  refine lv_aload_n hx hb dJ5_append_cf1ce_24 rfl (lv_at hl 1 rfl) ?_
  refine lv_aload_n hx hb dJ5_append_cf1ce_25 rfl (lv_at hl 1 rfl) ?_
  refine sb_get S hK hP 0 rfl 3 (by decide) fl_J5_79 rfl (v := .int (nI x.length)) rfl dJ5_append_cf1ce_26 ?_
  refine lv_aload_n hx hb dJ5_append_cf1ce_29 rfl (lv_at hl 2 rfl) ?_
  refine sP S (c_J5_putStringAt l g ad av b w' m' x.length f' t b2 v2 TX x.length hq1 hq3 hf' ht) vp_J5_208 (hI.pm (List.mem_of_getElem? (i := 2) rfl)) hK (hI.at hS (pq_Afree hD hS hA) (fun _ h => h)) hP hD hS hA (va_recv hK.1 hP (ci := 8) rfl (q0 := 0) rfl) rfl rfl hl.1 (Nat.le_of_ble_eq_true rfl) dJ5_append_cf1ce_30 ⟨Nat.le_of_ble_eq_true rfl, Nat.le_of_ble_eq_true rfl⟩ ⟨Nat.le_of_ble_eq_true rfl, Nat.le_of_ble_eq_true rfl⟩ (fun r H3 locs3 hr hz3 hk3 hS => ?_)
  obtain ⟨rfl, f2, hP3, hf2, g1, g2⟩ := hr
  show W _ _ _ _ _ _ _ _ _ _ _ _ _ _ _ (F0 _ _ _ [])
  replace hP := hP3
  replace hD : va_D A (sbW g b w' m' (nI x.length) f2) := pq_adr hD rfl
  clear hP3
  refine lv_aload_n hx hb dJ5_append_cf1ce_33 rfl (lv_at hl 1 rfl) ?_
  refine lv_dup hx hb dJ5_append_cf1ce_34 rfl ?_
  refine sb_get S hK hP 0 rfl 3 (by decide) fl_J5_79 rfl (v := .int (nI x.length)) rfl dJ5_append_cf1ce_35 ?_
  refine lv_iload_n hx hb dJ5_append_cf1ce_38 rfl (lv_at hl 0 rfl) ?_
  refine lv_iadd hx hb dJ5_append_cf1ce_39 ?_
  rw [nI_add]
  refine sb_putf S hK hP hD hS 0 rfl 3 (by decide) fl_J5_79 rfl (ty := .int) rfl rfl rfl (Nat.le_of_ble_eq_true rfl) rfl dJ5_append_cf1ce_40 (fun H4 locs4 hP4 hS => ?_)
  refine lv_aload_n hx hb dJ5_append_cf1ce_43 rfl (lv_at hl 1 rfl) ?_
  have hw9 : w' = w ∨ s.heap.size ≤ w' := hw.imp id (fun h => Nat.le_trans hS8.1 h)
  exact hend _ _ _ _ _ _ _ _ (sRet.o dJ5_append_cf1ce_44) ⟨w', m', f2, rfl, by rw [List.length_append]; exact hP4, hw9, by rw [List.length_append]; exact hq1, hq3, hf2, hx9.cat hxm hff g1 g2⟩ hS (Nat.le_of_ble_eq_true rfl) (Nat.le_of_ble_eq_true rfl)
set_option maxHeartbeats 4000000 in
set_option maxRecDepth 100000 in
theorem c_J4_appendS (l : Launch) (g : pq_g) (ad av : Nat → Nat) (b w m : Nat) (f : Nat → Int32) (x : List Nat) (t : List Nat) (b2 v2 : Nat) (TX : tx_L) (hxm : x.length ≤ m) (hm : m ≤ 1002) (hlen : (x ++ t).length ≤ 500) (hf : sb_Fit f) (hx9 : sb_T x f) (ht : ∀ c ∈ t, c < 128) : sM l yJ4_append_15ec4 cJ4_append_15ec4 2 (some (.object "java/lang/StringBuilder")) 6 1 2000 g ad av ((t, b2, v2) :: TX) (sbW g b w m (nI x.length) f) [.ref b, .ref b2] (fun r sz H => ∃ (w' m' : Nat) (f' : Nat → Int32), r = some (.ref b) ∧ va_P g.1 pq_cl (sbW g b w' m' (nI (x ++ t).length) f') H ∧ (w' = w ∨ sz ≤ w') ∧ (x ++ t).length ≤ m' ∧ m' ≤ 1002 ∧ sb_Fit f' ∧ sb_T (x ++ t) f') := by
  refine sM.of (own := RJ4) (by decide) rfl (Nat.le_of_ble_eq_true rfl) rfl ?_
  intro p e s mi below meth c ls Q A S hin hP hK hD hS hA hAw hI hl hend
  obtain ⟨hx, hb, hml, hown, hts⟩ := id S
  refine lv_aload_n hx hb dJ4_append_15ec4_0 rfl (lv_at hl 0 rfl) ?_
  refine lv_aload_n hx hb dJ4_append_15ec4_1 rfl (lv_at hl 1 rfl) ?_
  refine sU S (hK.1.1 8 _ rfl).2 (c_J5_appendS l g ad av b w m f x t b2 v2 TX hxm hm hlen hf hx9 ht) vu_J4_29 hK (hI.at hS (pq_Afree hD hS hA) (fun _ h => h)) hP hD hS hA (va_recv hK.1 hP (ci := 8) rfl (q0 := 0) rfl) rfl rfl hl.1 (Nat.le_of_ble_eq_true rfl) dJ4_append_15ec4_2 ⟨Nat.le_of_ble_eq_true rfl, Nat.le_of_ble_eq_true rfl⟩ ⟨Nat.le_of_ble_eq_true rfl, Nat.le_of_ble_eq_true rfl⟩ (fun r H1 locs1 hr hz hk hS => ?_)
  obtain ⟨w', m', f', rfl, h2, h3, h4, h5, h6, h7⟩ := hr
  show W _ _ _ _ _ _ _ _ _ _ _ _ _ _ _ (F0 _ _ _ [.ref b])
  refine lv_pop hx hb dJ4_append_15ec4_5 rfl ?_
  refine lv_aload_n hx hb dJ4_append_15ec4_6 rfl (lv_at hl 0 rfl) ?_
  exact hend _ _ _ _ _ _ _ _ (sRet.o dJ4_append_15ec4_7) ⟨w', m', f', rfl, h2, h3, h4, h5, h6, h7⟩ hS (Nat.le_of_ble_eq_true rfl) (Nat.le_of_ble_eq_true rfl)
