def f_X3_clear (T : OutS) : Option (OutS) :=
    some (T.1, 0)
set_option maxHeartbeats 4000000 in
set_option maxRecDepth 100000 in
theorem c_X3_clear (l : Launch) (g : pq_g) (a : Nat → Nat) (T : OutS) (T1 : OutS) (hf : f_X3_clear T = some T1) : pq_Mv l yX3_clear cX3_clear 1 1 g (outW g a T) [.ref (a 0)] (outW g a T1) := by
  rw [f_X3_clear] at hf
  refine pq_Mv.of (own := RX3) (by decide) rfl (Nat.le_of_ble_eq_true rfl) rfl ?_
  intro p e s m below meth c ls Q A S hP hK hD hS hA hl hend
  obtain ⟨hx, hb, hml, hown, hts⟩ := id S
  refine lv_aload_n hx hb dX3_clear_0 rfl (lv_at hl 0 rfl) ?_
  refine lv_iconst (v := 0) hx hb dX3_clear_1 (by decide) ?_
  refine pq_putf S hK hP hD hS inX3 tyX3_ok nmX3 0 rfl rfl 1 (by decide) fl_X3_15 rfl rfl (ty := .int) rfl rfl rfl (Nat.le_of_ble_eq_true rfl) dX3_clear_2 (fun H locs hP hS => ?_)
  replace hP : va_P g.1 pq_cl (outW g a (T.1, 0)) H := hP
  replace hD : va_D A (outW g a (T.1, 0)) := pq_adr hD (ad_X3 _ _)
  exact hend _ _ _ _ dX3_clear_5 (by rw [← Option.some.inj hf]; exact hP) hS
def f_X3_characterAt (T : OutS) (p1 : Int32) : Option (Int32) :=
    some (pq_rd 168 T.1 p1)
set_option maxHeartbeats 4000000 in
set_option maxRecDepth 100000 in
theorem c_X3_characterAt (l : Launch) (g : pq_g) (a : Nat → Nat) (T : OutS) (p1 : Int32) (r : Int32) (hf : f_X3_characterAt T p1 = some r) : pq_R l yX3_characterAt cX3_characterAt 2 .int 2 g (outW g a T) [.ref (a 0), .int p1] r := by
  rw [f_X3_characterAt] at hf
  refine pq_R.of (own := RX3) (by decide) rfl (Nat.le_of_ble_eq_true rfl) rfl ?_
  intro p e s m below meth c ls Q S hP hK hl hend
  obtain ⟨hx, hb, hml, hown, hts⟩ := id S
  refine lv_aload_n hx hb dX3_characterAt_0 rfl (lv_at hl 0 rfl) ?_
  refine pq_get S hK hP inX3 0 rfl rfl 0 (by decide) fl_X3_9 rfl (v := .ref (a 1)) rfl dX3_characterAt_1 ?_
  refine lv_iload_n hx hb dX3_characterAt_4 rfl (lv_at hl 1 rfl) ?_
  refine pq_at S vn_X3_19 hK hP 1 rfl (by decide) hl.1 (Nat.le_of_ble_eq_true rfl) dX3_characterAt_5 (by decide) ⟨Nat.le_refl _, Nat.le_refl _⟩ ?_
  exact hend _ _ _ dX3_characterAt_8 rfl hf
def f_X3_write (T : OutS) (p1 : Int32) : Option (OutS) :=
    if 168 ≤ T.2 then
      some T
    else
      some ((pq_wr 168 T.1 T.2 p1), (T.2 + 1))
set_option maxHeartbeats 4000000 in
set_option maxRecDepth 100000 in
theorem c_X3_write (l : Launch) (g : pq_g) (a : Nat → Nat) (T : OutS) (p1 : Int32) (T1 : OutS) (hf : f_X3_write T p1 = some T1) : pq_Mv l yX3_write cX3_write 2 2 g (outW g a T) [.ref (a 0), .int p1] (outW g a T1) := by
  rw [f_X3_write] at hf
  refine pq_Mv.of (own := RX3) (by decide) rfl (Nat.le_of_ble_eq_true rfl) rfl ?_
  intro p e s m below meth c ls Q A S hP hK hD hS hA hl hend
  obtain ⟨hx, hb, hml, hown, hts⟩ := id S
  refine lv_aload_n hx hb dX3_write_0 rfl (lv_at hl 0 rfl) ?_
  refine pq_get S hK hP inX3 0 rfl rfl 1 (by decide) fl_X3_15 rfl (v := .int T.2) rfl dX3_write_1 ?_
  refine lv_sipush (v := 168) hx hb dX3_write_4 (by decide) ?_
  refine lv_icmp_ge (tgt := 32) hx hb dX3_write_7 (by decide) (fun h1 => ?_) (fun h1 => ?_)
  · replace hf := pq_ifp h1 hf
    exact hend _ _ _ _ dX3_write_32 (by rw [← Option.some.inj hf]; exact hP) hS
  · replace hf := pq_ifn h1 hf
    refine lv_aload_n hx hb dX3_write_10 rfl (lv_at hl 0 rfl) ?_
    refine pq_get S hK hP inX3 0 rfl rfl 0 (by decide) fl_X3_9 rfl (v := .ref (a 1)) rfl dX3_write_11 ?_
    refine lv_aload_n hx hb dX3_write_14 rfl (lv_at hl 0 rfl) ?_
    refine pq_get S hK hP inX3 0 rfl rfl 1 (by decide) fl_X3_15 rfl (v := .int T.2) rfl dX3_write_15 ?_
    refine lv_iload_n hx hb dX3_write_18 rfl (lv_at hl 1 rfl) ?_
    refine pq_put S vn_X3_23 hK hP hD hS hA 1 rfl (by decide) hl.1 (Nat.le_of_ble_eq_true rfl) dX3_write_19 (by decide) ⟨Nat.le_refl _, Nat.le_refl _⟩ (fun H locs hP hS => ?_)
    replace hP : va_P g.1 pq_cl (outW g a ((pq_wr 168 T.1 T.2 p1), T.2)) H := hP
    replace hD : va_D A (outW g a ((pq_wr 168 T.1 T.2 p1), T.2)) := pq_adr hD (ad_X3 _ _)
    refine lv_aload_n hx hb dX3_write_22 rfl (lv_at hl 0 rfl) ?_
    refine lv_dup hx hb dX3_write_23 rfl ?_
    refine pq_get S hK hP inX3 0 rfl rfl 1 (by decide) fl_X3_15 rfl (v := .int T.2) rfl dX3_write_24 ?_
    refine lv_iconst (v := 1) hx hb dX3_write_27 (by decide) ?_
    refine lv_iadd hx hb dX3_write_28 ?_
    refine pq_putf S hK hP hD hS inX3 tyX3_ok nmX3 0 rfl rfl 1 (by decide) fl_X3_15 rfl rfl (ty := .int) rfl rfl rfl (Nat.le_of_ble_eq_true rfl) dX3_write_29 (fun H locs hP hS => ?_)
    replace hP : va_P g.1 pq_cl (outW g a ((pq_wr 168 T.1 T.2 p1), (T.2 + 1))) H := hP
    replace hD : va_D A (outW g a ((pq_wr 168 T.1 T.2 p1), (T.2 + 1))) := pq_adr hD (ad_X3 _ _)
    exact hend _ _ _ _ dX3_write_32 (by rw [← Option.some.inj hf]; exact hP) hS
def f_X3_writeNumber_c17 (T : OutS) (v1 : Int32) : Option (OutS) :=
    (f_X3_write T (48 + (v1 - v1 / 10 * 10))).bind fun q2 =>
    some q2
def f_X3_writeNumber (T : OutS) (p1 : Int32) : Option (OutS) :=
    if p1 < 10 then
      f_X3_writeNumber_c17 T p1
    else
      (f_X3_write T (48 + (p1 / 10))).bind fun q5 =>
      f_X3_writeNumber_c17 q5 p1
set_option maxHeartbeats 4000000 in
set_option maxRecDepth 100000 in
theorem c_X3_writeNumber (l : Launch) (g : pq_g) (a : Nat → Nat) (T : OutS) (p1 : Int32) (T1 : OutS) (hf : f_X3_writeNumber T p1 = some T1) : pq_Mv l yX3_writeNumber cX3_writeNumber 2 3 g (outW g a T) [.ref (a 0), .int p1] (outW g a T1) := by
  rw [f_X3_writeNumber] at hf
  refine pq_Mv.of (own := RX3) (by decide) rfl (Nat.le_of_ble_eq_true rfl) rfl ?_
  intro p e s m below meth c ls Q A S hP hK hD hS hA hl hend
  obtain ⟨hx, hb, hml, hown, hts⟩ := id S
  have B17 : ∀ (T : OutS) (v1 : Int32) (ls : Array Slot) (H : Heap) (locs : List Loc), va_P g.1 pq_cl (outW g a T) H → va_D A (outW g a T) → va_S A s.heap H locs → lv_has ls 2 [(0, .ref (a 0)), (1, .int v1)] → f_X3_writeNumber_c17 T v1 = some T1 → W p l e (pq_rm 3 0 0) s m ([.ref (a 0), .int p1] : List Value).toArray below meth c H locs 0 0 Q (F0 m 17 ls []) := by
    intro T v1 ls H locs hP hD hS hl hf
    rw [f_X3_writeNumber_c17] at hf
    refine lv_aload_n hx hb dX3_writeNumber_17 rfl (lv_at hl 0 rfl) ?_
    refine lv_bipush (v := 48) hx hb dX3_writeNumber_18 (by decide) ?_
    refine lv_iload_n hx hb dX3_writeNumber_20 rfl (lv_at hl 1 rfl) ?_
    refine lv_bipush (v := 10) hx hb dX3_writeNumber_21 (by decide) ?_
    refine lv_irem hx hb dX3_writeNumber_23 (by decide) ?_
    refine lv_iadd hx hb dX3_writeNumber_24 ?_
    obtain ⟨q2, e1, hf⟩ := pq_bind hf
    refine pq_cVv S (c_X3_write l g a T (48 + (v1 - v1 / 10 * 10)) q2 e1) vv_X3_27 hK hP hD hS hA rfl rfl rfl rfl rfl hl.1 (Nat.le_of_ble_eq_true rfl) dX3_writeNumber_25 (by decide) (by decide) ⟨Nat.le_refl _, Nat.le_refl _⟩ (fun H9 locs hk hP1 hS => ?_)
    replace hP := hP1
    replace hP : va_P g.1 pq_cl (outW g a q2) H9 := hP
    replace hD : va_D A (outW g a q2) := pq_adr hD (ad_X3 _ _)
    clear hk
    generalize H9 = H at hP hS ⊢
    exact hend _ _ _ _ dX3_writeNumber_28 (by rw [← Option.some.inj hf]; exact hP) hS
  refine lv_iload_n hx hb dX3_writeNumber_0 rfl (lv_at hl 1 rfl) ?_
  refine lv_bipush (v := 10) hx hb dX3_writeNumber_1 (by decide) ?_
  refine lv_icmp_lt (tgt := 17) hx hb dX3_writeNumber_3 (by decide) (fun h3 => ?_) (fun h3 => ?_)
  · replace hf := pq_ifp h3 hf
    exact B17 T p1 ls _ _ hP hD hS (lv_sub hl [0, 1] rfl) hf
  · replace hf := pq_ifn h3 hf
    refine lv_aload_n hx hb dX3_writeNumber_6 rfl (lv_at hl 0 rfl) ?_
    refine lv_bipush (v := 48) hx hb dX3_writeNumber_7 (by decide) ?_
    refine lv_iload_n hx hb dX3_writeNumber_9 rfl (lv_at hl 1 rfl) ?_
    refine lv_bipush (v := 10) hx hb dX3_writeNumber_10 (by decide) ?_
    refine lv_idiv hx hb dX3_writeNumber_12 (by decide) ?_
    refine lv_iadd hx hb dX3_writeNumber_13 ?_
    obtain ⟨q5, e4, hf⟩ := pq_bind hf
    refine pq_cVv S (c_X3_write l g a T (48 + (p1 / 10)) q5 e4) vv_X3_27 hK hP hD hS hA rfl rfl rfl rfl rfl hl.1 (Nat.le_of_ble_eq_true rfl) dX3_writeNumber_14 (by decide) (by decide) ⟨Nat.le_refl _, Nat.le_refl _⟩ (fun H9 locs hk hP1 hS => ?_)
    replace hP := hP1
    replace hP : va_P g.1 pq_cl (outW g a q5) H9 := hP
    replace hD : va_D A (outW g a q5) := pq_adr hD (ad_X3 _ _)
    clear hk
    generalize H9 = H at hP hS ⊢
    exact B17 q5 p1 ls _ _ hP hD hS (lv_sub hl [0, 1] rfl) hf
