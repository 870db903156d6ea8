def f_X3_clear (T : OutS) : Option (OutS) :=
    some (T.1, 0)
set_option maxHeartbeats 4000000 in
set_option maxRecDepth 100000 in
theorem c_X3_clear (l : Launch) (g : pq_g) (a : Nat → Nat) (T : OutS) (T1 : OutS) (hf : f_X3_clear T = some T1) : pq_Mv l yX3_clear cX3_clear 1 1 g (outW g a T) [.ref (a 0)] (outW g a T1) := by
  rw [f_X3_clear] at hf
  refine pq_Mv.of (own := RX3) (by decide) rfl (Nat.le_of_ble_eq_true rfl) rfl ?_
  intro p e s m below meth c ls Q A S hP hK hD hS hA hl hend
  obtain ⟨hx, hb, hml, hown, hts⟩ := id S
  refine lv_aload_n hx hb dX3_clear_0 rfl (lv_at hl 0 rfl) ?_
  refine lv_iconst (v := 0) hx hb dX3_clear_1 (by decide) ?_
  refine pq_putf S hK hP hD hS inX3 tyX3_ok nmX3 0 rfl rfl 1 (by decide) fl_X3_15 rfl rfl (ty := .int) rfl rfl rfl (Nat.le_of_ble_eq_true rfl) dX3_clear_2 (fun H locs hP hS => ?_)
  replace hP : va_P g.1 pq_cl (outW g a (T.1, 0)) H := hP
  replace hD : va_D A (outW g a (T.1, 0)) := pq_adr hD (ad_X3 _ _)
  exact hend _ _ _ _ dX3_clear_5 (by rw [← Option.some.inj hf]; exact hP) hS
def f_X3_characterAt (T : OutS) (p1 : Int32) : Option (Int32) :=
    some (pq_rd 168 T.1 p1)
set_option maxHeartbeats 4000000 in
set_option maxRecDepth 100000 in
theorem c_X3_characterAt (l : Launch) (g : pq_g) (a : Nat → Nat) (T : OutS) (p1 : Int32) (r : Int32) (hf : f_X3_characterAt T p1 = some r) : pq_R l yX3_characterAt cX3_characterAt 2 .int 2 g (outW g a T) [.ref (a 0), .int p1] r := by
  rw [f_X3_characterAt] at hf
  refine pq_R.of (own := RX3) (by decide) rfl (Nat.le_of_ble_eq_true rfl) rfl ?_
  intro p e s m below meth c ls Q S hP hK hl hend
  obtain ⟨hx, hb, hml, hown, hts⟩ := id S
  refine lv_aload_n hx hb dX3_characterAt_0 rfl (lv_at hl 0 rfl) ?_
  refine pq_get S hK hP inX3 0 rfl rfl 0 (by decide) fl_X3_9 rfl (v := .ref (a 1)) rfl dX3_characterAt_1 ?_
  refine lv_iload_n hx hb dX3_characterAt_4 rfl (lv_at hl 1 rfl) ?_
  refine pq_at S vn_X3_19 hK hP 1 rfl (by decide) hl.1 (Nat.le_of_ble_eq_true rfl) dX3_characterAt_5 (by decide) ⟨Nat.le_refl _, Nat.le_refl _⟩ ?_
  exact hend _ _ _ dX3_characterAt_8 rfl hf
def f_X3_write (T : OutS) (p1 : Int32) : Option (OutS) :=
    if 168 ≤ T.2 then
      some T
    else
      some ((pq_wr 168 T.1 T.2 p1), (T.2 + 1))
set_option maxHeartbeats 4000000 in
set_option maxRecDepth 100000 in
theorem c_X3_write (l : Launch) (g : pq_g) (a : Nat → Nat) (T : OutS) (p1 : Int32) (T1 : OutS) (hf : f_X3_write T p1 = some T1) : pq_Mv l yX3_write cX3_write 2 2 g (outW g a T) [.ref (a 0), .int p1] (outW g a T1) := by
  rw [f_X3_write] at hf
  refine pq_Mv.of (own := RX3) (by decide) rfl (Nat.le_of_ble_eq_true rfl) rfl ?_
  intro p e s m below meth c ls Q A S hP hK hD hS hA hl hend
  obtain ⟨hx, hb, hml, hown, hts⟩ := id S
  refine lv_aload_n hx hb dX3_write_0 rfl (lv_at hl 0 rfl) ?_
  refine pq_get S hK hP inX3 0 rfl rfl 1 (by decide) fl_X3_15 rfl (v := .int T.2) rfl dX3_write_1 ?_
  refine lv_sipush (v := 168) hx hb dX3_write_4 (by decide) ?_
  refine lv_icmp_ge (tgt := 32) hx hb dX3_write_7 (by decide) (fun h1 => ?_) (fun h1 => ?_)
  · replace hf := pq_ifp h1 hf
    exact hend _ _ _ _ dX3_write_32 (by rw [← Option.some.inj hf]; exact hP) hS
  · replace hf := pq_ifn h1 hf
    refine lv_aload_n hx hb dX3_write_10 rfl (lv_at hl 0 rfl) ?_
    refine pq_get S hK hP inX3 0 rfl rfl 0 (by decide) fl_X3_9 rfl (v := .ref (a 1)) rfl dX3_write_11 ?_
    refine lv_aload_n hx hb dX3_write_14 rfl (lv_at hl 0 rfl) ?_
    refine pq_get S hK hP inX3 0 rfl rfl 1 (by decide) fl_X3_15 rfl (v := .int T.2) rfl dX3_write_15 ?_
    refine lv_iload_n hx hb dX3_write_18 rfl (lv_at hl 1 rfl) ?_
    refine pq_put S vn_X3_23 hK hP hD hS hA 1 rfl (by decide) hl.1 (Nat.le_of_ble_eq_true rfl) dX3_write_19 (by decide) ⟨Nat.le_refl _, Nat.le_refl _⟩ (fun H locs hP hS => ?_)
    replace hP : va_P g.1 pq_cl (outW g a ((pq_wr 168 T.1 T.2 p1), T.2)) H := hP
    replace hD : va_D A (outW g a ((pq_wr 168 T.1 T.2 p1), T.2)) := pq_adr hD (ad_X3 _ _)
    refine lv_aload_n hx hb dX3_write_22 rfl (lv_at hl 0 rfl) ?_
    refine lv_dup hx hb dX3_write_23 rfl ?_
    refine pq_get S hK hP inX3 0 rfl rfl 1 (by decide) fl_X3_15 rfl (v := .int T.2) rfl dX3_write_24 ?_
    refine lv_iconst (v := 1) hx hb dX3_write_27 (by decide) ?_
    refine lv_iadd hx hb dX3_write_28 ?_
    refine pq_putf S hK hP hD hS inX3 tyX3_ok nmX3 0 rfl rfl 1 (by decide) fl_X3_15 rfl rfl (ty := .int) rfl rfl rfl (Nat.le_of_ble_eq_true rfl) dX3_write_29 (fun H locs hP hS => ?_)
    replace hP : va_P g.1 pq_cl (outW g a ((pq_wr 168 T.1 T.2 p1), (T.2 + 1))) H := hP
    replace hD : va_D A (outW g a ((pq_wr 168 T.1 T.2 p1), (T.2 + 1))) := pq_adr hD (ad_X3 _ _)
    exact hend _ _ _ _ dX3_write_32 (by rw [← Option.some.inj hf]; exact hP) hS
def f_X3_writeNumber_c17 (T : OutS) (v1 : Int32) : Option (OutS) :=
    (f_X3_write T (48 + (v1 - v1 / 10 * 10))).bind fun q2 =>
    some q2
def f_X3_writeNumber (T : OutS) (p1 : Int32) : Option (OutS) :=
    if p1 < 10 then
      f_X3_writeNumber_c17 T p1
    else
      (f_X3_write T (48 + (p1 / 10))).bind fun q5 =>
      f_X3_writeNumber_c17 q5 p1
set_option maxHeartbeats 4000000 in
set_option maxRecDepth 100000 in
theorem c_X3_writeNumber (l : Launch) (g : pq_g) (a : Nat → Nat) (T : OutS) (p1 : Int32) (T1 : OutS) (hf : f_X3_writeNumber T p1 = some T1) : pq_Mv l yX3_writeNumber cX3_writeNumber 2 3 g (outW g a T) [.ref (a 0), .int p1] (outW g a T1) := by
  rw [f_X3_writeNumber] at hf
  refine pq_Mv.of (own := RX3) (by decide) rfl (Nat.le_of_ble_eq_true rfl) rfl ?_
  intro p e s m below meth c ls Q A S hP hK hD hS hA hl hend
  obtain ⟨hx, hb, hml, hown, hts⟩ := id S
  have B17 : ∀ (T : OutS) (v1 : Int32) (ls : Array Slot) (H : Heap) (locs : List Loc), va_P g.1 pq_cl (outW g a T) H → va_D A (outW g a T) → va_S A s.heap H locs → lv_has ls 2 [(0, .ref (a 0)), (1, .int v1)] → f_X3_writeNumber_c17 T v1 = some T1 → W p l e (pq_rm 3 0 0) s m ([.ref (a 0), .int p1] : List Value).toArray below meth c H locs 0 0 Q (F0 m 17 ls []) := by
    intro T v1 ls H locs hP hD hS hl hf
    rw [f_X3_writeNumber_c17] at hf
    refine lv_aload_n hx hb dX3_writeNumber_17 rfl (lv_at hl 0 rfl) ?_
    refine lv_bipush (v := 48) hx hb dX3_writeNumber_18 (by decide) ?_
    refine lv_iload_n hx hb dX3_writeNumber_20 rfl (lv_at hl 1 rfl) ?_
    refine lv_bipush (v := 10) hx hb dX3_writeNumber_21 (by decide) ?_
    refine lv_irem hx hb dX3_writeNumber_23 (by decide) ?_
    refine lv_iadd hx hb dX3_writeNumber_24 ?_
    obtain ⟨q2, e1, hf⟩ := pq_bind hf
    refine pq_cVv S (c_X3_write l g a T (48 + (v1 - v1 / 10 * 10)) q2 e1) vv_X3_27 hK hP hD hS hA rfl rfl rfl rfl rfl hl.1 (Nat.le_of_ble_eq_true rfl) dX3_writeNumber_25 (by decide) (by decide) ⟨Nat.le_refl _, Nat.le_refl _⟩ (fun H9 locs hk hP1 hS => ?_)
    replace hP := hP1
    replace hP : va_P g.1 pq_cl (outW g a q2) H9 := hP
    replace hD : va_D A (outW g a q2) := pq_adr hD (ad_X3 _ _)
    clear hk
    generalize H9 = H at hP hS ⊢
    exact hend _ _ _ _ dX3_writeNumber_28 (by rw [← Option.some.inj hf]; exact hP) hS
  refine lv_iload_n hx hb dX3_writeNumber_0 rfl (lv_at hl 1 rfl) ?_
  refine lv_bipush (v := 10) hx hb dX3_writeNumber_1 (by decide) ?_
  refine lv_icmp_lt (tgt := 17) hx hb dX3_writeNumber_3 (by decide) (fun h3 => ?_) (fun h3 => ?_)
  · replace hf := pq_ifp h3 hf
    exact B17 T p1 ls _ _ hP hD hS (lv_sub hl [0, 1] rfl) hf
  · replace hf := pq_ifn h3 hf
    refine lv_aload_n hx hb dX3_writeNumber_6 rfl (lv_at hl 0 rfl) ?_
    refine lv_bipush (v := 48) hx hb dX3_writeNumber_7 (by decide) ?_
    refine lv_iload_n hx hb dX3_writeNumber_9 rfl (lv_at hl 1 rfl) ?_
    refine lv_bipush (v := 10) hx hb dX3_writeNumber_10 (by decide) ?_
    refine lv_idiv hx hb dX3_writeNumber_12 (by decide) ?_
    refine lv_iadd hx hb dX3_writeNumber_13 ?_
    obtain ⟨q5, e4, hf⟩ := pq_bind hf
    refine pq_cVv S (c_X3_write l g a T (48 + (p1 / 10)) q5 e4) vv_X3_27 hK hP hD hS hA rfl rfl rfl rfl rfl hl.1 (Nat.le_of_ble_eq_true rfl) dX3_writeNumber_14 (by decide) (by decide) ⟨Nat.le_refl _, Nat.le_refl _⟩ (fun H9 locs hk hP1 hS => ?_)
    replace hP := hP1
    replace hP : va_P g.1 pq_cl (outW g a q5) H9 := hP
    replace hD : va_D A (outW g a q5) := pq_adr hD (ad_X3 _ _)
    clear hk
    generalize H9 = H at hP hS ⊢
    exact B17 q5 p1 ls _ _ hP hD hS (lv_sub hl [0, 1] rfl) hf
def f_X0_isFull (T : CmdS) : Option (Int32) :=
    if T.2.1 < 60 then
      some 0
    else
      some 1
set_option maxHeartbeats 4000000 in
set_option maxRecDepth 100000 in
theorem c_X0_isFull (l : Launch) (g : pq_g) (a : Nat → Nat) (T : CmdS) (r : Int32) (hf : f_X0_isFull T = some r) : pq_R l yX0_isFull cX0_isFull 1 .boolean 1 g (cmdW g a T) [.ref (a 0)] r := by
  rw [f_X0_isFull] at hf
  refine pq_R.of (own := RX0) (by decide) rfl (Nat.le_of_ble_eq_true rfl) rfl ?_
  intro p e s m below meth c ls Q S hP hK hl hend
  obtain ⟨hx, hb, hml, hown, hts⟩ := id S
  refine lv_aload_n hx hb dX0_isFull_0 rfl (lv_at hl 0 rfl) ?_
  refine pq_get S hK hP inX0 0 rfl rfl 1 (by decide) fl_X0_21 rfl (v := .int T.2.1) rfl dX0_isFull_1 ?_
  refine lv_bipush (v := 60) hx hb dX0_isFull_4 (by decide) ?_
  refine lv_icmp_lt (tgt := 13) hx hb dX0_isFull_6 (by decide) (fun h1 => ?_) (fun h1 => ?_)
  · replace hf := pq_ifp h1 hf
    refine lv_iconst (v := 0) hx hb dX0_isFull_13 (by decide) ?_
    exact hend _ _ _ dX0_isFull_14 rfl hf
  · replace hf := pq_ifn h1 hf
    refine lv_iconst (v := 1) hx hb dX0_isFull_9 (by decide) ?_
    refine lv_goto (tgt := 14) hx hb dX0_isFull_10 (by decide) ?_
    exact hend _ _ _ dX0_isFull_14 rfl hf
def f_X0_append (T : CmdS) (p1 : Int32) : Option (Int32 × (CmdS)) :=
    some ((T.2.1 + 1), ((pq_wr 60 T.1 T.2.1 p1), (T.2.1 + 1), T.2.2.1, T.2.2.2.1, T.2.2.2.2.1, T.2.2.2.2.2))
set_option maxHeartbeats 4000000 in
set_option maxRecDepth 100000 in
theorem c_X0_append (l : Launch) (g : pq_g) (a : Nat → Nat) (T : CmdS) (p1 : Int32) (r : Int32) (T1 : CmdS) (hf : f_X0_append T p1 = some (r, T1)) : pq_Mi l yX0_append cX0_append 2 .int 2 g (cmdW g a T) [.ref (a 0), .int p1] r (cmdW g a T1) := by
  rw [f_X0_append] at hf
  refine pq_Mi.of (own := RX0) (by decide) rfl (Nat.le_of_ble_eq_true rfl) rfl ?_
  intro p e s m below meth c ls Q A S hP hK hD hS hA hl hend
  obtain ⟨hx, hb, hml, hown, hts⟩ := id S
  refine lv_aload_n hx hb dX0_append_0 rfl (lv_at hl 0 rfl) ?_
  refine pq_get S hK hP inX0 0 rfl rfl 0 (by decide) fl_X0_9 rfl (v := .ref (a 1)) rfl dX0_append_1 ?_
  refine lv_aload_n hx hb dX0_append_4 rfl (lv_at hl 0 rfl) ?_
  refine pq_get S hK hP inX0 0 rfl rfl 1 (by decide) fl_X0_21 rfl (v := .int T.2.1) rfl dX0_append_5 ?_
  refine lv_iload_n hx hb dX0_append_8 rfl (lv_at hl 1 rfl) ?_
  refine pq_put S vn_X0_25 hK hP hD hS hA 1 rfl (by decide) hl.1 (Nat.le_of_ble_eq_true rfl) dX0_append_9 (by decide) ⟨Nat.le_refl _, Nat.le_refl _⟩ (fun H locs hP hS => ?_)
  replace hP : va_P g.1 pq_cl (cmdW g a ((pq_wr 60 T.1 T.2.1 p1), T.2.1, T.2.2.1, T.2.2.2.1, T.2.2.2.2.1, T.2.2.2.2.2)) H := hP
  replace hD : va_D A (cmdW g a ((pq_wr 60 T.1 T.2.1 p1), T.2.1, T.2.2.1, T.2.2.2.1, T.2.2.2.2.1, T.2.2.2.2.2)) := pq_adr hD (ad_X0 _ _)
  refine lv_aload_n hx hb dX0_append_12 rfl (lv_at hl 0 rfl) ?_
  refine lv_dup hx hb dX0_append_13 rfl ?_
  refine pq_get S hK hP inX0 0 rfl rfl 1 (by decide) fl_X0_21 rfl (v := .int T.2.1) rfl dX0_append_14 ?_
  refine lv_iconst (v := 1) hx hb dX0_append_17 (by decide) ?_
  refine lv_iadd hx hb dX0_append_18 ?_
  refine pq_putf S hK hP hD hS inX0 tyX0_ok nmX0 0 rfl rfl 1 (by decide) fl_X0_21 rfl rfl (ty := .int) rfl rfl rfl (Nat.le_of_ble_eq_true rfl) dX0_append_19 (fun H locs hP hS => ?_)
  replace hP : va_P g.1 pq_cl (cmdW g a ((pq_wr 60 T.1 T.2.1 p1), (T.2.1 + 1), T.2.2.1, T.2.2.2.1, T.2.2.2.2.1, T.2.2.2.2.2)) H := hP
  replace hD : va_D A (cmdW g a ((pq_wr 60 T.1 T.2.1 p1), (T.2.1 + 1), T.2.2.1, T.2.2.2.1, T.2.2.2.2.1, T.2.2.2.2.2)) := pq_adr hD (ad_X0 _ _)
  refine lv_aload_n hx hb dX0_append_22 rfl (lv_at hl 0 rfl) ?_
  refine pq_get S hK hP inX0 0 rfl rfl 1 (by decide) fl_X0_21 rfl (v := .int (T.2.1 + 1)) rfl dX0_append_23 ?_
  obtain ⟨h8, h9⟩ := pq_pair hf
  exact hend _ _ _ _ _ dX0_append_26 rfl h8 (by rw [← h9]; exact hP) hS
def f_X0_clearInput (T : CmdS) : Option (CmdS) :=
    some (T.1, 0, T.2.2.1, T.2.2.2.1, T.2.2.2.2.1, T.2.2.2.2.2)
set_option maxHeartbeats 4000000 in
set_option maxRecDepth 100000 in
theorem c_X0_clearInput (l : Launch) (g : pq_g) (a : Nat → Nat) (T : CmdS) (T1 : CmdS) (hf : f_X0_clearInput T = some T1) : pq_Mv l yX0_clearInput cX0_clearInput 1 1 g (cmdW g a T) [.ref (a 0)] (cmdW g a T1) := by
  rw [f_X0_clearInput] at hf
  refine pq_Mv.of (own := RX0) (by decide) rfl (Nat.le_of_ble_eq_true rfl) rfl ?_
  intro p e s m below meth c ls Q A S hP hK hD hS hA hl hend
  obtain ⟨hx, hb, hml, hown, hts⟩ := id S
  refine lv_aload_n hx hb dX0_clearInput_0 rfl (lv_at hl 0 rfl) ?_
  refine lv_iconst (v := 0) hx hb dX0_clearInput_1 (by decide) ?_
  refine pq_putf S hK hP hD hS inX0 tyX0_ok nmX0 0 rfl rfl 1 (by decide) fl_X0_21 rfl rfl (ty := .int) rfl rfl rfl (Nat.le_of_ble_eq_true rfl) dX0_clearInput_2 (fun H locs hP hS => ?_)
  replace hP : va_P g.1 pq_cl (cmdW g a (T.1, 0, T.2.2.1, T.2.2.2.1, T.2.2.2.2.1, T.2.2.2.2.2)) H := hP
  replace hD : va_D A (cmdW g a (T.1, 0, T.2.2.1, T.2.2.2.1, T.2.2.2.2.1, T.2.2.2.2.2)) := pq_adr hD (ad_X0 _ _)
  exact hend _ _ _ _ dX0_clearInput_5 (by rw [← Option.some.inj hf]; exact hP) hS
def f_X0_kindAt (T : CmdS) (p1 : Int32) : Option (Int32) :=
    some (pq_rd 20 T.2.2.2.1 p1)
set_option maxHeartbeats 4000000 in
set_option maxRecDepth 100000 in
theorem c_X0_kindAt (l : Launch) (g : pq_g) (a : Nat → Nat) (T : CmdS) (p1 : Int32) (r : Int32) (hf : f_X0_kindAt T p1 = some r) : pq_R l yX0_kindAt cX0_kindAt 2 .int 2 g (cmdW g a T) [.ref (a 0), .int p1] r := by
  rw [f_X0_kindAt] at hf
  refine pq_R.of (own := RX0) (by decide) rfl (Nat.le_of_ble_eq_true rfl) rfl ?_
  intro p e s m below meth c ls Q S hP hK hl hend
  obtain ⟨hx, hb, hml, hown, hts⟩ := id S
  refine lv_aload_n hx hb dX0_kindAt_0 rfl (lv_at hl 0 rfl) ?_
  refine pq_get S hK hP inX0 0 rfl rfl 3 (by decide) fl_X0_15 rfl (v := .ref (a 2)) rfl dX0_kindAt_1 ?_
  refine lv_iload_n hx hb dX0_kindAt_4 rfl (lv_at hl 1 rfl) ?_
  refine pq_at S vn_X0_29 hK hP 2 rfl (by decide) hl.1 (Nat.le_of_ble_eq_true rfl) dX0_kindAt_5 (by decide) ⟨Nat.le_refl _, Nat.le_refl _⟩ ?_
  exact hend _ _ _ dX0_kindAt_8 rfl hf
def f_X0_numberAt (T : CmdS) (p1 : Int32) (p2 : Int32) : Option (Int32) :=
    some (pq_rd 100 T.2.2.2.2.1 ((p1 * 5) + p2))
set_option maxHeartbeats 4000000 in
set_option maxRecDepth 100000 in
theorem c_X0_numberAt (l : Launch) (g : pq_g) (a : Nat → Nat) (T : CmdS) (p1 : Int32) (p2 : Int32) (r : Int32) (hf : f_X0_numberAt T p1 p2 = some r) : pq_R l yX0_numberAt cX0_numberAt 3 .int 2 g (cmdW g a T) [.ref (a 0), .int p1, .int p2] r := by
  rw [f_X0_numberAt] at hf
  refine pq_R.of (own := RX0) (by decide) rfl (Nat.le_of_ble_eq_true rfl) rfl ?_
  intro p e s m below meth c ls Q S hP hK hl hend
  obtain ⟨hx, hb, hml, hown, hts⟩ := id S
  refine lv_aload_n hx hb dX0_numberAt_0 rfl (lv_at hl 0 rfl) ?_
  refine pq_get S hK hP inX0 0 rfl rfl 4 (by decide) fl_X0_18 rfl (v := .ref (a 3)) rfl dX0_numberAt_1 ?_
  refine lv_iload_n hx hb dX0_numberAt_4 rfl (lv_at hl 1 rfl) ?_
  refine lv_iconst (v := 5) hx hb dX0_numberAt_5 (by decide) ?_
  refine lv_imul hx hb dX0_numberAt_6 ?_
  refine lv_iload_n hx hb dX0_numberAt_7 rfl (lv_at hl 2 rfl) ?_
  refine lv_iadd hx hb dX0_numberAt_8 ?_
  refine pq_at S vn_X0_29 hK hP 3 rfl (by decide) hl.1 (Nat.le_of_ble_eq_true rfl) dX0_numberAt_9 (by decide) ⟨Nat.le_refl _, Nat.le_refl _⟩ ?_
  exact hend _ _ _ dX0_numberAt_12 rfl hf
def f_X0_current (T : CmdS) : Option (Int32) :=
    if T.2.1 ≤ T.2.2.1 then
      some 0
    else
      some (pq_rd 60 T.1 T.2.2.1)
set_option maxHeartbeats 4000000 in
set_option maxRecDepth 100000 in
theorem c_X0_current (l : Launch) (g : pq_g) (a : Nat → Nat) (T : CmdS) (r : Int32) (hf : f_X0_current T = some r) : pq_R l yX0_current cX0_current 1 .int 2 g (cmdW g a T) [.ref (a 0)] r := by
  rw [f_X0_current] at hf
  refine pq_R.of (own := RX0) (by decide) rfl (Nat.le_of_ble_eq_true rfl) rfl ?_
  intro p e s m below meth c ls Q S hP hK hl hend
  obtain ⟨hx, hb, hml, hown, hts⟩ := id S
  refine lv_aload_n hx hb dX0_current_0 rfl (lv_at hl 0 rfl) ?_
  refine pq_get S hK hP inX0 0 rfl rfl 2 (by decide) fl_X0_33 rfl (v := .int T.2.2.1) rfl dX0_current_1 ?_
  refine lv_aload_n hx hb dX0_current_4 rfl (lv_at hl 0 rfl) ?_
  refine pq_get S hK hP inX0 0 rfl rfl 1 (by decide) fl_X0_21 rfl (v := .int T.2.1) rfl dX0_current_5 ?_
  refine lv_icmp_ge (tgt := 25) hx hb dX0_current_8 (by decide) (fun h1 => ?_) (fun h1 => ?_)
  · replace hf := pq_ifp h1 hf
    refine lv_iconst (v := 0) hx hb dX0_current_25 (by decide) ?_
    exact hend _ _ _ dX0_current_26 rfl hf
  · replace hf := pq_ifn h1 hf
    refine lv_aload_n hx hb dX0_current_11 rfl (lv_at hl 0 rfl) ?_
    refine pq_get S hK hP inX0 0 rfl rfl 0 (by decide) fl_X0_9 rfl (v := .ref (a 1)) rfl dX0_current_12 ?_
    refine lv_aload_n hx hb dX0_current_15 rfl (lv_at hl 0 rfl) ?_
    refine pq_get S hK hP inX0 0 rfl rfl 2 (by decide) fl_X0_33 rfl (v := .int T.2.2.1) rfl dX0_current_16 ?_
    refine pq_at S vn_X0_29 hK hP 1 rfl (by decide) hl.1 (Nat.le_of_ble_eq_true rfl) dX0_current_19 (by decide) ⟨Nat.le_refl _, Nat.le_refl _⟩ ?_
    refine lv_goto (tgt := 26) hx hb dX0_current_22 (by decide) ?_
    exact hend _ _ _ dX0_current_26 rfl hf
def f_X0_take (T : CmdS) (p1 : Int32) : Option (Int32 × (CmdS)) :=
    (f_X0_current T).bind fun q2 =>
    if q2 = p1 then
      some (1, (T.1, T.2.1, (T.2.2.1 + 1), T.2.2.2.1, T.2.2.2.2.1, T.2.2.2.2.2))
    else
      some (0, T)
set_option maxHeartbeats 4000000 in
set_option maxRecDepth 100000 in
theorem c_X0_take (l : Launch) (g : pq_g) (a : Nat → Nat) (T : CmdS) (p1 : Int32) (r : Int32) (T1 : CmdS) (hf : f_X0_take T p1 = some (r, T1)) : pq_Mi l yX0_take cX0_take 2 .boolean 3 g (cmdW g a T) [.ref (a 0), .int p1] r (cmdW g a T1) := by
  rw [f_X0_take] at hf
  refine pq_Mi.of (own := RX0) (by decide) rfl (Nat.le_of_ble_eq_true rfl) rfl ?_
  intro p e s m below meth c ls Q A S hP hK hD hS hA hl hend
  obtain ⟨hx, hb, hml, hown, hts⟩ := id S
  refine lv_aload_n hx hb dX0_take_0 rfl (lv_at hl 0 rfl) ?_
  obtain ⟨q2, e1, hf⟩ := pq_bind hf
  refine pq_cV S (c_X0_current l g a T q2 e1) vv_X0_46 hK hP rfl rfl rfl rfl rfl hl.1 (Nat.le_of_ble_eq_true rfl) dX0_take_1 (by decide) (by decide) ⟨Nat.le_refl _, Nat.le_refl _⟩ ?_
  refine lv_iload_n hx hb dX0_take_4 rfl (lv_at hl 1 rfl) ?_
  refine lv_icmp_eq (tgt := 10) hx hb dX0_take_5 (by decide) (fun h3 => ?_) (fun h3 => ?_)
  · replace hf := pq_ifp h3 hf
    refine lv_aload_n hx hb dX0_take_10 rfl (lv_at hl 0 rfl) ?_
    refine lv_dup hx hb dX0_take_11 rfl ?_
    refine pq_get S hK hP inX0 0 rfl rfl 2 (by decide) fl_X0_33 rfl (v := .int T.2.2.1) rfl dX0_take_12 ?_
    refine lv_iconst (v := 1) hx hb dX0_take_15 (by decide) ?_
    refine lv_iadd hx hb dX0_take_16 ?_
    refine pq_putf S hK hP hD hS inX0 tyX0_ok nmX0 0 rfl rfl 2 (by decide) fl_X0_33 rfl rfl (ty := .int) rfl rfl rfl (Nat.le_of_ble_eq_true rfl) dX0_take_17 (fun H locs hP hS => ?_)
    replace hP : va_P g.1 pq_cl (cmdW g a (T.1, T.2.1, (T.2.2.1 + 1), T.2.2.2.1, T.2.2.2.2.1, T.2.2.2.2.2)) H := hP
    replace hD : va_D A (cmdW g a (T.1, T.2.1, (T.2.2.1 + 1), T.2.2.2.1, T.2.2.2.2.1, T.2.2.2.2.2)) := pq_adr hD (ad_X0 _ _)
    refine lv_iconst (v := 1) hx hb dX0_take_20 (by decide) ?_
    obtain ⟨h8, h9⟩ := pq_pair hf
    exact hend _ _ _ _ _ dX0_take_21 rfl h8 (by rw [← h9]; exact hP) hS
  · replace hf := pq_ifn h3 hf
    refine lv_iconst (v := 0) hx hb dX0_take_8 (by decide) ?_
    obtain ⟨h8, h9⟩ := pq_pair hf
    exact hend _ _ _ _ _ dX0_take_9 rfl h8 (by rw [← h9]; exact hP) hS
def f_X0_readNumber_c58 (T : CmdS) (v1 : Int32) (v3 : Int32) (v4 : Int32) : Option (Int32 × (CmdS)) :=
    if v4 ≤ 0 then
      some (0, (T.1, T.2.1, T.2.2.1, T.2.2.2.1, (pq_wr 100 T.2.2.2.2.1 v1 v3), T.2.2.2.2.2))
    else
      some (1, (T.1, T.2.1, T.2.2.1, T.2.2.2.1, (pq_wr 100 T.2.2.2.2.1 v1 v3), T.2.2.2.2.2))
def f_X0_readNumber_c5 : Nat → CmdS → Int32 → Int32 → Int32 → Int32 → Option (Int32 × (CmdS))
  | 0, _, _, _, _, _ => none
  | n + 1, T, v1, v2, v3, v4 =>
    if v2 ≤ v4 then
      f_X0_readNumber_c58 T v1 v3 v4
    else
      (f_X0_current T).bind fun q4 =>
      if q4 < 48 then
        f_X0_readNumber_c58 T v1 v3 v4
      else
        (f_X0_current T).bind fun q7 =>
        if 57 < q7 then
          f_X0_readNumber_c58 T v1 v3 v4
        else
          (f_X0_current T).bind fun q10 =>
          f_X0_readNumber_c5 n (T.1, T.2.1, (T.2.2.1 + 1), T.2.2.2.1, T.2.2.2.2.1, T.2.2.2.2.2) v1 v2 (((10 * v3) + q10) - 48) (v4 + 1)
def f_X0_readNumber (T : CmdS) (p1 : Int32) (p2 : Int32) : Option (Int32 × (CmdS)) :=
    f_X0_readNumber_c5 200 T p1 p2 0 0
set_option maxHeartbeats 4000000 in
set_option maxRecDepth 100000 in
theorem c_X0_readNumber (l : Launch) (g : pq_g) (a : Nat → Nat) (T : CmdS) (p1 : Int32) (p2 : Int32) (r : Int32) (T1 : CmdS) (hf : f_X0_readNumber T p1 p2 = some (r, T1)) : pq_Mi l yX0_readNumber cX0_readNumber 5 .boolean 3 g (cmdW g a T) [.ref (a 0), .int p1, .int p2] r (cmdW g a T1) := by
  rw [f_X0_readNumber] at hf
  refine pq_Mi.of (own := RX0) (by decide) rfl (Nat.le_of_ble_eq_true rfl) rfl ?_
  intro p e s m below meth c ls Q A S hP hK hD hS hA hl hend
  obtain ⟨hx, hb, hml, hown, hts⟩ := id S
  have B58 : ∀ (T : CmdS) (v1 : Int32) (v3 : Int32) (v4 : Int32) (ls : Array Slot) (H : Heap) (locs : List Loc), va_P g.1 pq_cl (cmdW g a T) H → va_D A (cmdW g a T) → va_S A s.heap H locs → lv_has ls 5 [(0, .ref (a 0)), (1, .int v1), (3, .int v3), (4, .int v4)] → f_X0_readNumber_c58 T v1 v3 v4 = some (r, T1) → W p l e (pq_rm 3 0 0) s m ([.ref (a 0), .int p1, .int p2] : List Value).toArray below meth c H locs 0 0 Q (F0 m 58 ls []) := by
    intro T v1 v3 v4 ls H locs hP hD hS hl hf
    rw [f_X0_readNumber_c58] at hf
    refine lv_aload_n hx hb dX0_readNumber_58 rfl (lv_at hl 0 rfl) ?_
    refine pq_get S hK hP inX0 0 rfl rfl 4 (by decide) fl_X0_18 rfl (v := .ref (a 3)) rfl dX0_readNumber_59 ?_
    refine lv_iload_n hx hb dX0_readNumber_62 rfl (lv_at hl 1 rfl) ?_
    refine lv_iload_n hx hb dX0_readNumber_63 rfl (lv_at hl 2 rfl) ?_
    refine pq_put S vn_X0_25 hK hP hD hS hA 3 rfl (by decide) hl.1 (Nat.le_of_ble_eq_true rfl) dX0_readNumber_64 (by decide) ⟨Nat.le_refl _, Nat.le_refl _⟩ (fun H locs hP hS => ?_)
    replace hP : va_P g.1 pq_cl (cmdW g a (T.1, T.2.1, T.2.2.1, T.2.2.2.1, (pq_wr 100 T.2.2.2.2.1 v1 v3), T.2.2.2.2.2)) H := hP
    replace hD : va_D A (cmdW g a (T.1, T.2.1, T.2.2.1, T.2.2.2.1, (pq_wr 100 T.2.2.2.2.1 v1 v3), T.2.2.2.2.2)) := pq_adr hD (ad_X0 _ _)
    refine lv_iload hx hb dX0_readNumber_67 (lv_at hl 3 rfl) ?_
    refine lv_if_le (tgt := 76) hx hb dX0_readNumber_69 (by decide) (fun h1 => ?_) (fun h1 => ?_)
    · replace hf := pq_ifp h1 hf
      refine lv_iconst (v := 0) hx hb dX0_readNumber_76 (by decide) ?_
      obtain ⟨h8, h9⟩ := pq_pair hf
      exact hend _ _ _ _ _ dX0_readNumber_77 rfl h8 (by rw [← h9]; exact hP) hS
    · replace hf := pq_ifn h1 hf
      refine lv_iconst (v := 1) hx hb dX0_readNumber_72 (by decide) ?_
      refine lv_goto (tgt := 77) hx hb dX0_readNumber_73 (by decide) ?_
      obtain ⟨h8, h9⟩ := pq_pair hf
      exact hend _ _ _ _ _ dX0_readNumber_77 rfl h8 (by rw [← h9]; exact hP) hS
  have B5 : ∀ (n5 : Nat) (T : CmdS) (v1 : Int32) (v2 : Int32) (v3 : Int32) (v4 : Int32) (ls : Array Slot) (H : Heap) (locs : List Loc), va_P g.1 pq_cl (cmdW g a T) H → va_D A (cmdW g a T) → va_S A s.heap H locs → lv_has ls 5 [(0, .ref (a 0)), (1, .int v1), (2, .int v2), (3, .int v3), (4, .int v4)] → f_X0_readNumber_c5 n5 T v1 v2 v3 v4 = some (r, T1) → W p l e (pq_rm 3 0 0) s m ([.ref (a 0), .int p1, .int p2] : List Value).toArray below meth c H locs 0 0 Q (F0 m 5 ls []) := by
    intro n5
    induction n5 with
    | zero =>
      intro T v1 v2 v3 v4 ls H locs hP hD hS hl hf
      exact absurd hf (by simp [f_X0_readNumber_c5])
    | succ n5 ih5 =>
      intro T v1 v2 v3 v4 ls H locs hP hD hS hl hf
      rw [f_X0_readNumber_c5] at hf
      refine lv_iload hx hb dX0_readNumber_5 (lv_at hl 4 rfl) ?_
      refine lv_iload_n hx hb dX0_readNumber_7 rfl (lv_at hl 2 rfl) ?_
      refine lv_icmp_ge (tgt := 58) hx hb dX0_readNumber_8 (by decide) (fun h2 => ?_) (fun h2 => ?_)
      · replace hf := pq_ifp h2 hf
        exact B58 T v1 v3 v4 ls _ _ hP hD hS (lv_sub hl [0, 1, 3, 4] rfl) hf
      · replace hf := pq_ifn h2 hf
        refine lv_aload_n hx hb dX0_readNumber_11 rfl (lv_at hl 0 rfl) ?_
        obtain ⟨q4, e3, hf⟩ := pq_bind hf
        refine pq_cV S (c_X0_current l g a T q4 e3) vv_X0_46 hK hP rfl rfl rfl rfl rfl hl.1 (Nat.le_of_ble_eq_true rfl) dX0_readNumber_12 (by decide) (by decide) ⟨Nat.le_refl _, Nat.le_refl _⟩ ?_
        refine lv_bipush (v := 48) hx hb dX0_readNumber_15 (by decide) ?_
        refine lv_icmp_lt (tgt := 58) hx hb dX0_readNumber_17 (by decide) (fun h5 => ?_) (fun h5 => ?_)
        · replace hf := pq_ifp h5 hf
          exact B58 T v1 v3 v4 ls _ _ hP hD hS (lv_sub hl [0, 1, 3, 4] rfl) hf
        · replace hf := pq_ifn h5 hf
          refine lv_aload_n hx hb dX0_readNumber_20 rfl (lv_at hl 0 rfl) ?_
          obtain ⟨q7, e6, hf⟩ := pq_bind hf
          refine pq_cV S (c_X0_current l g a T q7 e6) vv_X0_46 hK hP rfl rfl rfl rfl rfl hl.1 (Nat.le_of_ble_eq_true rfl) dX0_readNumber_21 (by decide) (by decide) ⟨Nat.le_refl _, Nat.le_refl _⟩ ?_
          refine lv_bipush (v := 57) hx hb dX0_readNumber_24 (by decide) ?_
          refine lv_icmp_gt (tgt := 58) hx hb dX0_readNumber_26 (by decide) (fun h8 => ?_) (fun h8 => ?_)
          · replace hf := pq_ifp h8 hf
            exact B58 T v1 v3 v4 ls _ _ hP hD hS (lv_sub hl [0, 1, 3, 4] rfl) hf
          · replace hf := pq_ifn h8 hf
            refine lv_bipush (v := 10) hx hb dX0_readNumber_29 (by decide) ?_
            refine lv_iload_n hx hb dX0_readNumber_31 rfl (lv_at hl 3 rfl) ?_
            refine lv_imul hx hb dX0_readNumber_32 ?_
            refine lv_aload_n hx hb dX0_readNumber_33 rfl (lv_at hl 0 rfl) ?_
            obtain ⟨q10, e9, hf⟩ := pq_bind hf
            refine pq_cV S (c_X0_current l g a T q10 e9) vv_X0_46 hK hP rfl rfl rfl rfl rfl hl.1 (Nat.le_of_ble_eq_true rfl) dX0_readNumber_34 (by decide) (by decide) ⟨Nat.le_refl _, Nat.le_refl _⟩ ?_
            refine lv_iadd hx hb dX0_readNumber_37 ?_
            refine lv_bipush (v := 48) hx hb dX0_readNumber_38 (by decide) ?_
            refine lv_isub hx hb dX0_readNumber_40 ?_
            refine lv_istore_n (lv' := [(3, .int (((10 * v3) + q10) - 48)), (0, .ref (a 0)), (1, .int v1), (2, .int v2), (4, .int v4)]) hx hb dX0_readNumber_41 rfl hl (by decide) rfl (fun ls hl => ?_)
            refine lv_aload_n hx hb dX0_readNumber_42 rfl (lv_at hl 1 rfl) ?_
            refine lv_dup hx hb dX0_readNumber_43 rfl ?_
            refine pq_get S hK hP inX0 0 rfl rfl 2 (by decide) fl_X0_33 rfl (v := .int T.2.2.1) rfl dX0_readNumber_44 ?_
            refine lv_iconst (v := 1) hx hb dX0_readNumber_47 (by decide) ?_
            refine lv_iadd hx hb dX0_readNumber_48 ?_
            refine pq_putf S hK hP hD hS inX0 tyX0_ok nmX0 0 rfl rfl 2 (by decide) fl_X0_33 rfl rfl (ty := .int) rfl rfl rfl (Nat.le_of_ble_eq_true rfl) dX0_readNumber_49 (fun H locs hP hS => ?_)
            replace hP : va_P g.1 pq_cl (cmdW g a (T.1, T.2.1, (T.2.2.1 + 1), T.2.2.2.1, T.2.2.2.2.1, T.2.2.2.2.2)) H := hP
            replace hD : va_D A (cmdW g a (T.1, T.2.1, (T.2.2.1 + 1), T.2.2.2.1, T.2.2.2.2.1, T.2.2.2.2.2)) := pq_adr hD (ad_X0 _ _)
            refine lv_iinc (v := (v4 + 1)) (lv' := [(4, .int (v4 + 1)), (3, .int (((10 * v3) + q10) - 48)), (0, .ref (a 0)), (1, .int v1), (2, .int v2)]) hx hb dX0_readNumber_52 hl (k := 4) rfl rfl (by decide) rfl (fun ls hl => ?_)
            refine lv_goto (tgt := 5) hx hb dX0_readNumber_55 (by decide) ?_
            exact ih5 (T.1, T.2.1, (T.2.2.1 + 1), T.2.2.2.1, T.2.2.2.2.1, T.2.2.2.2.2) v1 v2 (((10 * v3) + q10) - 48) (v4 + 1) ls _ _ hP hD hS (lv_sub hl [2, 3, 4, 1, 0] rfl) hf
  refine lv_iconst (v := 0) hx hb dX0_readNumber_0 (by decide) ?_
  refine lv_istore_n (lv' := [(3, .int 0), (0, .ref (a 0)), (1, .int p1), (2, .int p2)]) hx hb dX0_readNumber_1 rfl hl (by decide) rfl (fun ls hl => ?_)
  refine lv_iconst (v := 0) hx hb dX0_readNumber_2 (by decide) ?_
  refine lv_istore (lv' := [(4, .int 0), (3, .int 0), (0, .ref (a 0)), (1, .int p1), (2, .int p2)]) hx hb dX0_readNumber_3 hl (by decide) rfl (fun ls hl => ?_)
  exact B5 200 T p1 p2 0 0 ls _ _ hP hD hS (lv_sub hl [2, 3, 4, 1, 0] rfl) hf
