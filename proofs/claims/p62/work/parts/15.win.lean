def f_X5_copyFrom (T : WinS) (O : WinS) : Option (WinS) :=
    some ((pq_cp 4 O.1 T.1), (pq_cp 4 O.2.1 T.2.1), (pq_cp 4 O.2.2.1 T.2.2.1), (pq_cp 4 O.2.2.2 T.2.2.2))
set_option maxHeartbeats 4000000 in
set_option maxRecDepth 100000 in
theorem c_X5_copyFrom (l : Launch) (g : pq_g) (a : Nat → Nat) (b : Nat → Nat) (T : WinS) (O : WinS) (T1 : WinS) (hf : f_X5_copyFrom T O = some T1) : pq_Mv l yX5_copyFrom cX5_copyFrom 2 2 g (winW g a T ++ winW g b O) [.ref (a 0), .ref (b 0)] (winW g a T1 ++ winW g b O) := by
  rw [f_X5_copyFrom] at hf
  refine pq_Mv.of (own := RX5) (by decide) rfl (Nat.le_of_ble_eq_true rfl) rfl ?_
  intro p e s m below meth c ls Q A S hP hK hD hS hA hl hend
  obtain ⟨hx, hb, hml, hown, hts⟩ := id S
  refine lv_aload_n hx hb dX5_copyFrom_0 rfl (lv_at hl 1 rfl) ?_
  refine lv_ifnonnull (tgt := 5) hx hb dX5_copyFrom_1 (by decide) ?_
  refine lv_aload_n hx hb dX5_copyFrom_5 rfl (lv_at hl 1 rfl) ?_
  refine pq_get S hK (pq_P2 hP) inX5 0 rfl rfl 0 (by decide) fl_X5_9 rfl (v := .ref (b 1)) rfl dX5_copyFrom_6 ?_
  refine lv_aload_n hx hb dX5_copyFrom_9 rfl (lv_at hl 0 rfl) ?_
  refine pq_get S hK (pq_P1 hP) inX5 0 rfl rfl 0 (by decide) fl_X5_9 rfl (v := .ref (a 1)) rfl dX5_copyFrom_10 ?_
  refine pq_copy S vn_X5_24 hK hP hD hS hA 6 1 rfl rfl (by decide) (by decide) hl.1 (Nat.le_of_ble_eq_true rfl) dX5_copyFrom_13 (by decide) ⟨Nat.le_refl _, Nat.le_refl _⟩ (fun H locs hP hS => ?_)
  replace hP : va_P g.1 pq_cl (winW g a ((pq_cp 4 O.1 T.1), T.2.1, T.2.2.1, T.2.2.2) ++ winW g b O) H := hP
  replace hD : va_D A (winW g a ((pq_cp 4 O.1 T.1), T.2.1, T.2.2.1, T.2.2.2) ++ winW g b O) := pq_adr hD (ad_app (ad_X5 _ _) (ad_X5 _ _))
  refine lv_aload_n hx hb dX5_copyFrom_16 rfl (lv_at hl 1 rfl) ?_
  refine pq_get S hK (pq_P2 hP) inX5 0 rfl rfl 1 (by decide) fl_X5_15 rfl (v := .ref (b 2)) rfl dX5_copyFrom_17 ?_
  refine lv_aload_n hx hb dX5_copyFrom_20 rfl (lv_at hl 0 rfl) ?_
  refine pq_get S hK (pq_P1 hP) inX5 0 rfl rfl 1 (by decide) fl_X5_15 rfl (v := .ref (a 2)) rfl dX5_copyFrom_21 ?_
  refine pq_copy S vn_X5_24 hK hP hD hS hA 7 2 rfl rfl (by decide) (by decide) hl.1 (Nat.le_of_ble_eq_true rfl) dX5_copyFrom_24 (by decide) ⟨Nat.le_refl _, Nat.le_refl _⟩ (fun H locs hP hS => ?_)
  replace hP : va_P g.1 pq_cl (winW g a ((pq_cp 4 O.1 T.1), (pq_cp 4 O.2.1 T.2.1), T.2.2.1, T.2.2.2) ++ winW g b O) H := hP
  replace hD : va_D A (winW g a ((pq_cp 4 O.1 T.1), (pq_cp 4 O.2.1 T.2.1), T.2.2.1, T.2.2.2) ++ winW g b O) := pq_adr hD (ad_app (ad_X5 _ _) (ad_X5 _ _))
  refine lv_aload_n hx hb dX5_copyFrom_27 rfl (lv_at hl 1 rfl) ?_
  refine pq_get S hK (pq_P2 hP) inX5 0 rfl rfl 2 (by decide) fl_X5_18 rfl (v := .ref (b 3)) rfl dX5_copyFrom_28 ?_
  refine lv_aload_n hx hb dX5_copyFrom_31 rfl (lv_at hl 0 rfl) ?_
  refine pq_get S hK (pq_P1 hP) inX5 0 rfl rfl 2 (by decide) fl_X5_18 rfl (v := .ref (a 3)) rfl dX5_copyFrom_32 ?_
  refine pq_copy S vn_X5_24 hK hP hD hS hA 8 3 rfl rfl (by decide) (by decide) hl.1 (Nat.le_of_ble_eq_true rfl) dX5_copyFrom_35 (by decide) ⟨Nat.le_refl _, Nat.le_refl _⟩ (fun H locs hP hS => ?_)
  replace hP : va_P g.1 pq_cl (winW g a ((pq_cp 4 O.1 T.1), (pq_cp 4 O.2.1 T.2.1), (pq_cp 4 O.2.2.1 T.2.2.1), T.2.2.2) ++ winW g b O) H := hP
  replace hD : va_D A (winW g a ((pq_cp 4 O.1 T.1), (pq_cp 4 O.2.1 T.2.1), (pq_cp 4 O.2.2.1 T.2.2.1), T.2.2.2) ++ winW g b O) := pq_adr hD (ad_app (ad_X5 _ _) (ad_X5 _ _))
  refine lv_aload_n hx hb dX5_copyFrom_38 rfl (lv_at hl 1 rfl) ?_
  refine pq_get S hK (pq_P2 hP) inX5 0 rfl rfl 3 (by decide) fl_X5_21 rfl (v := .ref (b 4)) rfl dX5_copyFrom_39 ?_
  refine lv_aload_n hx hb dX5_copyFrom_42 rfl (lv_at hl 0 rfl) ?_
  refine pq_get S hK (pq_P1 hP) inX5 0 rfl rfl 3 (by decide) fl_X5_21 rfl (v := .ref (a 4)) rfl dX5_copyFrom_43 ?_
  refine pq_copy S vn_X5_24 hK hP hD hS hA 9 4 rfl rfl (by decide) (by decide) hl.1 (Nat.le_of_ble_eq_true rfl) dX5_copyFrom_46 (by decide) ⟨Nat.le_refl _, Nat.le_refl _⟩ (fun H locs hP hS => ?_)
  replace hP : va_P g.1 pq_cl (winW g a ((pq_cp 4 O.1 T.1), (pq_cp 4 O.2.1 T.2.1), (pq_cp 4 O.2.2.1 T.2.2.1), (pq_cp 4 O.2.2.2 T.2.2.2)) ++ winW g b O) H := hP
  replace hD : va_D A (winW g a ((pq_cp 4 O.1 T.1), (pq_cp 4 O.2.1 T.2.1), (pq_cp 4 O.2.2.1 T.2.2.1), (pq_cp 4 O.2.2.2 T.2.2.2)) ++ winW g b O) := pq_adr hD (ad_app (ad_X5 _ _) (ad_X5 _ _))
  exact hend _ _ _ _ dX5_copyFrom_49 (by rw [← Option.some.inj hf]; exact hP) hS
def f_X5_open (T : WinS) (p1 : Int32) (p2 : Int32) (p3 : Int32) (p4 : Int32) (p5 : Int32) : Option (WinS) :=
    some ((pq_wr 4 T.1 p1 p2), (pq_wr 4 T.2.1 p1 p3), (pq_wr 4 T.2.2.1 p1 p4), (pq_wr 4 T.2.2.2 p1 p5))
set_option maxHeartbeats 4000000 in
set_option maxRecDepth 100000 in
theorem c_X5_open (l : Launch) (g : pq_g) (a : Nat → Nat) (T : WinS) (p1 : Int32) (p2 : Int32) (p3 : Int32) (p4 : Int32) (p5 : Int32) (T1 : WinS) (hf : f_X5_open T p1 p2 p3 p4 p5 = some T1) : pq_Mv l yX5_open cX5_open 6 2 g (winW g a T) [.ref (a 0), .int p1, .int p2, .int p3, .int p4, .int p5] (winW g a T1) := by
  rw [f_X5_open] at hf
  refine pq_Mv.of (own := RX5) (by decide) rfl (Nat.le_of_ble_eq_true rfl) rfl ?_
  intro p e s m below meth c ls Q A S hP hK hD hS hA hl hend
  obtain ⟨hx, hb, hml, hown, hts⟩ := id S
  refine lv_aload_n hx hb dX5_open_0 rfl (lv_at hl 0 rfl) ?_
  refine pq_get S hK hP inX5 0 rfl rfl 0 (by decide) fl_X5_9 rfl (v := .ref (a 1)) rfl dX5_open_1 ?_
  refine lv_iload_n hx hb dX5_open_4 rfl (lv_at hl 1 rfl) ?_
  refine lv_iload_n hx hb dX5_open_5 rfl (lv_at hl 2 rfl) ?_
  refine pq_put S vn_X5_28 hK hP hD hS hA 1 rfl (by decide) hl.1 (Nat.le_of_ble_eq_true rfl) dX5_open_6 (by decide) ⟨Nat.le_refl _, Nat.le_refl _⟩ (fun H locs hP hS => ?_)
  replace hP : va_P g.1 pq_cl (winW g a ((pq_wr 4 T.1 p1 p2), T.2.1, T.2.2.1, T.2.2.2)) H := hP
  replace hD : va_D A (winW g a ((pq_wr 4 T.1 p1 p2), T.2.1, T.2.2.1, T.2.2.2)) := pq_adr hD (ad_X5 _ _)
  refine lv_aload_n hx hb dX5_open_9 rfl (lv_at hl 0 rfl) ?_
  refine pq_get S hK hP inX5 0 rfl rfl 1 (by decide) fl_X5_15 rfl (v := .ref (a 2)) rfl dX5_open_10 ?_
  refine lv_iload_n hx hb dX5_open_13 rfl (lv_at hl 1 rfl) ?_
  refine lv_iload_n hx hb dX5_open_14 rfl (lv_at hl 3 rfl) ?_
  refine pq_put S vn_X5_28 hK hP hD hS hA 2 rfl (by decide) hl.1 (Nat.le_of_ble_eq_true rfl) dX5_open_15 (by decide) ⟨Nat.le_refl _, Nat.le_refl _⟩ (fun H locs hP hS => ?_)
  replace hP : va_P g.1 pq_cl (winW g a ((pq_wr 4 T.1 p1 p2), (pq_wr 4 T.2.1 p1 p3), T.2.2.1, T.2.2.2)) H := hP
  replace hD : va_D A (winW g a ((pq_wr 4 T.1 p1 p2), (pq_wr 4 T.2.1 p1 p3), T.2.2.1, T.2.2.2)) := pq_adr hD (ad_X5 _ _)
  refine lv_aload_n hx hb dX5_open_18 rfl (lv_at hl 0 rfl) ?_
  refine pq_get S hK hP inX5 0 rfl rfl 2 (by decide) fl_X5_18 rfl (v := .ref (a 3)) rfl dX5_open_19 ?_
  refine lv_iload_n hx hb dX5_open_22 rfl (lv_at hl 1 rfl) ?_
  refine lv_iload hx hb dX5_open_23 (lv_at hl 4 rfl) ?_
  refine pq_put S vn_X5_28 hK hP hD hS hA 3 rfl (by decide) hl.1 (Nat.le_of_ble_eq_true rfl) dX5_open_25 (by decide) ⟨Nat.le_refl _, Nat.le_refl _⟩ (fun H locs hP hS => ?_)
  replace hP : va_P g.1 pq_cl (winW g a ((pq_wr 4 T.1 p1 p2), (pq_wr 4 T.2.1 p1 p3), (pq_wr 4 T.2.2.1 p1 p4), T.2.2.2)) H := hP
  replace hD : va_D A (winW g a ((pq_wr 4 T.1 p1 p2), (pq_wr 4 T.2.1 p1 p3), (pq_wr 4 T.2.2.1 p1 p4), T.2.2.2)) := pq_adr hD (ad_X5 _ _)
  refine lv_aload_n hx hb dX5_open_28 rfl (lv_at hl 0 rfl) ?_
  refine pq_get S hK hP inX5 0 rfl rfl 3 (by decide) fl_X5_21 rfl (v := .ref (a 4)) rfl dX5_open_29 ?_
  refine lv_iload_n hx hb dX5_open_32 rfl (lv_at hl 1 rfl) ?_
  refine lv_iload hx hb dX5_open_33 (lv_at hl 5 rfl) ?_
  refine pq_put S vn_X5_28 hK hP hD hS hA 4 rfl (by decide) hl.1 (Nat.le_of_ble_eq_true rfl) dX5_open_35 (by decide) ⟨Nat.le_refl _, Nat.le_refl _⟩ (fun H locs hP hS => ?_)
  replace hP : va_P g.1 pq_cl (winW g a ((pq_wr 4 T.1 p1 p2), (pq_wr 4 T.2.1 p1 p3), (pq_wr 4 T.2.2.1 p1 p4), (pq_wr 4 T.2.2.2 p1 p5))) H := hP
  replace hD : va_D A (winW g a ((pq_wr 4 T.1 p1 p2), (pq_wr 4 T.2.1 p1 p3), (pq_wr 4 T.2.2.1 p1 p4), (pq_wr 4 T.2.2.2 p1 p5))) := pq_adr hD (ad_X5 _ _)
  exact hend _ _ _ _ dX5_open_38 (by rw [← Option.some.inj hf]; exact hP) hS
def f_X5_close (T : WinS) (p1 : Int32) : Option (WinS) :=
    some (T.1, T.2.1, T.2.2.1, (pq_wr 4 T.2.2.2 p1 0))
set_option maxHeartbeats 4000000 in
set_option maxRecDepth 100000 in
theorem c_X5_close (l : Launch) (g : pq_g) (a : Nat → Nat) (T : WinS) (p1 : Int32) (T1 : WinS) (hf : f_X5_close T p1 = some T1) : pq_Mv l yX5_close cX5_close 2 2 g (winW g a T) [.ref (a 0), .int p1] (winW g a T1) := by
  rw [f_X5_close] at hf
  refine pq_Mv.of (own := RX5) (by decide) rfl (Nat.le_of_ble_eq_true rfl) rfl ?_
  intro p e s m below meth c ls Q A S hP hK hD hS hA hl hend
  obtain ⟨hx, hb, hml, hown, hts⟩ := id S
  refine lv_aload_n hx hb dX5_close_0 rfl (lv_at hl 0 rfl) ?_
  refine pq_get S hK hP inX5 0 rfl rfl 3 (by decide) fl_X5_21 rfl (v := .ref (a 4)) rfl dX5_close_1 ?_
  refine lv_iload_n hx hb dX5_close_4 rfl (lv_at hl 1 rfl) ?_
  refine lv_iconst (v := 0) hx hb dX5_close_5 (by decide) ?_
  refine pq_put S vn_X5_28 hK hP hD hS hA 4 rfl (by decide) hl.1 (Nat.le_of_ble_eq_true rfl) dX5_close_6 (by decide) ⟨Nat.le_refl _, Nat.le_refl _⟩ (fun H locs hP hS => ?_)
  replace hP : va_P g.1 pq_cl (winW g a (T.1, T.2.1, T.2.2.1, (pq_wr 4 T.2.2.2 p1 0))) H := hP
  replace hD : va_D A (winW g a (T.1, T.2.1, T.2.2.1, (pq_wr 4 T.2.2.2 p1 0))) := pq_adr hD (ad_X5 _ _)
  exact hend _ _ _ _ dX5_close_9 (by rw [← Option.some.inj hf]; exact hP) hS
def f_X5_isOpen (T : WinS) (p1 : Int32) : Option (Int32) :=
    if (pq_rd 4 T.2.2.2 p1) ≤ 0 then
      some 0
    else
      some 1
set_option maxHeartbeats 4000000 in
set_option maxRecDepth 100000 in
theorem c_X5_isOpen (l : Launch) (g : pq_g) (a : Nat → Nat) (T : WinS) (p1 : Int32) (r : Int32) (hf : f_X5_isOpen T p1 = some r) : pq_R l yX5_isOpen cX5_isOpen 2 .boolean 2 g (winW g a T) [.ref (a 0), .int p1] r := by
  rw [f_X5_isOpen] at hf
  refine pq_R.of (own := RX5) (by decide) rfl (Nat.le_of_ble_eq_true rfl) rfl ?_
  intro p e s m below meth c ls Q S hP hK hl hend
  obtain ⟨hx, hb, hml, hown, hts⟩ := id S
  refine lv_aload_n hx hb dX5_isOpen_0 rfl (lv_at hl 0 rfl) ?_
  refine pq_get S hK hP inX5 0 rfl rfl 3 (by decide) fl_X5_21 rfl (v := .ref (a 4)) rfl dX5_isOpen_1 ?_
  refine lv_iload_n hx hb dX5_isOpen_4 rfl (lv_at hl 1 rfl) ?_
  refine pq_at S vn_X5_32 hK hP 4 rfl (by decide) hl.1 (Nat.le_of_ble_eq_true rfl) dX5_isOpen_5 (by decide) ⟨Nat.le_refl _, Nat.le_refl _⟩ ?_
  refine lv_if_le (tgt := 15) hx hb dX5_isOpen_8 (by decide) (fun h1 => ?_) (fun h1 => ?_)
  · replace hf := pq_ifp h1 hf
    refine lv_iconst (v := 0) hx hb dX5_isOpen_15 (by decide) ?_
    exact hend _ _ _ dX5_isOpen_16 rfl hf
  · replace hf := pq_ifn h1 hf
    refine lv_iconst (v := 1) hx hb dX5_isOpen_11 (by decide) ?_
    refine lv_goto (tgt := 16) hx hb dX5_isOpen_12 (by decide) ?_
    exact hend _ _ _ dX5_isOpen_16 rfl hf
def f_X5_limitIn (T : WinS) (p1 : Int32) : Option (Int32) :=
    some (pq_rd 4 T.2.2.2 p1)
set_option maxHeartbeats 4000000 in
set_option maxRecDepth 100000 in
theorem c_X5_limitIn (l : Launch) (g : pq_g) (a : Nat → Nat) (T : WinS) (p1 : Int32) (r : Int32) (hf : f_X5_limitIn T p1 = some r) : pq_R l yX5_limitIn cX5_limitIn 2 .int 2 g (winW g a T) [.ref (a 0), .int p1] r := by
  rw [f_X5_limitIn] at hf
  refine pq_R.of (own := RX5) (by decide) rfl (Nat.le_of_ble_eq_true rfl) rfl ?_
  intro p e s m below meth c ls Q S hP hK hl hend
  obtain ⟨hx, hb, hml, hown, hts⟩ := id S
  refine lv_aload_n hx hb dX5_limitIn_0 rfl (lv_at hl 0 rfl) ?_
  refine pq_get S hK hP inX5 0 rfl rfl 3 (by decide) fl_X5_21 rfl (v := .ref (a 4)) rfl dX5_limitIn_1 ?_
  refine lv_iload_n hx hb dX5_limitIn_4 rfl (lv_at hl 1 rfl) ?_
  refine pq_at S vn_X5_32 hK hP 4 rfl (by decide) hl.1 (Nat.le_of_ble_eq_true rfl) dX5_limitIn_5 (by decide) ⟨Nat.le_refl _, Nat.le_refl _⟩ ?_
  exact hend _ _ _ dX5_limitIn_8 rfl hf
def f_X5_covers (T : WinS) (p1 : Int32) (p2 : Int32) (p3 : Int32) : Option (Int32) :=
    if p2 < (pq_rd 4 T.1 p1) then
      some 0
    else
      if (pq_rd 4 T.2.1 p1) < p2 then
        some 0
      else
        if p3 < (pq_rd 4 T.2.2.1 p1) then
          some 0
        else
          some 1
set_option maxHeartbeats 4000000 in
set_option maxRecDepth 100000 in
theorem c_X5_covers (l : Launch) (g : pq_g) (a : Nat → Nat) (T : WinS) (p1 : Int32) (p2 : Int32) (p3 : Int32) (r : Int32) (hf : f_X5_covers T p1 p2 p3 = some r) : pq_R l yX5_covers cX5_covers 4 .boolean 2 g (winW g a T) [.ref (a 0), .int p1, .int p2, .int p3] r := by
  rw [f_X5_covers] at hf
  refine pq_R.of (own := RX5) (by decide) rfl (Nat.le_of_ble_eq_true rfl) rfl ?_
  intro p e s m below meth c ls Q S hP hK hl hend
  obtain ⟨hx, hb, hml, hown, hts⟩ := id S
  refine lv_iload_n hx hb dX5_covers_0 rfl (lv_at hl 2 rfl) ?_
  refine lv_aload_n hx hb dX5_covers_1 rfl (lv_at hl 0 rfl) ?_
  refine pq_get S hK hP inX5 0 rfl rfl 0 (by decide) fl_X5_9 rfl (v := .ref (a 1)) rfl dX5_covers_2 ?_
  refine lv_iload_n hx hb dX5_covers_5 rfl (lv_at hl 1 rfl) ?_
  refine pq_at S vn_X5_32 hK hP 1 rfl (by decide) hl.1 (Nat.le_of_ble_eq_true rfl) dX5_covers_6 (by decide) ⟨Nat.le_refl _, Nat.le_refl _⟩ ?_
  refine lv_icmp_lt (tgt := 40) hx hb dX5_covers_9 (by decide) (fun h1 => ?_) (fun h1 => ?_)
  · replace hf := pq_ifp h1 hf
    refine lv_iconst (v := 0) hx hb dX5_covers_40 (by decide) ?_
    exact hend _ _ _ dX5_covers_41 rfl hf
  · replace hf := pq_ifn h1 hf
    refine lv_iload_n hx hb dX5_covers_12 rfl (lv_at hl 2 rfl) ?_
    refine lv_aload_n hx hb dX5_covers_13 rfl (lv_at hl 0 rfl) ?_
    refine pq_get S hK hP inX5 0 rfl rfl 1 (by decide) fl_X5_15 rfl (v := .ref (a 2)) rfl dX5_covers_14 ?_
    refine lv_iload_n hx hb dX5_covers_17 rfl (lv_at hl 1 rfl) ?_
    refine pq_at S vn_X5_32 hK hP 2 rfl (by decide) hl.1 (Nat.le_of_ble_eq_true rfl) dX5_covers_18 (by decide) ⟨Nat.le_refl _, Nat.le_refl _⟩ ?_
    refine lv_icmp_gt (tgt := 40) hx hb dX5_covers_21 (by decide) (fun h2 => ?_) (fun h2 => ?_)
    · replace hf := pq_ifp h2 hf
      refine lv_iconst (v := 0) hx hb dX5_covers_40 (by decide) ?_
      exact hend _ _ _ dX5_covers_41 rfl hf
    · replace hf := pq_ifn h2 hf
      refine lv_iload_n hx hb dX5_covers_24 rfl (lv_at hl 3 rfl) ?_
      refine lv_aload_n hx hb dX5_covers_25 rfl (lv_at hl 0 rfl) ?_
      refine pq_get S hK hP inX5 0 rfl rfl 2 (by decide) fl_X5_18 rfl (v := .ref (a 3)) rfl dX5_covers_26 ?_
      refine lv_iload_n hx hb dX5_covers_29 rfl (lv_at hl 1 rfl) ?_
      refine pq_at S vn_X5_32 hK hP 3 rfl (by decide) hl.1 (Nat.le_of_ble_eq_true rfl) dX5_covers_30 (by decide) ⟨Nat.le_refl _, Nat.le_refl _⟩ ?_
      refine lv_icmp_lt (tgt := 40) hx hb dX5_covers_33 (by decide) (fun h3 => ?_) (fun h3 => ?_)
      · replace hf := pq_ifp h3 hf
        refine lv_iconst (v := 0) hx hb dX5_covers_40 (by decide) ?_
        exact hend _ _ _ dX5_covers_41 rfl hf
      · replace hf := pq_ifn h3 hf
        refine lv_iconst (v := 1) hx hb dX5_covers_36 (by decide) ?_
        refine lv_goto (tgt := 41) hx hb dX5_covers_37 (by decide) ?_
        exact hend _ _ _ dX5_covers_41 rfl hf
