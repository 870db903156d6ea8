def f_X4_copyFrom (T : TreeS) (O : TreeS) : Option (TreeS) :=
    some ((pq_cp 25 O.1 T.1), (pq_cp 25 O.2.1 T.2.1), (pq_cp 25 O.2.2.1 T.2.2.1), (pq_cp 25 O.2.2.2.1 T.2.2.2.1), (pq_cp 25 O.2.2.2.2.1 T.2.2.2.2.1), (pq_cp 25 O.2.2.2.2.2.1 T.2.2.2.2.2.1), O.2.2.2.2.2.2)
set_option maxHeartbeats 4000000 in
set_option maxRecDepth 100000 in
theorem c_X4_copyFrom (l : Launch) (g : pq_g) (a : Nat → Nat) (b : Nat → Nat) (T : TreeS) (O : TreeS) (T1 : TreeS) (hf : f_X4_copyFrom T O = some T1) : pq_Mv l yX4_copyFrom cX4_copyFrom 2 2 g (treeW g a T ++ treeW g b O) [.ref (a 0), .ref (b 0)] (treeW g a T1 ++ treeW g b O) := by
  rw [f_X4_copyFrom] at hf
  refine pq_Mv.of (own := RX4) (by decide) rfl (Nat.le_of_ble_eq_true rfl) rfl ?_
  intro p e s m below meth c ls Q A S hP hK hD hS hA hl hend
  obtain ⟨hx, hb, hml, hown, hts⟩ := id S
  refine lv_aload_n hx hb dX4_copyFrom_0 rfl (lv_at hl 1 rfl) ?_
  refine lv_ifnonnull (tgt := 5) hx hb dX4_copyFrom_1 (by decide) ?_
  refine lv_aload_n hx hb dX4_copyFrom_5 rfl (lv_at hl 1 rfl) ?_
  refine pq_get S hK (pq_P2 hP) inX4 0 rfl rfl 0 (by decide) fl_X4_9 rfl (v := .ref (b 1)) rfl dX4_copyFrom_6 ?_
  refine lv_aload_n hx hb dX4_copyFrom_9 rfl (lv_at hl 0 rfl) ?_
  refine pq_get S hK (pq_P1 hP) inX4 0 rfl rfl 0 (by decide) fl_X4_9 rfl (v := .ref (a 1)) rfl dX4_copyFrom_10 ?_
  refine pq_copy S vn_X4_34 hK hP hD hS hA 8 1 rfl rfl (by decide) (by decide) hl.1 (Nat.le_of_ble_eq_true rfl) dX4_copyFrom_13 (by decide) ⟨Nat.le_refl _, Nat.le_refl _⟩ (fun H locs hP hS => ?_)
  replace hP : va_P g.1 pq_cl (treeW g a ((pq_cp 25 O.1 T.1), T.2.1, T.2.2.1, T.2.2.2.1, T.2.2.2.2.1, T.2.2.2.2.2.1, T.2.2.2.2.2.2) ++ treeW g b O) H := hP
  replace hD : va_D A (treeW g a ((pq_cp 25 O.1 T.1), T.2.1, T.2.2.1, T.2.2.2.1, T.2.2.2.2.1, T.2.2.2.2.2.1, T.2.2.2.2.2.2) ++ treeW g b O) := pq_adr hD (ad_app (ad_X4 _ _) (ad_X4 _ _))
  refine lv_aload_n hx hb dX4_copyFrom_16 rfl (lv_at hl 1 rfl) ?_
  refine pq_get S hK (pq_P2 hP) inX4 0 rfl rfl 1 (by decide) fl_X4_15 rfl (v := .ref (b 2)) rfl dX4_copyFrom_17 ?_
  refine lv_aload_n hx hb dX4_copyFrom_20 rfl (lv_at hl 0 rfl) ?_
  refine pq_get S hK (pq_P1 hP) inX4 0 rfl rfl 1 (by decide) fl_X4_15 rfl (v := .ref (a 2)) rfl dX4_copyFrom_21 ?_
  refine pq_copy S vn_X4_34 hK hP hD hS hA 9 2 rfl rfl (by decide) (by decide) hl.1 (Nat.le_of_ble_eq_true rfl) dX4_copyFrom_24 (by decide) ⟨Nat.le_refl _, Nat.le_refl _⟩ (fun H locs hP hS => ?_)
  replace hP : va_P g.1 pq_cl (treeW g a ((pq_cp 25 O.1 T.1), (pq_cp 25 O.2.1 T.2.1), T.2.2.1, T.2.2.2.1, T.2.2.2.2.1, T.2.2.2.2.2.1, T.2.2.2.2.2.2) ++ treeW g b O) H := hP
  replace hD : va_D A (treeW g a ((pq_cp 25 O.1 T.1), (pq_cp 25 O.2.1 T.2.1), T.2.2.1, T.2.2.2.1, T.2.2.2.2.1, T.2.2.2.2.2.1, T.2.2.2.2.2.2) ++ treeW g b O) := pq_adr hD (ad_app (ad_X4 _ _) (ad_X4 _ _))
  refine lv_aload_n hx hb dX4_copyFrom_27 rfl (lv_at hl 1 rfl) ?_
  refine pq_get S hK (pq_P2 hP) inX4 0 rfl rfl 2 (by decide) fl_X4_18 rfl (v := .ref (b 3)) rfl dX4_copyFrom_28 ?_
  refine lv_aload_n hx hb dX4_copyFrom_31 rfl (lv_at hl 0 rfl) ?_
  refine pq_get S hK (pq_P1 hP) inX4 0 rfl rfl 2 (by decide) fl_X4_18 rfl (v := .ref (a 3)) rfl dX4_copyFrom_32 ?_
  refine pq_copy S vn_X4_34 hK hP hD hS hA 10 3 rfl rfl (by decide) (by decide) hl.1 (Nat.le_of_ble_eq_true rfl) dX4_copyFrom_35 (by decide) ⟨Nat.le_refl _, Nat.le_refl _⟩ (fun H locs hP hS => ?_)
  replace hP : va_P g.1 pq_cl (treeW g a ((pq_cp 25 O.1 T.1), (pq_cp 25 O.2.1 T.2.1), (pq_cp 25 O.2.2.1 T.2.2.1), T.2.2.2.1, T.2.2.2.2.1, T.2.2.2.2.2.1, T.2.2.2.2.2.2) ++ treeW g b O) H := hP
  replace hD : va_D A (treeW g a ((pq_cp 25 O.1 T.1), (pq_cp 25 O.2.1 T.2.1), (pq_cp 25 O.2.2.1 T.2.2.1), T.2.2.2.1, T.2.2.2.2.1, T.2.2.2.2.2.1, T.2.2.2.2.2.2) ++ treeW g b O) := pq_adr hD (ad_app (ad_X4 _ _) (ad_X4 _ _))
  refine lv_aload_n hx hb dX4_copyFrom_38 rfl (lv_at hl 1 rfl) ?_
  refine pq_get S hK (pq_P2 hP) inX4 0 rfl rfl 3 (by decide) fl_X4_21 rfl (v := .ref (b 4)) rfl dX4_copyFrom_39 ?_
  refine lv_aload_n hx hb dX4_copyFrom_42 rfl (lv_at hl 0 rfl) ?_
  refine pq_get S hK (pq_P1 hP) inX4 0 rfl rfl 3 (by decide) fl_X4_21 rfl (v := .ref (a 4)) rfl dX4_copyFrom_43 ?_
  refine pq_copy S vn_X4_34 hK hP hD hS hA 11 4 rfl rfl (by decide) (by decide) hl.1 (Nat.le_of_ble_eq_true rfl) dX4_copyFrom_46 (by decide) ⟨Nat.le_refl _, Nat.le_refl _⟩ (fun H locs hP hS => ?_)
  replace hP : va_P g.1 pq_cl (treeW g a ((pq_cp 25 O.1 T.1), (pq_cp 25 O.2.1 T.2.1), (pq_cp 25 O.2.2.1 T.2.2.1), (pq_cp 25 O.2.2.2.1 T.2.2.2.1), T.2.2.2.2.1, T.2.2.2.2.2.1, T.2.2.2.2.2.2) ++ treeW g b O) H := hP
  replace hD : va_D A (treeW g a ((pq_cp 25 O.1 T.1), (pq_cp 25 O.2.1 T.2.1), (pq_cp 25 O.2.2.1 T.2.2.1), (pq_cp 25 O.2.2.2.1 T.2.2.2.1), T.2.2.2.2.1, T.2.2.2.2.2.1, T.2.2.2.2.2.2) ++ treeW g b O) := pq_adr hD (ad_app (ad_X4 _ _) (ad_X4 _ _))
  refine lv_aload_n hx hb dX4_copyFrom_49 rfl (lv_at hl 1 rfl) ?_
  refine pq_get S hK (pq_P2 hP) inX4 0 rfl rfl 4 (by decide) fl_X4_24 rfl (v := .ref (b 5)) rfl dX4_copyFrom_50 ?_
  refine lv_aload_n hx hb dX4_copyFrom_53 rfl (lv_at hl 0 rfl) ?_
  refine pq_get S hK (pq_P1 hP) inX4 0 rfl rfl 4 (by decide) fl_X4_24 rfl (v := .ref (a 5)) rfl dX4_copyFrom_54 ?_
  refine pq_copy S vn_X4_34 hK hP hD hS hA 12 5 rfl rfl (by decide) (by decide) hl.1 (Nat.le_of_ble_eq_true rfl) dX4_copyFrom_57 (by decide) ⟨Nat.le_refl _, Nat.le_refl _⟩ (fun H locs hP hS => ?_)
  replace hP : va_P g.1 pq_cl (treeW g a ((pq_cp 25 O.1 T.1), (pq_cp 25 O.2.1 T.2.1), (pq_cp 25 O.2.2.1 T.2.2.1), (pq_cp 25 O.2.2.2.1 T.2.2.2.1), (pq_cp 25 O.2.2.2.2.1 T.2.2.2.2.1), T.2.2.2.2.2.1, T.2.2.2.2.2.2) ++ treeW g b O) H := hP
  replace hD : va_D A (treeW g a ((pq_cp 25 O.1 T.1), (pq_cp 25 O.2.1 T.2.1), (pq_cp 25 O.2.2.1 T.2.2.1), (pq_cp 25 O.2.2.2.1 T.2.2.2.1), (pq_cp 25 O.2.2.2.2.1 T.2.2.2.2.1), T.2.2.2.2.2.1, T.2.2.2.2.2.2) ++ treeW g b O) := pq_adr hD (ad_app (ad_X4 _ _) (ad_X4 _ _))
  refine lv_aload_n hx hb dX4_copyFrom_60 rfl (lv_at hl 1 rfl) ?_
  refine pq_get S hK (pq_P2 hP) inX4 0 rfl rfl 5 (by decide) fl_X4_27 rfl (v := .ref (b 6)) rfl dX4_copyFrom_61 ?_
  refine lv_aload_n hx hb dX4_copyFrom_64 rfl (lv_at hl 0 rfl) ?_
  refine pq_get S hK (pq_P1 hP) inX4 0 rfl rfl 5 (by decide) fl_X4_27 rfl (v := .ref (a 6)) rfl dX4_copyFrom_65 ?_
  refine pq_copy S vn_X4_34 hK hP hD hS hA 13 6 rfl rfl (by decide) (by decide) hl.1 (Nat.le_of_ble_eq_true rfl) dX4_copyFrom_68 (by decide) ⟨Nat.le_refl _, Nat.le_refl _⟩ (fun H locs hP hS => ?_)
  replace hP : va_P g.1 pq_cl (treeW g a ((pq_cp 25 O.1 T.1), (pq_cp 25 O.2.1 T.2.1), (pq_cp 25 O.2.2.1 T.2.2.1), (pq_cp 25 O.2.2.2.1 T.2.2.2.1), (pq_cp 25 O.2.2.2.2.1 T.2.2.2.2.1), (pq_cp 25 O.2.2.2.2.2.1 T.2.2.2.2.2.1), T.2.2.2.2.2.2) ++ treeW g b O) H := hP
  replace hD : va_D A (treeW g a ((pq_cp 25 O.1 T.1), (pq_cp 25 O.2.1 T.2.1), (pq_cp 25 O.2.2.1 T.2.2.1), (pq_cp 25 O.2.2.2.1 T.2.2.2.1), (pq_cp 25 O.2.2.2.2.1 T.2.2.2.2.1), (pq_cp 25 O.2.2.2.2.2.1 T.2.2.2.2.2.1), T.2.2.2.2.2.2) ++ treeW g b O) := pq_adr hD (ad_app (ad_X4 _ _) (ad_X4 _ _))
  refine lv_aload_n hx hb dX4_copyFrom_71 rfl (lv_at hl 0 rfl) ?_
  refine lv_aload_n hx hb dX4_copyFrom_72 rfl (lv_at hl 1 rfl) ?_
  refine pq_get S hK (pq_P2 hP) inX4 0 rfl rfl 6 (by decide) fl_X4_30 rfl (v := .int O.2.2.2.2.2.2) rfl dX4_copyFrom_73 ?_
  refine pq_putf S hK hP hD hS inX4 tyX4_ok nmX4 0 rfl rfl 6 (by decide) fl_X4_30 rfl rfl (ty := .int) rfl rfl rfl (Nat.le_of_ble_eq_true rfl) dX4_copyFrom_76 (fun H locs hP hS => ?_)
  replace hP : va_P g.1 pq_cl (treeW g a ((pq_cp 25 O.1 T.1), (pq_cp 25 O.2.1 T.2.1), (pq_cp 25 O.2.2.1 T.2.2.1), (pq_cp 25 O.2.2.2.1 T.2.2.2.1), (pq_cp 25 O.2.2.2.2.1 T.2.2.2.2.1), (pq_cp 25 O.2.2.2.2.2.1 T.2.2.2.2.2.1), O.2.2.2.2.2.2) ++ treeW g b O) H := hP
  replace hD : va_D A (treeW g a ((pq_cp 25 O.1 T.1), (pq_cp 25 O.2.1 T.2.1), (pq_cp 25 O.2.2.1 T.2.2.1), (pq_cp 25 O.2.2.2.1 T.2.2.2.1), (pq_cp 25 O.2.2.2.2.1 T.2.2.2.2.1), (pq_cp 25 O.2.2.2.2.2.1 T.2.2.2.2.2.1), O.2.2.2.2.2.2) ++ treeW g b O) := pq_adr hD (ad_app (ad_X4 _ _) (ad_X4 _ _))
  exact hend _ _ _ _ dX4_copyFrom_79 (by rw [← Option.some.inj hf]; exact hP) hS
def f_X4_topmost (T : TreeS) : Option (Int32) :=
    some T.2.2.2.2.2.2
set_option maxHeartbeats 4000000 in
set_option maxRecDepth 100000 in
theorem c_X4_topmost (l : Launch) (g : pq_g) (a : Nat → Nat) (T : TreeS) (r : Int32) (hf : f_X4_topmost T = some r) : pq_R l yX4_topmost cX4_topmost 1 .int 1 g (treeW g a T) [.ref (a 0)] r := by
  rw [f_X4_topmost] at hf
  refine pq_R.of (own := RX4) (by decide) rfl (Nat.le_of_ble_eq_true rfl) rfl ?_
  intro p e s m below meth c ls Q S hP hK hl hend
  obtain ⟨hx, hb, hml, hown, hts⟩ := id S
  refine lv_aload_n hx hb dX4_topmost_0 rfl (lv_at hl 0 rfl) ?_
  refine pq_get S hK hP inX4 0 rfl rfl 6 (by decide) fl_X4_30 rfl (v := .int T.2.2.2.2.2.2) rfl dX4_topmost_1 ?_
  exact hend _ _ _ dX4_topmost_4 rfl hf
def f_X4_pointCount (T : TreeS) : Option (Int32) :=
    some (pq_rd 25 T.2.2.2.2.2.1 T.2.2.2.2.2.2)
set_option maxHeartbeats 4000000 in
set_option maxRecDepth 100000 in
theorem c_X4_pointCount (l : Launch) (g : pq_g) (a : Nat → Nat) (T : TreeS) (r : Int32) (hf : f_X4_pointCount T = some r) : pq_R l yX4_pointCount cX4_pointCount 1 .int 2 g (treeW g a T) [.ref (a 0)] r := by
  rw [f_X4_pointCount] at hf
  refine pq_R.of (own := RX4) (by decide) rfl (Nat.le_of_ble_eq_true rfl) rfl ?_
  intro p e s m below meth c ls Q S hP hK hl hend
  obtain ⟨hx, hb, hml, hown, hts⟩ := id S
  refine lv_aload_n hx hb dX4_pointCount_0 rfl (lv_at hl 0 rfl) ?_
  refine pq_get S hK hP inX4 0 rfl rfl 5 (by decide) fl_X4_27 rfl (v := .ref (a 6)) rfl dX4_pointCount_1 ?_
  refine lv_aload_n hx hb dX4_pointCount_4 rfl (lv_at hl 0 rfl) ?_
  refine pq_get S hK hP inX4 0 rfl rfl 6 (by decide) fl_X4_30 rfl (v := .int T.2.2.2.2.2.2) rfl dX4_pointCount_5 ?_
  refine pq_at S vn_X4_38 hK hP 6 rfl (by decide) hl.1 (Nat.le_of_ble_eq_true rfl) dX4_pointCount_8 (by decide) ⟨Nat.le_refl _, Nat.le_refl _⟩ ?_
  exact hend _ _ _ dX4_pointCount_11 rfl hf
def f_X4_keyIn (T : TreeS) (p1 : Int32) : Option (Int32) :=
    some (pq_rd 25 T.1 p1)
set_option maxHeartbeats 4000000 in
set_option maxRecDepth 100000 in
theorem c_X4_keyIn (l : Launch) (g : pq_g) (a : Nat → Nat) (T : TreeS) (p1 : Int32) (r : Int32) (hf : f_X4_keyIn T p1 = some r) : pq_R l yX4_keyIn cX4_keyIn 2 .int 2 g (treeW g a T) [.ref (a 0), .int p1] r := by
  rw [f_X4_keyIn] at hf
  refine pq_R.of (own := RX4) (by decide) rfl (Nat.le_of_ble_eq_true rfl) rfl ?_
  intro p e s m below meth c ls Q S hP hK hl hend
  obtain ⟨hx, hb, hml, hown, hts⟩ := id S
  refine lv_aload_n hx hb dX4_keyIn_0 rfl (lv_at hl 0 rfl) ?_
  refine pq_get S hK hP inX4 0 rfl rfl 0 (by decide) fl_X4_9 rfl (v := .ref (a 1)) rfl dX4_keyIn_1 ?_
  refine lv_iload_n hx hb dX4_keyIn_4 rfl (lv_at hl 1 rfl) ?_
  refine pq_at S vn_X4_38 hK hP 1 rfl (by decide) hl.1 (Nat.le_of_ble_eq_true rfl) dX4_keyIn_5 (by decide) ⟨Nat.le_refl _, Nat.le_refl _⟩ ?_
  exact hend _ _ _ dX4_keyIn_8 rfl hf
def f_X4_priorityIn (T : TreeS) (p1 : Int32) : Option (Int32) :=
    some (pq_rd 25 T.2.1 p1)
set_option maxHeartbeats 4000000 in
set_option maxRecDepth 100000 in
theorem c_X4_priorityIn (l : Launch) (g : pq_g) (a : Nat → Nat) (T : TreeS) (p1 : Int32) (r : Int32) (hf : f_X4_priorityIn T p1 = some r) : pq_R l yX4_priorityIn cX4_priorityIn 2 .int 2 g (treeW g a T) [.ref (a 0), .int p1] r := by
  rw [f_X4_priorityIn] at hf
  refine pq_R.of (own := RX4) (by decide) rfl (Nat.le_of_ble_eq_true rfl) rfl ?_
  intro p e s m below meth c ls Q S hP hK hl hend
  obtain ⟨hx, hb, hml, hown, hts⟩ := id S
  refine lv_aload_n hx hb dX4_priorityIn_0 rfl (lv_at hl 0 rfl) ?_
  refine pq_get S hK hP inX4 0 rfl rfl 1 (by decide) fl_X4_15 rfl (v := .ref (a 2)) rfl dX4_priorityIn_1 ?_
  refine lv_iload_n hx hb dX4_priorityIn_4 rfl (lv_at hl 1 rfl) ?_
  refine pq_at S vn_X4_38 hK hP 2 rfl (by decide) hl.1 (Nat.le_of_ble_eq_true rfl) dX4_priorityIn_5 (by decide) ⟨Nat.le_refl _, Nat.le_refl _⟩ ?_
  exact hend _ _ _ dX4_priorityIn_8 rfl hf
def f_X4_parentIn (T : TreeS) (p1 : Int32) : Option (Int32) :=
    some (pq_rd 25 T.2.2.1 p1)
set_option maxHeartbeats 4000000 in
set_option maxRecDepth 100000 in
theorem c_X4_parentIn (l : Launch) (g : pq_g) (a : Nat → Nat) (T : TreeS) (p1 : Int32) (r : Int32) (hf : f_X4_parentIn T p1 = some r) : pq_R l yX4_parentIn cX4_parentIn 2 .int 2 g (treeW g a T) [.ref (a 0), .int p1] r := by
  rw [f_X4_parentIn] at hf
  refine pq_R.of (own := RX4) (by decide) rfl (Nat.le_of_ble_eq_true rfl) rfl ?_
  intro p e s m below meth c ls Q S hP hK hl hend
  obtain ⟨hx, hb, hml, hown, hts⟩ := id S
  refine lv_aload_n hx hb dX4_parentIn_0 rfl (lv_at hl 0 rfl) ?_
  refine pq_get S hK hP inX4 0 rfl rfl 2 (by decide) fl_X4_18 rfl (v := .ref (a 3)) rfl dX4_parentIn_1 ?_
  refine lv_iload_n hx hb dX4_parentIn_4 rfl (lv_at hl 1 rfl) ?_
  refine pq_at S vn_X4_38 hK hP 3 rfl (by decide) hl.1 (Nat.le_of_ble_eq_true rfl) dX4_parentIn_5 (by decide) ⟨Nat.le_refl _, Nat.le_refl _⟩ ?_
  exact hend _ _ _ dX4_parentIn_8 rfl hf
def f_X4_leftIn (T : TreeS) (p1 : Int32) : Option (Int32) :=
    some (pq_rd 25 T.2.2.2.1 p1)
set_option maxHeartbeats 4000000 in
set_option maxRecDepth 100000 in
theorem c_X4_leftIn (l : Launch) (g : pq_g) (a : Nat → Nat) (T : TreeS) (p1 : Int32) (r : Int32) (hf : f_X4_leftIn T p1 = some r) : pq_R l yX4_leftIn cX4_leftIn 2 .int 2 g (treeW g a T) [.ref (a 0), .int p1] r := by
  rw [f_X4_leftIn] at hf
  refine pq_R.of (own := RX4) (by decide) rfl (Nat.le_of_ble_eq_true rfl) rfl ?_
  intro p e s m below meth c ls Q S hP hK hl hend
  obtain ⟨hx, hb, hml, hown, hts⟩ := id S
  refine lv_aload_n hx hb dX4_leftIn_0 rfl (lv_at hl 0 rfl) ?_
  refine pq_get S hK hP inX4 0 rfl rfl 3 (by decide) fl_X4_21 rfl (v := .ref (a 4)) rfl dX4_leftIn_1 ?_
  refine lv_iload_n hx hb dX4_leftIn_4 rfl (lv_at hl 1 rfl) ?_
  refine pq_at S vn_X4_38 hK hP 4 rfl (by decide) hl.1 (Nat.le_of_ble_eq_true rfl) dX4_leftIn_5 (by decide) ⟨Nat.le_refl _, Nat.le_refl _⟩ ?_
  exact hend _ _ _ dX4_leftIn_8 rfl hf
def f_X4_rightIn (T : TreeS) (p1 : Int32) : Option (Int32) :=
    some (pq_rd 25 T.2.2.2.2.1 p1)
set_option maxHeartbeats 4000000 in
set_option maxRecDepth 100000 in
theorem c_X4_rightIn (l : Launch) (g : pq_g) (a : Nat → Nat) (T : TreeS) (p1 : Int32) (r : Int32) (hf : f_X4_rightIn T p1 = some r) : pq_R l yX4_rightIn cX4_rightIn 2 .int 2 g (treeW g a T) [.ref (a 0), .int p1] r := by
  rw [f_X4_rightIn] at hf
  refine pq_R.of (own := RX4) (by decide) rfl (Nat.le_of_ble_eq_true rfl) rfl ?_
  intro p e s m below meth c ls Q S hP hK hl hend
  obtain ⟨hx, hb, hml, hown, hts⟩ := id S
  refine lv_aload_n hx hb dX4_rightIn_0 rfl (lv_at hl 0 rfl) ?_
  refine pq_get S hK hP inX4 0 rfl rfl 4 (by decide) fl_X4_24 rfl (v := .ref (a 5)) rfl dX4_rightIn_1 ?_
  refine lv_iload_n hx hb dX4_rightIn_4 rfl (lv_at hl 1 rfl) ?_
  refine pq_at S vn_X4_38 hK hP 5 rfl (by decide) hl.1 (Nat.le_of_ble_eq_true rfl) dX4_rightIn_5 (by decide) ⟨Nat.le_refl _, Nat.le_refl _⟩ ?_
  exact hend _ _ _ dX4_rightIn_8 rfl hf
def f_X4_countIn (T : TreeS) (p1 : Int32) : Option (Int32) :=
    some (pq_rd 25 T.2.2.2.2.2.1 p1)
set_option maxHeartbeats 4000000 in
set_option maxRecDepth 100000 in
theorem c_X4_countIn (l : Launch) (g : pq_g) (a : Nat → Nat) (T : TreeS) (p1 : Int32) (r : Int32) (hf : f_X4_countIn T p1 = some r) : pq_R l yX4_countIn cX4_countIn 2 .int 2 g (treeW g a T) [.ref (a 0), .int p1] r := by
  rw [f_X4_countIn] at hf
  refine pq_R.of (own := RX4) (by decide) rfl (Nat.le_of_ble_eq_true rfl) rfl ?_
  intro p e s m below meth c ls Q S hP hK hl hend
  obtain ⟨hx, hb, hml, hown, hts⟩ := id S
  refine lv_aload_n hx hb dX4_countIn_0 rfl (lv_at hl 0 rfl) ?_
  refine pq_get S hK hP inX4 0 rfl rfl 5 (by decide) fl_X4_27 rfl (v := .ref (a 6)) rfl dX4_countIn_1 ?_
  refine lv_iload_n hx hb dX4_countIn_4 rfl (lv_at hl 1 rfl) ?_
  refine pq_at S vn_X4_38 hK hP 6 rfl (by decide) hl.1 (Nat.le_of_ble_eq_true rfl) dX4_countIn_5 (by decide) ⟨Nat.le_refl _, Nat.le_refl _⟩ ?_
  exact hend _ _ _ dX4_countIn_8 rfl hf
def f_X4_belongsAbove (T : TreeS) (p1 : Int32) (p2 : Int32) : Option (Int32) :=
    if (pq_rd 25 T.2.1 p2) < (pq_rd 25 T.2.1 p1) then
      some 1
    else
      if (pq_rd 25 T.2.1 p1) = (pq_rd 25 T.2.1 p2) then
        if (pq_rd 25 T.1 p2) ≤ (pq_rd 25 T.1 p1) then
          some 0
        else
          some 1
      else
        some 0
set_option maxHeartbeats 4000000 in
set_option maxRecDepth 100000 in
theorem c_X4_belongsAbove (l : Launch) (g : pq_g) (a : Nat → Nat) (T : TreeS) (p1 : Int32) (p2 : Int32) (r : Int32) (hf : f_X4_belongsAbove T p1 p2 = some r) : pq_R l yX4_belongsAbove cX4_belongsAbove 5 .boolean 2 g (treeW g a T) [.ref (a 0), .int p1, .int p2] r := by
  rw [f_X4_belongsAbove] at hf
  refine pq_R.of (own := RX4) (by decide) rfl (Nat.le_of_ble_eq_true rfl) rfl ?_
  intro p e s m below meth c ls Q S hP hK hl hend
  obtain ⟨hx, hb, hml, hown, hts⟩ := id S
  refine lv_aload_n hx hb dX4_belongsAbove_0 rfl (lv_at hl 0 rfl) ?_
  refine pq_get S hK hP inX4 0 rfl rfl 1 (by decide) fl_X4_15 rfl (v := .ref (a 2)) rfl dX4_belongsAbove_1 ?_
  refine lv_iload_n hx hb dX4_belongsAbove_4 rfl (lv_at hl 1 rfl) ?_
  refine pq_at S vn_X4_38 hK hP 2 rfl (by decide) hl.1 (Nat.le_of_ble_eq_true rfl) dX4_belongsAbove_5 (by decide) ⟨Nat.le_refl _, Nat.le_refl _⟩ ?_
  refine lv_istore_n (lv' := [(3, .int (pq_rd 25 T.2.1 p1)), (0, .ref (a 0)), (1, .int p1), (2, .int p2)]) hx hb dX4_belongsAbove_8 rfl hl (by decide) rfl (fun ls hl => ?_)
  refine lv_aload_n hx hb dX4_belongsAbove_9 rfl (lv_at hl 1 rfl) ?_
  refine pq_get S hK hP inX4 0 rfl rfl 1 (by decide) fl_X4_15 rfl (v := .ref (a 2)) rfl dX4_belongsAbove_10 ?_
  refine lv_iload_n hx hb dX4_belongsAbove_13 rfl (lv_at hl 3 rfl) ?_
  refine pq_at S vn_X4_38 hK hP 2 rfl (by decide) hl.1 (Nat.le_of_ble_eq_true rfl) dX4_belongsAbove_14 (by decide) ⟨Nat.le_refl _, Nat.le_refl _⟩ ?_
  refine lv_istore (lv' := [(4, .int (pq_rd 25 T.2.1 p2)), (3, .int (pq_rd 25 T.2.1 p1)), (0, .ref (a 0)), (1, .int p1), (2, .int p2)]) hx hb dX4_belongsAbove_17 hl (by decide) rfl (fun ls hl => ?_)
  refine lv_iload_n hx hb dX4_belongsAbove_19 rfl (lv_at hl 1 rfl) ?_
  refine lv_iload hx hb dX4_belongsAbove_20 (lv_at hl 0 rfl) ?_
  refine lv_icmp_gt (tgt := 50) hx hb dX4_belongsAbove_22 (by decide) (fun h1 => ?_) (fun h1 => ?_)
  · replace hf := pq_ifp h1 hf
    refine lv_iconst (v := 1) hx hb dX4_belongsAbove_50 (by decide) ?_
    refine lv_goto (tgt := 55) hx hb dX4_belongsAbove_51 (by decide) ?_
    exact hend _ _ _ dX4_belongsAbove_55 rfl hf
  · replace hf := pq_ifn h1 hf
    refine lv_iload_n hx hb dX4_belongsAbove_25 rfl (lv_at hl 1 rfl) ?_
    refine lv_iload hx hb dX4_belongsAbove_26 (lv_at hl 0 rfl) ?_
    refine lv_icmp_ne (tgt := 54) hx hb dX4_belongsAbove_28 (by decide) (fun h2 => ?_) (fun h2 => ?_)
    · replace hf := pq_ifn h2 hf
      refine lv_iconst (v := 0) hx hb dX4_belongsAbove_54 (by decide) ?_
      exact hend _ _ _ dX4_belongsAbove_55 rfl hf
    · replace hf := pq_ifp h2 hf
      refine lv_aload_n hx hb dX4_belongsAbove_31 rfl (lv_at hl 2 rfl) ?_
      refine pq_get S hK hP inX4 0 rfl rfl 0 (by decide) fl_X4_9 rfl (v := .ref (a 1)) rfl dX4_belongsAbove_32 ?_
      refine lv_iload_n hx hb dX4_belongsAbove_35 rfl (lv_at hl 3 rfl) ?_
      refine pq_at S vn_X4_38 hK hP 1 rfl (by decide) hl.1 (Nat.le_of_ble_eq_true rfl) dX4_belongsAbove_36 (by decide) ⟨Nat.le_refl _, Nat.le_refl _⟩ ?_
      refine lv_aload_n hx hb dX4_belongsAbove_39 rfl (lv_at hl 2 rfl) ?_
      refine pq_get S hK hP inX4 0 rfl rfl 0 (by decide) fl_X4_9 rfl (v := .ref (a 1)) rfl dX4_belongsAbove_40 ?_
      refine lv_iload_n hx hb dX4_belongsAbove_43 rfl (lv_at hl 4 rfl) ?_
      refine pq_at S vn_X4_38 hK hP 1 rfl (by decide) hl.1 (Nat.le_of_ble_eq_true rfl) dX4_belongsAbove_44 (by decide) ⟨Nat.le_refl _, Nat.le_refl _⟩ ?_
      refine lv_icmp_ge (tgt := 54) hx hb dX4_belongsAbove_47 (by decide) (fun h3 => ?_) (fun h3 => ?_)
      · replace hf := pq_ifp h3 hf
        refine lv_iconst (v := 0) hx hb dX4_belongsAbove_54 (by decide) ?_
        exact hend _ _ _ dX4_belongsAbove_55 rfl hf
      · replace hf := pq_ifn h3 hf
        refine lv_iconst (v := 1) hx hb dX4_belongsAbove_50 (by decide) ?_
        refine lv_goto (tgt := 55) hx hb dX4_belongsAbove_51 (by decide) ?_
        exact hend _ _ _ dX4_belongsAbove_55 rfl hf
def f_X4_recount (T : TreeS) (p1 : Int32) : Option (TreeS) :=
    some (T.1, T.2.1, T.2.2.1, T.2.2.2.1, T.2.2.2.2.1, (pq_wr 25 T.2.2.2.2.2.1 p1 ((1 + (pq_rd 25 T.2.2.2.2.2.1 (pq_rd 25 T.2.2.2.1 p1))) + (pq_rd 25 T.2.2.2.2.2.1 (pq_rd 25 T.2.2.2.2.1 p1)))), T.2.2.2.2.2.2)
set_option maxHeartbeats 4000000 in
set_option maxRecDepth 100000 in
theorem c_X4_recount (l : Launch) (g : pq_g) (a : Nat → Nat) (T : TreeS) (p1 : Int32) (T1 : TreeS) (hf : f_X4_recount T p1 = some T1) : pq_Mv l yX4_recount cX4_recount 2 2 g (treeW g a T) [.ref (a 0), .int p1] (treeW g a T1) := by
  rw [f_X4_recount] at hf
  refine pq_Mv.of (own := RX4) (by decide) rfl (Nat.le_of_ble_eq_true rfl) rfl ?_
  intro p e s m below meth c ls Q A S hP hK hD hS hA hl hend
  obtain ⟨hx, hb, hml, hown, hts⟩ := id S
  refine lv_aload_n hx hb dX4_recount_0 rfl (lv_at hl 0 rfl) ?_
  refine pq_get S hK hP inX4 0 rfl rfl 5 (by decide) fl_X4_27 rfl (v := .ref (a 6)) rfl dX4_recount_1 ?_
  refine lv_iload_n hx hb dX4_recount_4 rfl (lv_at hl 1 rfl) ?_
  refine lv_iconst (v := 1) hx hb dX4_recount_5 (by decide) ?_
  refine lv_aload_n hx hb dX4_recount_6 rfl (lv_at hl 0 rfl) ?_
  refine pq_get S hK hP inX4 0 rfl rfl 5 (by decide) fl_X4_27 rfl (v := .ref (a 6)) rfl dX4_recount_7 ?_
  refine lv_aload_n hx hb dX4_recount_10 rfl (lv_at hl 0 rfl) ?_
  refine pq_get S hK hP inX4 0 rfl rfl 3 (by decide) fl_X4_21 rfl (v := .ref (a 4)) rfl dX4_recount_11 ?_
  refine lv_iload_n hx hb dX4_recount_14 rfl (lv_at hl 1 rfl) ?_
  refine pq_at S vn_X4_38 hK hP 4 rfl (by decide) hl.1 (Nat.le_of_ble_eq_true rfl) dX4_recount_15 (by decide) ⟨Nat.le_refl _, Nat.le_refl _⟩ ?_
  refine pq_at S vn_X4_38 hK hP 6 rfl (by decide) hl.1 (Nat.le_of_ble_eq_true rfl) dX4_recount_18 (by decide) ⟨Nat.le_refl _, Nat.le_refl _⟩ ?_
  refine lv_iadd hx hb dX4_recount_21 ?_
  refine lv_aload_n hx hb dX4_recount_22 rfl (lv_at hl 0 rfl) ?_
  refine pq_get S hK hP inX4 0 rfl rfl 5 (by decide) fl_X4_27 rfl (v := .ref (a 6)) rfl dX4_recount_23 ?_
  refine lv_aload_n hx hb dX4_recount_26 rfl (lv_at hl 0 rfl) ?_
  refine pq_get S hK hP inX4 0 rfl rfl 4 (by decide) fl_X4_24 rfl (v := .ref (a 5)) rfl dX4_recount_27 ?_
  refine lv_iload_n hx hb dX4_recount_30 rfl (lv_at hl 1 rfl) ?_
  refine pq_at S vn_X4_38 hK hP 5 rfl (by decide) hl.1 (Nat.le_of_ble_eq_true rfl) dX4_recount_31 (by decide) ⟨Nat.le_refl _, Nat.le_refl _⟩ ?_
  refine pq_at S vn_X4_38 hK hP 6 rfl (by decide) hl.1 (Nat.le_of_ble_eq_true rfl) dX4_recount_34 (by decide) ⟨Nat.le_refl _, Nat.le_refl _⟩ ?_
  refine lv_iadd hx hb dX4_recount_37 ?_
  refine pq_put S vn_X4_42 hK hP hD hS hA 6 rfl (by decide) hl.1 (Nat.le_of_ble_eq_true rfl) dX4_recount_38 (by decide) ⟨Nat.le_refl _, Nat.le_refl _⟩ (fun H locs hP hS => ?_)
  replace hP : va_P g.1 pq_cl (treeW g a (T.1, T.2.1, T.2.2.1, T.2.2.2.1, T.2.2.2.2.1, (pq_wr 25 T.2.2.2.2.2.1 p1 ((1 + (pq_rd 25 T.2.2.2.2.2.1 (pq_rd 25 T.2.2.2.1 p1))) + (pq_rd 25 T.2.2.2.2.2.1 (pq_rd 25 T.2.2.2.2.1 p1)))), T.2.2.2.2.2.2)) H := hP
  replace hD : va_D A (treeW g a (T.1, T.2.1, T.2.2.1, T.2.2.2.1, T.2.2.2.2.1, (pq_wr 25 T.2.2.2.2.2.1 p1 ((1 + (pq_rd 25 T.2.2.2.2.2.1 (pq_rd 25 T.2.2.2.1 p1))) + (pq_rd 25 T.2.2.2.2.2.1 (pq_rd 25 T.2.2.2.2.1 p1)))), T.2.2.2.2.2.2)) := pq_adr hD (ad_X4 _ _)
  exact hend _ _ _ _ dX4_recount_41 (by rw [← Option.some.inj hf]; exact hP) hS
def f_X4_recountUpwards_c4 : Nat → TreeS → Int32 → Int32 → Option (TreeS)
  | 0, _, _, _ => none
  | n + 1, T, v2, v3 =>
    if 24 ≤ v3 then
      some T
    else
      if v2 = 0 then
        some T
      else
        (f_X4_recount T v2).bind fun q4 =>
        f_X4_recountUpwards_c4 n q4 (pq_rd 25 q4.2.2.1 v2) (v3 + 1)
def f_X4_recountUpwards (T : TreeS) (p1 : Int32) : Option (TreeS) :=
    f_X4_recountUpwards_c4 200 T p1 0
set_option maxHeartbeats 4000000 in
set_option maxRecDepth 100000 in
theorem c_X4_recountUpwards (l : Launch) (g : pq_g) (a : Nat → Nat) (T : TreeS) (p1 : Int32) (T1 : TreeS) (hf : f_X4_recountUpwards T p1 = some T1) : pq_Mv l yX4_recountUpwards cX4_recountUpwards 4 3 g (treeW g a T) [.ref (a 0), .int p1] (treeW g a T1) := by
  rw [f_X4_recountUpwards] at hf
  refine pq_Mv.of (own := RX4) (by decide) rfl (Nat.le_of_ble_eq_true rfl) rfl ?_
  intro p e s m below meth c ls Q A S hP hK hD hS hA hl hend
  obtain ⟨hx, hb, hml, hown, hts⟩ := id S
  have B4 : ∀ (n4 : Nat) (T : TreeS) (v2 : Int32) (v3 : Int32) (ls : Array Slot) (H : Heap) (locs : List Loc), va_P g.1 pq_cl (treeW g a T) H → va_D A (treeW g a T) → va_S A s.heap H locs → lv_has ls 4 [(0, .ref (a 0)), (2, .int v2), (3, .int v3)] → f_X4_recountUpwards_c4 n4 T v2 v3 = some T1 → W p l e (pq_rm 3 0 0) s m ([.ref (a 0), .int p1] : List Value).toArray below meth c H locs 0 0 Q (F0 m 4 ls []) := by
    intro n4
    induction n4 with
    | zero =>
      intro T v2 v3 ls H locs hP hD hS hl hf
      exact absurd hf (by simp [f_X4_recountUpwards_c4])
    | succ n4 ih4 =>
      intro T v2 v3 ls H locs hP hD hS hl hf
      rw [f_X4_recountUpwards_c4] at hf
      refine lv_iload_n hx hb dX4_recountUpwards_4 rfl (lv_at hl 2 rfl) ?_
      refine lv_bipush (v := 24) hx hb dX4_recountUpwards_5 (by decide) ?_
      refine lv_icmp_ge (tgt := 34) hx hb dX4_recountUpwards_7 (by decide) (fun h1 => ?_) (fun h1 => ?_)
      · replace hf := pq_ifp h1 hf
        exact hend _ _ _ _ dX4_recountUpwards_34 (by rw [← Option.some.inj hf]; exact hP) hS
      · replace hf := pq_ifn h1 hf
        refine lv_iload_n hx hb dX4_recountUpwards_10 rfl (lv_at hl 1 rfl) ?_
        refine lv_if_eq (tgt := 34) hx hb dX4_recountUpwards_11 (by decide) (fun h2 => ?_) (fun h2 => ?_)
        · replace hf := pq_ifp h2 hf
          exact hend _ _ _ _ dX4_recountUpwards_34 (by rw [← Option.some.inj hf]; exact hP) hS
        · replace hf := pq_ifn h2 hf
          refine lv_aload_n hx hb dX4_recountUpwards_14 rfl (lv_at hl 0 rfl) ?_
          refine lv_iload_n hx hb dX4_recountUpwards_15 rfl (lv_at hl 1 rfl) ?_
          obtain ⟨q4, e3, hf⟩ := pq_bind hf
          refine pq_cVv S (c_X4_recount l g a T v2 q4 e3) vv_X4_46 hK hP hD hS hA rfl rfl rfl rfl rfl hl.1 (Nat.le_of_ble_eq_true rfl) dX4_recountUpwards_16 (by decide) (by decide) ⟨Nat.le_refl _, Nat.le_refl _⟩ (fun H9 locs hk hP1 hS => ?_)
          replace hP := hP1
          replace hP : va_P g.1 pq_cl (treeW g a q4) H9 := hP
          replace hD : va_D A (treeW g a q4) := pq_adr hD (ad_X4 _ _)
          clear hk
          generalize H9 = H at hP hS ⊢
          refine lv_aload_n hx hb dX4_recountUpwards_19 rfl (lv_at hl 0 rfl) ?_
          refine pq_get S hK hP inX4 0 rfl rfl 2 (by decide) fl_X4_18 rfl (v := .ref (a 3)) rfl dX4_recountUpwards_20 ?_
          refine lv_iload_n hx hb dX4_recountUpwards_23 rfl (lv_at hl 1 rfl) ?_
          refine pq_at S vn_X4_38 hK hP 3 rfl (by decide) hl.1 (Nat.le_of_ble_eq_true rfl) dX4_recountUpwards_24 (by decide) ⟨Nat.le_refl _, Nat.le_refl _⟩ ?_
          refine lv_istore_n (lv' := [(2, .int (pq_rd 25 q4.2.2.1 v2)), (0, .ref (a 0)), (3, .int v3)]) hx hb dX4_recountUpwards_27 rfl hl (by decide) rfl (fun ls hl => ?_)
          refine lv_iinc (v := (v3 + 1)) (lv' := [(3, .int (v3 + 1)), (2, .int (pq_rd 25 q4.2.2.1 v2)), (0, .ref (a 0))]) hx hb dX4_recountUpwards_28 hl (k := 2) rfl rfl (by decide) rfl (fun ls hl => ?_)
          refine lv_goto (tgt := 4) hx hb dX4_recountUpwards_31 (by decide) ?_
          exact ih4 q4 (pq_rd 25 q4.2.2.1 v2) (v3 + 1) ls _ _ hP hD hS (lv_sub hl [2, 1, 0] rfl) hf
  refine lv_iload_n hx hb dX4_recountUpwards_0 rfl (lv_at hl 1 rfl) ?_
  refine lv_istore_n (lv' := [(2, .int p1), (0, .ref (a 0)), (1, .int p1)]) hx hb dX4_recountUpwards_1 rfl hl (by decide) rfl (fun ls hl => ?_)
  refine lv_iconst (v := 0) hx hb dX4_recountUpwards_2 (by decide) ?_
  refine lv_istore_n (lv' := [(3, .int 0), (2, .int p1), (0, .ref (a 0)), (1, .int p1)]) hx hb dX4_recountUpwards_3 rfl hl (by decide) rfl (fun ls hl => ?_)
  exact B4 200 T p1 0 ls _ _ hP hD hS (lv_sub hl [2, 1, 0] rfl) hf
def f_X4_replaceChild (T : TreeS) (p1 : Int32) (p2 : Int32) (p3 : Int32) : Option (TreeS) :=
    if p1 = 0 then
      some (T.1, T.2.1, T.2.2.1, T.2.2.2.1, T.2.2.2.2.1, T.2.2.2.2.2.1, p3)
    else
      if (pq_rd 25 T.2.2.2.1 p1) = p2 then
        some (T.1, T.2.1, T.2.2.1, (pq_wr 25 T.2.2.2.1 p1 p3), T.2.2.2.2.1, T.2.2.2.2.2.1, T.2.2.2.2.2.2)
      else
        some (T.1, T.2.1, T.2.2.1, T.2.2.2.1, (pq_wr 25 T.2.2.2.2.1 p1 p3), T.2.2.2.2.2.1, T.2.2.2.2.2.2)
set_option maxHeartbeats 4000000 in
set_option maxRecDepth 100000 in
theorem c_X4_replaceChild (l : Launch) (g : pq_g) (a : Nat → Nat) (T : TreeS) (p1 : Int32) (p2 : Int32) (p3 : Int32) (T1 : TreeS) (hf : f_X4_replaceChild T p1 p2 p3 = some T1) : pq_Mv l yX4_replaceChild cX4_replaceChild 4 2 g (treeW g a T) [.ref (a 0), .int p1, .int p2, .int p3] (treeW g a T1) := by
  rw [f_X4_replaceChild] at hf
  refine pq_Mv.of (own := RX4) (by decide) rfl (Nat.le_of_ble_eq_true rfl) rfl ?_
  intro p e s m below meth c ls Q A S hP hK hD hS hA hl hend
  obtain ⟨hx, hb, hml, hown, hts⟩ := id S
  refine lv_iload_n hx hb dX4_replaceChild_0 rfl (lv_at hl 1 rfl) ?_
  refine lv_if_ne (tgt := 12) hx hb dX4_replaceChild_1 (by decide) (fun h1 => ?_) (fun h1 => ?_)
  · replace hf := pq_ifn h1 hf
    refine lv_aload_n hx hb dX4_replaceChild_12 rfl (lv_at hl 0 rfl) ?_
    refine pq_get S hK hP inX4 0 rfl rfl 3 (by decide) fl_X4_21 rfl (v := .ref (a 4)) rfl dX4_replaceChild_13 ?_
    refine lv_iload_n hx hb dX4_replaceChild_16 rfl (lv_at hl 1 rfl) ?_
    refine pq_at S vn_X4_38 hK hP 4 rfl (by decide) hl.1 (Nat.le_of_ble_eq_true rfl) dX4_replaceChild_17 (by decide) ⟨Nat.le_refl _, Nat.le_refl _⟩ ?_
    refine lv_iload_n hx hb dX4_replaceChild_20 rfl (lv_at hl 2 rfl) ?_
    refine lv_icmp_ne (tgt := 36) hx hb dX4_replaceChild_21 (by decide) (fun h2 => ?_) (fun h2 => ?_)
    · replace hf := pq_ifn h2 hf
      refine lv_aload_n hx hb dX4_replaceChild_36 rfl (lv_at hl 0 rfl) ?_
      refine pq_get S hK hP inX4 0 rfl rfl 4 (by decide) fl_X4_24 rfl (v := .ref (a 5)) rfl dX4_replaceChild_37 ?_
      refine lv_iload_n hx hb dX4_replaceChild_40 rfl (lv_at hl 1 rfl) ?_
      refine lv_iload_n hx hb dX4_replaceChild_41 rfl (lv_at hl 3 rfl) ?_
      refine pq_put S vn_X4_42 hK hP hD hS hA 5 rfl (by decide) hl.1 (Nat.le_of_ble_eq_true rfl) dX4_replaceChild_42 (by decide) ⟨Nat.le_refl _, Nat.le_refl _⟩ (fun H locs hP hS => ?_)
      replace hP : va_P g.1 pq_cl (treeW g a (T.1, T.2.1, T.2.2.1, T.2.2.2.1, (pq_wr 25 T.2.2.2.2.1 p1 p3), T.2.2.2.2.2.1, T.2.2.2.2.2.2)) H := hP
      replace hD : va_D A (treeW g a (T.1, T.2.1, T.2.2.1, T.2.2.2.1, (pq_wr 25 T.2.2.2.2.1 p1 p3), T.2.2.2.2.2.1, T.2.2.2.2.2.2)) := pq_adr hD (ad_X4 _ _)
      exact hend _ _ _ _ dX4_replaceChild_45 (by rw [← Option.some.inj hf]; exact hP) hS
    · replace hf := pq_ifp h2 hf
      refine lv_aload_n hx hb dX4_replaceChild_24 rfl (lv_at hl 0 rfl) ?_
      refine pq_get S hK hP inX4 0 rfl rfl 3 (by decide) fl_X4_21 rfl (v := .ref (a 4)) rfl dX4_replaceChild_25 ?_
      refine lv_iload_n hx hb dX4_replaceChild_28 rfl (lv_at hl 1 rfl) ?_
      refine lv_iload_n hx hb dX4_replaceChild_29 rfl (lv_at hl 3 rfl) ?_
      refine pq_put S vn_X4_42 hK hP hD hS hA 4 rfl (by decide) hl.1 (Nat.le_of_ble_eq_true rfl) dX4_replaceChild_30 (by decide) ⟨Nat.le_refl _, Nat.le_refl _⟩ (fun H locs hP hS => ?_)
      replace hP : va_P g.1 pq_cl (treeW g a (T.1, T.2.1, T.2.2.1, (pq_wr 25 T.2.2.2.1 p1 p3), T.2.2.2.2.1, T.2.2.2.2.2.1, T.2.2.2.2.2.2)) H := hP
      replace hD : va_D A (treeW g a (T.1, T.2.1, T.2.2.1, (pq_wr 25 T.2.2.2.1 p1 p3), T.2.2.2.2.1, T.2.2.2.2.2.1, T.2.2.2.2.2.2)) := pq_adr hD (ad_X4 _ _)
      refine lv_goto (tgt := 45) hx hb dX4_replaceChild_33 (by decide) ?_
      exact hend _ _ _ _ dX4_replaceChild_45 (by rw [← Option.some.inj hf]; exact hP) hS
  · replace hf := pq_ifp h1 hf
    refine lv_aload_n hx hb dX4_replaceChild_4 rfl (lv_at hl 0 rfl) ?_
    refine lv_iload_n hx hb dX4_replaceChild_5 rfl (lv_at hl 3 rfl) ?_
    refine pq_putf S hK hP hD hS inX4 tyX4_ok nmX4 0 rfl rfl 6 (by decide) fl_X4_30 rfl rfl (ty := .int) rfl rfl rfl (Nat.le_of_ble_eq_true rfl) dX4_replaceChild_6 (fun H locs hP hS => ?_)
    replace hP : va_P g.1 pq_cl (treeW g a (T.1, T.2.1, T.2.2.1, T.2.2.2.1, T.2.2.2.2.1, T.2.2.2.2.2.1, p3)) H := hP
    replace hD : va_D A (treeW g a (T.1, T.2.1, T.2.2.1, T.2.2.2.1, T.2.2.2.2.1, T.2.2.2.2.2.1, p3)) := pq_adr hD (ad_X4 _ _)
    refine lv_goto (tgt := 45) hx hb dX4_replaceChild_9 (by decide) ?_
    exact hend _ _ _ _ dX4_replaceChild_45 (by rw [← Option.some.inj hf]; exact hP) hS
def f_X4_rotate_c142 (T : TreeS) (v1 : Int32) (v2 : Int32) : Option (TreeS) :=
    (f_X4_recount T v2).bind fun q2 =>
    (f_X4_recount q2 v1).bind fun q4 =>
    some q4
def f_X4_rotate_c35 (T : TreeS) (v1 : Int32) (v2 : Int32) (v3 : Int32) (s0 : Int32) : Option (TreeS) :=
    if s0 = 0 then
      (f_X4_replaceChild (T.1, T.2.1, T.2.2.1, (pq_wr 25 T.2.2.2.1 v1 v2), (pq_wr 25 T.2.2.2.2.1 v2 (pq_rd 25 T.2.2.2.1 v1)), T.2.2.2.2.2.1, T.2.2.2.2.2.2) v3 v2 v1).bind fun q7 =>
      if (pq_rd 25 T.2.2.2.1 v1) = 0 then
        f_X4_rotate_c142 (q7.1, q7.2.1, (pq_wr 25 (pq_wr 25 q7.2.2.1 v1 v3) v2 v1), q7.2.2.2.1, q7.2.2.2.2.1, q7.2.2.2.2.2.1, q7.2.2.2.2.2.2) v1 v2
      else
        f_X4_rotate_c142 (q7.1, q7.2.1, (pq_wr 25 (pq_wr 25 (pq_wr 25 q7.2.2.1 v1 v3) v2 v1) (pq_rd 25 T.2.2.2.1 v1) v2), q7.2.2.2.1, q7.2.2.2.2.1, q7.2.2.2.2.2.1, q7.2.2.2.2.2.2) v1 v2
    else
      (f_X4_replaceChild (T.1, T.2.1, T.2.2.1, (pq_wr 25 T.2.2.2.1 v2 (pq_rd 25 T.2.2.2.2.1 v1)), (pq_wr 25 T.2.2.2.2.1 v1 v2), T.2.2.2.2.2.1, T.2.2.2.2.2.2) v3 v2 v1).bind fun q10 =>
      if (pq_rd 25 T.2.2.2.2.1 v1) = 0 then
        f_X4_rotate_c142 (q10.1, q10.2.1, (pq_wr 25 (pq_wr 25 q10.2.2.1 v1 v3) v2 v1), q10.2.2.2.1, q10.2.2.2.2.1, q10.2.2.2.2.2.1, q10.2.2.2.2.2.2) v1 v2
      else
        f_X4_rotate_c142 (q10.1, q10.2.1, (pq_wr 25 (pq_wr 25 (pq_wr 25 q10.2.2.1 v1 v3) v2 v1) (pq_rd 25 T.2.2.2.2.1 v1) v2), q10.2.2.2.1, q10.2.2.2.2.1, q10.2.2.2.2.2.1, q10.2.2.2.2.2.2) v1 v2
def f_X4_rotate (T : TreeS) (p1 : Int32) : Option (TreeS) :=
    if (pq_rd 25 T.2.2.2.1 (pq_rd 25 T.2.2.1 p1)) = p1 then
      f_X4_rotate_c35 T p1 (pq_rd 25 T.2.2.1 p1) (pq_rd 25 T.2.2.1 (pq_rd 25 T.2.2.1 p1)) 1
    else
      f_X4_rotate_c35 T p1 (pq_rd 25 T.2.2.1 p1) (pq_rd 25 T.2.2.1 (pq_rd 25 T.2.2.1 p1)) 0
set_option maxHeartbeats 4000000 in
set_option maxRecDepth 100000 in
theorem c_X4_rotate (l : Launch) (g : pq_g) (a : Nat → Nat) (T : TreeS) (p1 : Int32) (T1 : TreeS) (hf : f_X4_rotate T p1 = some T1) : pq_Mv l yX4_rotate cX4_rotate 6 3 g (treeW g a T) [.ref (a 0), .int p1] (treeW g a T1) := by
  rw [f_X4_rotate] at hf
  refine pq_Mv.of (own := RX4) (by decide) rfl (Nat.le_of_ble_eq_true rfl) rfl ?_
  intro p e s m below meth c ls Q A S hP hK hD hS hA hl hend
  obtain ⟨hx, hb, hml, hown, hts⟩ := id S
  have B142 : ∀ (T : TreeS) (v1 : Int32) (v2 : Int32) (ls : Array Slot) (H : Heap) (locs : List Loc), va_P g.1 pq_cl (treeW g a T) H → va_D A (treeW g a T) → va_S A s.heap H locs → lv_has ls 6 [(0, .ref (a 0)), (1, .int v1), (2, .int v2)] → f_X4_rotate_c142 T v1 v2 = some T1 → W p l e (pq_rm 3 0 0) s m ([.ref (a 0), .int p1] : List Value).toArray below meth c H locs 0 0 Q (F0 m 142 ls []) := by
    intro T v1 v2 ls H locs hP hD hS hl hf
    rw [f_X4_rotate_c142] at hf
    refine lv_aload_n hx hb dX4_rotate_142 rfl (lv_at hl 0 rfl) ?_
    refine lv_iload_n hx hb dX4_rotate_143 rfl (lv_at hl 2 rfl) ?_
    obtain ⟨q2, e1, hf⟩ := pq_bind hf
    refine pq_cVv S (c_X4_recount l g a T v2 q2 e1) vv_X4_46 hK hP hD hS hA rfl rfl rfl rfl rfl hl.1 (Nat.le_of_ble_eq_true rfl) dX4_rotate_144 (by decide) (by decide) ⟨Nat.le_refl _, Nat.le_refl _⟩ (fun H9 locs hk hP1 hS => ?_)
    replace hP := hP1
    replace hP : va_P g.1 pq_cl (treeW g a q2) H9 := hP
    replace hD : va_D A (treeW g a q2) := pq_adr hD (ad_X4 _ _)
    clear hk
    generalize H9 = H at hP hS ⊢
    refine lv_aload_n hx hb dX4_rotate_147 rfl (lv_at hl 0 rfl) ?_
    refine lv_iload_n hx hb dX4_rotate_148 rfl (lv_at hl 1 rfl) ?_
    obtain ⟨q4, e3, hf⟩ := pq_bind hf
    refine pq_cVv S (c_X4_recount l g a q2 v1 q4 e3) vv_X4_46 hK hP hD hS hA rfl rfl rfl rfl rfl hl.1 (Nat.le_of_ble_eq_true rfl) dX4_rotate_149 (by decide) (by decide) ⟨Nat.le_refl _, Nat.le_refl _⟩ (fun H9 locs hk hP1 hS => ?_)
    replace hP := hP1
    replace hP : va_P g.1 pq_cl (treeW g a q4) H9 := hP
    replace hD : va_D A (treeW g a q4) := pq_adr hD (ad_X4 _ _)
    clear hk
    generalize H9 = H at hP hS ⊢
    exact hend _ _ _ _ dX4_rotate_152 (by rw [← Option.some.inj hf]; exact hP) hS
  have B35 : ∀ (T : TreeS) (v1 : Int32) (v2 : Int32) (v3 : Int32) (s0 : Int32) (ls : Array Slot) (H : Heap) (locs : List Loc), va_P g.1 pq_cl (treeW g a T) H → va_D A (treeW g a T) → va_S A s.heap H locs → lv_has ls 6 [(0, .ref (a 0)), (1, .int v1), (2, .int v2), (3, .int v3)] → f_X4_rotate_c35 T v1 v2 v3 s0 = some T1 → W p l e (pq_rm 3 0 0) s m ([.ref (a 0), .int p1] : List Value).toArray below meth c H locs 0 0 Q (F0 m 35 ls [.int s0]) := by
    intro T v1 v2 v3 s0 ls H locs hP hD hS hl hf
    rw [f_X4_rotate_c35] at hf
    refine lv_istore (lv' := [(4, .int s0), (0, .ref (a 0)), (1, .int v1), (2, .int v2), (3, .int v3)]) hx hb dX4_rotate_35 hl (by decide) rfl (fun ls hl => ?_)
    refine lv_iload hx hb dX4_rotate_37 (lv_at hl 0 rfl) ?_
    refine lv_if_eq (tgt := 49) hx hb dX4_rotate_39 (by decide) (fun h5 => ?_) (fun h5 => ?_)
    · replace hf := pq_ifp h5 hf
      refine lv_aload_n hx hb dX4_rotate_49 rfl (lv_at hl 1 rfl) ?_
      refine pq_get S hK hP inX4 0 rfl rfl 3 (by decide) fl_X4_21 rfl (v := .ref (a 4)) rfl dX4_rotate_50 ?_
      refine lv_iload_n hx hb dX4_rotate_53 rfl (lv_at hl 2 rfl) ?_
      refine pq_at S vn_X4_38 hK hP 4 rfl (by decide) hl.1 (Nat.le_of_ble_eq_true rfl) dX4_rotate_54 (by decide) ⟨Nat.le_refl _, Nat.le_refl _⟩ ?_
      refine lv_istore (lv' := [(5, .int (pq_rd 25 T.2.2.2.1 v1)), (4, .int s0), (0, .ref (a 0)), (1, .int v1), (2, .int v2), (3, .int v3)]) hx hb dX4_rotate_57 hl (by decide) rfl (fun ls hl => ?_)
      refine lv_iload hx hb dX4_rotate_59 (lv_at hl 1 rfl) ?_
      refine lv_if_eq (tgt := 71) hx hb dX4_rotate_61 (by decide) (fun _ => ?_) (fun h9 => absurd h5 h9)
      refine lv_aload_n hx hb dX4_rotate_71 rfl (lv_at hl 2 rfl) ?_
      refine pq_get S hK hP inX4 0 rfl rfl 4 (by decide) fl_X4_24 rfl (v := .ref (a 5)) rfl dX4_rotate_72 ?_
      refine lv_iload_n hx hb dX4_rotate_75 rfl (lv_at hl 4 rfl) ?_
      refine lv_iload hx hb dX4_rotate_76 (lv_at hl 0 rfl) ?_
      refine pq_put S vn_X4_42 hK hP hD hS hA 5 rfl (by decide) hl.1 (Nat.le_of_ble_eq_true rfl) dX4_rotate_78 (by decide) ⟨Nat.le_refl _, Nat.le_refl _⟩ (fun H locs hP hS => ?_)
      replace hP : va_P g.1 pq_cl (treeW g a (T.1, T.2.1, T.2.2.1, T.2.2.2.1, (pq_wr 25 T.2.2.2.2.1 v2 (pq_rd 25 T.2.2.2.1 v1)), T.2.2.2.2.2.1, T.2.2.2.2.2.2)) H := hP
      replace hD : va_D A (treeW g a (T.1, T.2.1, T.2.2.1, T.2.2.2.1, (pq_wr 25 T.2.2.2.2.1 v2 (pq_rd 25 T.2.2.2.1 v1)), T.2.2.2.2.2.1, T.2.2.2.2.2.2)) := pq_adr hD (ad_X4 _ _)
      refine lv_iload hx hb dX4_rotate_81 (lv_at hl 1 rfl) ?_
      refine lv_if_eq (tgt := 93) hx hb dX4_rotate_83 (by decide) (fun _ => ?_) (fun h9 => absurd h5 h9)
      refine lv_aload_n hx hb dX4_rotate_93 rfl (lv_at hl 2 rfl) ?_
      refine pq_get S hK hP inX4 0 rfl rfl 3 (by decide) fl_X4_21 rfl (v := .ref (a 4)) rfl dX4_rotate_94 ?_
      refine lv_iload_n hx hb dX4_rotate_97 rfl (lv_at hl 3 rfl) ?_
      refine lv_iload_n hx hb dX4_rotate_98 rfl (lv_at hl 4 rfl) ?_
      refine pq_put S vn_X4_42 hK hP hD hS hA 4 rfl (by decide) hl.1 (Nat.le_of_ble_eq_true rfl) dX4_rotate_99 (by decide) ⟨Nat.le_refl _, Nat.le_refl _⟩ (fun H locs hP hS => ?_)
      replace hP : va_P g.1 pq_cl (treeW g a (T.1, T.2.1, T.2.2.1, (pq_wr 25 T.2.2.2.1 v1 v2), (pq_wr 25 T.2.2.2.2.1 v2 (pq_rd 25 T.2.2.2.1 v1)), T.2.2.2.2.2.1, T.2.2.2.2.2.2)) H := hP
      replace hD : va_D A (treeW g a (T.1, T.2.1, T.2.2.1, (pq_wr 25 T.2.2.2.1 v1 v2), (pq_wr 25 T.2.2.2.2.1 v2 (pq_rd 25 T.2.2.2.1 v1)), T.2.2.2.2.2.1, T.2.2.2.2.2.2)) := pq_adr hD (ad_X4 _ _)
      refine lv_aload_n hx hb dX4_rotate_102 rfl (lv_at hl 2 rfl) ?_
      refine lv_iload_n hx hb dX4_rotate_103 rfl (lv_at hl 5 rfl) ?_
      refine lv_iload_n hx hb dX4_rotate_104 rfl (lv_at hl 4 rfl) ?_
      refine lv_iload_n hx hb dX4_rotate_105 rfl (lv_at hl 3 rfl) ?_
      obtain ⟨q7, e6, hf⟩ := pq_bind hf
      refine pq_cVv S (c_X4_replaceChild l g a (T.1, T.2.1, T.2.2.1, (pq_wr 25 T.2.2.2.1 v1 v2), (pq_wr 25 T.2.2.2.2.1 v2 (pq_rd 25 T.2.2.2.1 v1)), T.2.2.2.2.2.1, T.2.2.2.2.2.2) v3 v2 v1 q7 e6) vv_X4_50 hK hP hD hS hA rfl rfl rfl rfl rfl hl.1 (Nat.le_of_ble_eq_true rfl) dX4_rotate_106 (by decide) (by decide) ⟨Nat.le_refl _, Nat.le_refl _⟩ (fun H9 locs hk hP1 hS => ?_)
      replace hP := hP1
      replace hP : va_P g.1 pq_cl (treeW g a q7) H9 := hP
      replace hD : va_D A (treeW g a q7) := pq_adr hD (ad_X4 _ _)
      clear hk
      generalize H9 = H at hP hS ⊢
      refine lv_aload_n hx hb dX4_rotate_109 rfl (lv_at hl 2 rfl) ?_
      refine pq_get S hK hP inX4 0 rfl rfl 2 (by decide) fl_X4_18 rfl (v := .ref (a 3)) rfl dX4_rotate_110 ?_
      refine lv_iload_n hx hb dX4_rotate_113 rfl (lv_at hl 3 rfl) ?_
      refine lv_iload_n hx hb dX4_rotate_114 rfl (lv_at hl 5 rfl) ?_
      refine pq_put S vn_X4_42 hK hP hD hS hA 3 rfl (by decide) hl.1 (Nat.le_of_ble_eq_true rfl) dX4_rotate_115 (by decide) ⟨Nat.le_refl _, Nat.le_refl _⟩ (fun H locs hP hS => ?_)
      replace hP : va_P g.1 pq_cl (treeW g a (q7.1, q7.2.1, (pq_wr 25 q7.2.2.1 v1 v3), q7.2.2.2.1, q7.2.2.2.2.1, q7.2.2.2.2.2.1, q7.2.2.2.2.2.2)) H := hP
      replace hD : va_D A (treeW g a (q7.1, q7.2.1, (pq_wr 25 q7.2.2.1 v1 v3), q7.2.2.2.1, q7.2.2.2.2.1, q7.2.2.2.2.2.1, q7.2.2.2.2.2.2)) := pq_adr hD (ad_X4 _ _)
      refine lv_aload_n hx hb dX4_rotate_118 rfl (lv_at hl 2 rfl) ?_
      refine pq_get S hK hP inX4 0 rfl rfl 2 (by decide) fl_X4_18 rfl (v := .ref (a 3)) rfl dX4_rotate_119 ?_
      refine lv_iload_n hx hb dX4_rotate_122 rfl (lv_at hl 4 rfl) ?_
      refine lv_iload_n hx hb dX4_rotate_123 rfl (lv_at hl 3 rfl) ?_
      refine pq_put S vn_X4_42 hK hP hD hS hA 3 rfl (by decide) hl.1 (Nat.le_of_ble_eq_true rfl) dX4_rotate_124 (by decide) ⟨Nat.le_refl _, Nat.le_refl _⟩ (fun H locs hP hS => ?_)
      replace hP : va_P g.1 pq_cl (treeW g a (q7.1, q7.2.1, (pq_wr 25 (pq_wr 25 q7.2.2.1 v1 v3) v2 v1), q7.2.2.2.1, q7.2.2.2.2.1, q7.2.2.2.2.2.1, q7.2.2.2.2.2.2)) H := hP
      replace hD : va_D A (treeW g a (q7.1, q7.2.1, (pq_wr 25 (pq_wr 25 q7.2.2.1 v1 v3) v2 v1), q7.2.2.2.1, q7.2.2.2.2.1, q7.2.2.2.2.2.1, q7.2.2.2.2.2.2)) := pq_adr hD (ad_X4 _ _)
      refine lv_iload hx hb dX4_rotate_127 (lv_at hl 0 rfl) ?_
      refine lv_if_eq (tgt := 142) hx hb dX4_rotate_129 (by decide) (fun h8 => ?_) (fun h8 => ?_)
      · replace hf := pq_ifp h8 hf
        exact B142 (q7.1, q7.2.1, (pq_wr 25 (pq_wr 25 q7.2.2.1 v1 v3) v2 v1), q7.2.2.2.1, q7.2.2.2.2.1, q7.2.2.2.2.2.1, q7.2.2.2.2.2.2) v1 v2 ls _ _ hP hD hS (lv_sub hl [2, 3, 4] rfl) hf
      · replace hf := pq_ifn h8 hf
        refine lv_aload_n hx hb dX4_rotate_132 rfl (lv_at hl 2 rfl) ?_
        refine pq_get S hK hP inX4 0 rfl rfl 2 (by decide) fl_X4_18 rfl (v := .ref (a 3)) rfl dX4_rotate_133 ?_
        refine lv_iload hx hb dX4_rotate_136 (lv_at hl 0 rfl) ?_
        refine lv_iload_n hx hb dX4_rotate_138 rfl (lv_at hl 4 rfl) ?_
        refine pq_put S vn_X4_42 hK hP hD hS hA 3 rfl (by decide) hl.1 (Nat.le_of_ble_eq_true rfl) dX4_rotate_139 (by decide) ⟨Nat.le_refl _, Nat.le_refl _⟩ (fun H locs hP hS => ?_)
        replace hP : va_P g.1 pq_cl (treeW g a (q7.1, q7.2.1, (pq_wr 25 (pq_wr 25 (pq_wr 25 q7.2.2.1 v1 v3) v2 v1) (pq_rd 25 T.2.2.2.1 v1) v2), q7.2.2.2.1, q7.2.2.2.2.1, q7.2.2.2.2.2.1, q7.2.2.2.2.2.2)) H := hP
        replace hD : va_D A (treeW g a (q7.1, q7.2.1, (pq_wr 25 (pq_wr 25 (pq_wr 25 q7.2.2.1 v1 v3) v2 v1) (pq_rd 25 T.2.2.2.1 v1) v2), q7.2.2.2.1, q7.2.2.2.2.1, q7.2.2.2.2.2.1, q7.2.2.2.2.2.2)) := pq_adr hD (ad_X4 _ _)
        exact B142 (q7.1, q7.2.1, (pq_wr 25 (pq_wr 25 (pq_wr 25 q7.2.2.1 v1 v3) v2 v1) (pq_rd 25 T.2.2.2.1 v1) v2), q7.2.2.2.1, q7.2.2.2.2.1, q7.2.2.2.2.2.1, q7.2.2.2.2.2.2) v1 v2 ls _ _ hP hD hS (lv_sub hl [2, 3, 4] rfl) hf
    · replace hf := pq_ifn h5 hf
      refine lv_aload_n hx hb dX4_rotate_42 rfl (lv_at hl 1 rfl) ?_
      refine pq_get S hK hP inX4 0 rfl rfl 4 (by decide) fl_X4_24 rfl (v := .ref (a 5)) rfl dX4_rotate_43 ?_
      refine lv_goto (tgt := 53) hx hb dX4_rotate_46 (by decide) ?_
      refine lv_iload_n hx hb dX4_rotate_53 rfl (lv_at hl 2 rfl) ?_
      refine pq_at S vn_X4_38 hK hP 5 rfl (by decide) hl.1 (Nat.le_of_ble_eq_true rfl) dX4_rotate_54 (by decide) ⟨Nat.le_refl _, Nat.le_refl _⟩ ?_
      refine lv_istore (lv' := [(5, .int (pq_rd 25 T.2.2.2.2.1 v1)), (4, .int s0), (0, .ref (a 0)), (1, .int v1), (2, .int v2), (3, .int v3)]) hx hb dX4_rotate_57 hl (by decide) rfl (fun ls hl => ?_)
      refine lv_iload hx hb dX4_rotate_59 (lv_at hl 1 rfl) ?_
      refine lv_if_eq (tgt := 71) hx hb dX4_rotate_61 (by decide) (fun h9 => absurd h9 h5) (fun _ => ?_)
      refine lv_aload_n hx hb dX4_rotate_64 rfl (lv_at hl 2 rfl) ?_
      refine pq_get S hK hP inX4 0 rfl rfl 3 (by decide) fl_X4_21 rfl (v := .ref (a 4)) rfl dX4_rotate_65 ?_
      refine lv_goto (tgt := 75) hx hb dX4_rotate_68 (by decide) ?_
      refine lv_iload_n hx hb dX4_rotate_75 rfl (lv_at hl 4 rfl) ?_
      refine lv_iload hx hb dX4_rotate_76 (lv_at hl 0 rfl) ?_
      refine pq_put S vn_X4_42 hK hP hD hS hA 4 rfl (by decide) hl.1 (Nat.le_of_ble_eq_true rfl) dX4_rotate_78 (by decide) ⟨Nat.le_refl _, Nat.le_refl _⟩ (fun H locs hP hS => ?_)
      replace hP : va_P g.1 pq_cl (treeW g a (T.1, T.2.1, T.2.2.1, (pq_wr 25 T.2.2.2.1 v2 (pq_rd 25 T.2.2.2.2.1 v1)), T.2.2.2.2.1, T.2.2.2.2.2.1, T.2.2.2.2.2.2)) H := hP
      replace hD : va_D A (treeW g a (T.1, T.2.1, T.2.2.1, (pq_wr 25 T.2.2.2.1 v2 (pq_rd 25 T.2.2.2.2.1 v1)), T.2.2.2.2.1, T.2.2.2.2.2.1, T.2.2.2.2.2.2)) := pq_adr hD (ad_X4 _ _)
      refine lv_iload hx hb dX4_rotate_81 (lv_at hl 1 rfl) ?_
      refine lv_if_eq (tgt := 93) hx hb dX4_rotate_83 (by decide) (fun h9 => absurd h9 h5) (fun _ => ?_)
      refine lv_aload_n hx hb dX4_rotate_86 rfl (lv_at hl 2 rfl) ?_
      refine pq_get S hK hP inX4 0 rfl rfl 4 (by decide) fl_X4_24 rfl (v := .ref (a 5)) rfl dX4_rotate_87 ?_
      refine lv_goto (tgt := 97) hx hb dX4_rotate_90 (by decide) ?_
      refine lv_iload_n hx hb dX4_rotate_97 rfl (lv_at hl 3 rfl) ?_
      refine lv_iload_n hx hb dX4_rotate_98 rfl (lv_at hl 4 rfl) ?_
      refine pq_put S vn_X4_42 hK hP hD hS hA 5 rfl (by decide) hl.1 (Nat.le_of_ble_eq_true rfl) dX4_rotate_99 (by decide) ⟨Nat.le_refl _, Nat.le_refl _⟩ (fun H locs hP hS => ?_)
      replace hP : va_P g.1 pq_cl (treeW g a (T.1, T.2.1, T.2.2.1, (pq_wr 25 T.2.2.2.1 v2 (pq_rd 25 T.2.2.2.2.1 v1)), (pq_wr 25 T.2.2.2.2.1 v1 v2), T.2.2.2.2.2.1, T.2.2.2.2.2.2)) H := hP
      replace hD : va_D A (treeW g a (T.1, T.2.1, T.2.2.1, (pq_wr 25 T.2.2.2.1 v2 (pq_rd 25 T.2.2.2.2.1 v1)), (pq_wr 25 T.2.2.2.2.1 v1 v2), T.2.2.2.2.2.1, T.2.2.2.2.2.2)) := pq_adr hD (ad_X4 _ _)
      refine lv_aload_n hx hb dX4_rotate_102 rfl (lv_at hl 2 rfl) ?_
      refine lv_iload_n hx hb dX4_rotate_103 rfl (lv_at hl 5 rfl) ?_
      refine lv_iload_n hx hb dX4_rotate_104 rfl (lv_at hl 4 rfl) ?_
      refine lv_iload_n hx hb dX4_rotate_105 rfl (lv_at hl 3 rfl) ?_
      obtain ⟨q10, e9, hf⟩ := pq_bind hf
      refine pq_cVv S (c_X4_replaceChild l g a (T.1, T.2.1, T.2.2.1, (pq_wr 25 T.2.2.2.1 v2 (pq_rd 25 T.2.2.2.2.1 v1)), (pq_wr 25 T.2.2.2.2.1 v1 v2), T.2.2.2.2.2.1, T.2.2.2.2.2.2) v3 v2 v1 q10 e9) vv_X4_50 hK hP hD hS hA rfl rfl rfl rfl rfl hl.1 (Nat.le_of_ble_eq_true rfl) dX4_rotate_106 (by decide) (by decide) ⟨Nat.le_refl _, Nat.le_refl _⟩ (fun H9 locs hk hP1 hS => ?_)
      replace hP := hP1
      replace hP : va_P g.1 pq_cl (treeW g a q10) H9 := hP
      replace hD : va_D A (treeW g a q10) := pq_adr hD (ad_X4 _ _)
      clear hk
      generalize H9 = H at hP hS ⊢
      refine lv_aload_n hx hb dX4_rotate_109 rfl (lv_at hl 2 rfl) ?_
      refine pq_get S hK hP inX4 0 rfl rfl 2 (by decide) fl_X4_18 rfl (v := .ref (a 3)) rfl dX4_rotate_110 ?_
      refine lv_iload_n hx hb dX4_rotate_113 rfl (lv_at hl 3 rfl) ?_
      refine lv_iload_n hx hb dX4_rotate_114 rfl (lv_at hl 5 rfl) ?_
      refine pq_put S vn_X4_42 hK hP hD hS hA 3 rfl (by decide) hl.1 (Nat.le_of_ble_eq_true rfl) dX4_rotate_115 (by decide) ⟨Nat.le_refl _, Nat.le_refl _⟩ (fun H locs hP hS => ?_)
      replace hP : va_P g.1 pq_cl (treeW g a (q10.1, q10.2.1, (pq_wr 25 q10.2.2.1 v1 v3), q10.2.2.2.1, q10.2.2.2.2.1, q10.2.2.2.2.2.1, q10.2.2.2.2.2.2)) H := hP
      replace hD : va_D A (treeW g a (q10.1, q10.2.1, (pq_wr 25 q10.2.2.1 v1 v3), q10.2.2.2.1, q10.2.2.2.2.1, q10.2.2.2.2.2.1, q10.2.2.2.2.2.2)) := pq_adr hD (ad_X4 _ _)
      refine lv_aload_n hx hb dX4_rotate_118 rfl (lv_at hl 2 rfl) ?_
      refine pq_get S hK hP inX4 0 rfl rfl 2 (by decide) fl_X4_18 rfl (v := .ref (a 3)) rfl dX4_rotate_119 ?_
      refine lv_iload_n hx hb dX4_rotate_122 rfl (lv_at hl 4 rfl) ?_
      refine lv_iload_n hx hb dX4_rotate_123 rfl (lv_at hl 3 rfl) ?_
      refine pq_put S vn_X4_42 hK hP hD hS hA 3 rfl (by decide) hl.1 (Nat.le_of_ble_eq_true rfl) dX4_rotate_124 (by decide) ⟨Nat.le_refl _, Nat.le_refl _⟩ (fun H locs hP hS => ?_)
      replace hP : va_P g.1 pq_cl (treeW g a (q10.1, q10.2.1, (pq_wr 25 (pq_wr 25 q10.2.2.1 v1 v3) v2 v1), q10.2.2.2.1, q10.2.2.2.2.1, q10.2.2.2.2.2.1, q10.2.2.2.2.2.2)) H := hP
      replace hD : va_D A (treeW g a (q10.1, q10.2.1, (pq_wr 25 (pq_wr 25 q10.2.2.1 v1 v3) v2 v1), q10.2.2.2.1, q10.2.2.2.2.1, q10.2.2.2.2.2.1, q10.2.2.2.2.2.2)) := pq_adr hD (ad_X4 _ _)
      refine lv_iload hx hb dX4_rotate_127 (lv_at hl 0 rfl) ?_
      refine lv_if_eq (tgt := 142) hx hb dX4_rotate_129 (by decide) (fun h11 => ?_) (fun h11 => ?_)
      · replace hf := pq_ifp h11 hf
        exact B142 (q10.1, q10.2.1, (pq_wr 25 (pq_wr 25 q10.2.2.1 v1 v3) v2 v1), q10.2.2.2.1, q10.2.2.2.2.1, q10.2.2.2.2.2.1, q10.2.2.2.2.2.2) v1 v2 ls _ _ hP hD hS (lv_sub hl [2, 3, 4] rfl) hf
      · replace hf := pq_ifn h11 hf
        refine lv_aload_n hx hb dX4_rotate_132 rfl (lv_at hl 2 rfl) ?_
        refine pq_get S hK hP inX4 0 rfl rfl 2 (by decide) fl_X4_18 rfl (v := .ref (a 3)) rfl dX4_rotate_133 ?_
        refine lv_iload hx hb dX4_rotate_136 (lv_at hl 0 rfl) ?_
        refine lv_iload_n hx hb dX4_rotate_138 rfl (lv_at hl 4 rfl) ?_
        refine pq_put S vn_X4_42 hK hP hD hS hA 3 rfl (by decide) hl.1 (Nat.le_of_ble_eq_true rfl) dX4_rotate_139 (by decide) ⟨Nat.le_refl _, Nat.le_refl _⟩ (fun H locs hP hS => ?_)
        replace hP : va_P g.1 pq_cl (treeW g a (q10.1, q10.2.1, (pq_wr 25 (pq_wr 25 (pq_wr 25 q10.2.2.1 v1 v3) v2 v1) (pq_rd 25 T.2.2.2.2.1 v1) v2), q10.2.2.2.1, q10.2.2.2.2.1, q10.2.2.2.2.2.1, q10.2.2.2.2.2.2)) H := hP
        replace hD : va_D A (treeW g a (q10.1, q10.2.1, (pq_wr 25 (pq_wr 25 (pq_wr 25 q10.2.2.1 v1 v3) v2 v1) (pq_rd 25 T.2.2.2.2.1 v1) v2), q10.2.2.2.1, q10.2.2.2.2.1, q10.2.2.2.2.2.1, q10.2.2.2.2.2.2)) := pq_adr hD (ad_X4 _ _)
        exact B142 (q10.1, q10.2.1, (pq_wr 25 (pq_wr 25 (pq_wr 25 q10.2.2.1 v1 v3) v2 v1) (pq_rd 25 T.2.2.2.2.1 v1) v2), q10.2.2.2.1, q10.2.2.2.2.1, q10.2.2.2.2.2.1, q10.2.2.2.2.2.2) v1 v2 ls _ _ hP hD hS (lv_sub hl [2, 3, 4] rfl) hf
  refine lv_aload_n hx hb dX4_rotate_0 rfl (lv_at hl 0 rfl) ?_
  refine pq_get S hK hP inX4 0 rfl rfl 2 (by decide) fl_X4_18 rfl (v := .ref (a 3)) rfl dX4_rotate_1 ?_
  refine lv_iload_n hx hb dX4_rotate_4 rfl (lv_at hl 1 rfl) ?_
  refine pq_at S vn_X4_38 hK hP 3 rfl (by decide) hl.1 (Nat.le_of_ble_eq_true rfl) dX4_rotate_5 (by decide) ⟨Nat.le_refl _, Nat.le_refl _⟩ ?_
  refine lv_istore_n (lv' := [(2, .int (pq_rd 25 T.2.2.1 p1)), (0, .ref (a 0)), (1, .int p1)]) hx hb dX4_rotate_8 rfl hl (by decide) rfl (fun ls hl => ?_)
  refine lv_aload_n hx hb dX4_rotate_9 rfl (lv_at hl 1 rfl) ?_
  refine pq_get S hK hP inX4 0 rfl rfl 2 (by decide) fl_X4_18 rfl (v := .ref (a 3)) rfl dX4_rotate_10 ?_
  refine lv_iload_n hx hb dX4_rotate_13 rfl (lv_at hl 0 rfl) ?_
  refine pq_at S vn_X4_38 hK hP 3 rfl (by decide) hl.1 (Nat.le_of_ble_eq_true rfl) dX4_rotate_14 (by decide) ⟨Nat.le_refl _, Nat.le_refl _⟩ ?_
  refine lv_istore_n (lv' := [(3, .int (pq_rd 25 T.2.2.1 (pq_rd 25 T.2.2.1 p1))), (2, .int (pq_rd 25 T.2.2.1 p1)), (0, .ref (a 0)), (1, .int p1)]) hx hb dX4_rotate_17 rfl hl (by decide) rfl (fun ls hl => ?_)
  refine lv_aload_n hx hb dX4_rotate_18 rfl (lv_at hl 2 rfl) ?_
  refine pq_get S hK hP inX4 0 rfl rfl 3 (by decide) fl_X4_21 rfl (v := .ref (a 4)) rfl dX4_rotate_19 ?_
  refine lv_iload_n hx hb dX4_rotate_22 rfl (lv_at hl 1 rfl) ?_
  refine pq_at S vn_X4_38 hK hP 4 rfl (by decide) hl.1 (Nat.le_of_ble_eq_true rfl) dX4_rotate_23 (by decide) ⟨Nat.le_refl _, Nat.le_refl _⟩ ?_
  refine lv_iload_n hx hb dX4_rotate_26 rfl (lv_at hl 3 rfl) ?_
  refine lv_icmp_ne (tgt := 34) hx hb dX4_rotate_27 (by decide) (fun h12 => ?_) (fun h12 => ?_)
  · replace hf := pq_ifn h12 hf
    refine lv_iconst (v := 0) hx hb dX4_rotate_34 (by decide) ?_
    exact B35 T p1 (pq_rd 25 T.2.2.1 p1) (pq_rd 25 T.2.2.1 (pq_rd 25 T.2.2.1 p1)) 0 ls _ _ hP hD hS (lv_sub hl [2, 3, 1, 0] rfl) hf
  · replace hf := pq_ifp h12 hf
    refine lv_iconst (v := 1) hx hb dX4_rotate_30 (by decide) ?_
    refine lv_goto (tgt := 35) hx hb dX4_rotate_31 (by decide) ?_
    exact B35 T p1 (pq_rd 25 T.2.2.1 p1) (pq_rd 25 T.2.2.1 (pq_rd 25 T.2.2.1 p1)) 1 ls _ _ hP hD hS (lv_sub hl [2, 3, 1, 0] rfl) hf
def f_X4_upperChild_c26 (T : TreeS) (v2 : Int32) (v3 : Int32) : Option (Int32) :=
    if v2 = 0 then
      some v3
    else
      some v2
def f_X4_upperChild (T : TreeS) (p1 : Int32) : Option (Int32) :=
    if (pq_rd 25 T.2.2.2.1 p1) = 0 then
      f_X4_upperChild_c26 T (pq_rd 25 T.2.2.2.1 p1) (pq_rd 25 T.2.2.2.2.1 p1)
    else
      if (pq_rd 25 T.2.2.2.2.1 p1) = 0 then
        f_X4_upperChild_c26 T (pq_rd 25 T.2.2.2.1 p1) (pq_rd 25 T.2.2.2.2.1 p1)
      else
        (f_X4_belongsAbove T (pq_rd 25 T.2.2.2.1 p1) (pq_rd 25 T.2.2.2.2.1 p1)).bind fun q5 =>
        if q5 = 0 then
          some (pq_rd 25 T.2.2.2.2.1 p1)
        else
          some (pq_rd 25 T.2.2.2.1 p1)
set_option maxHeartbeats 4000000 in
set_option maxRecDepth 100000 in
theorem c_X4_upperChild (l : Launch) (g : pq_g) (a : Nat → Nat) (T : TreeS) (p1 : Int32) (r : Int32) (hf : f_X4_upperChild T p1 = some r) : pq_R l yX4_upperChild cX4_upperChild 4 .int 3 g (treeW g a T) [.ref (a 0), .int p1] r := by
  rw [f_X4_upperChild] at hf
  refine pq_R.of (own := RX4) (by decide) rfl (Nat.le_of_ble_eq_true rfl) rfl ?_
  intro p e s m below meth c ls Q S hP hK hl hend
  obtain ⟨hx, hb, hml, hown, hts⟩ := id S
  have B26 : ∀ (v2 : Int32) (v3 : Int32) (ls : Array Slot), lv_has ls 4 [(2, .int v2), (3, .int v3)] → f_X4_upperChild_c26 T v2 v3 = some r → W p l e (pq_rm 3 0 0) s m ([.ref (a 0), .int p1] : List Value).toArray below meth c s.heap [] 0 0 Q (F0 m 26 ls []) := by
    intro v2 v3 ls hl hf
    rw [f_X4_upperChild_c26] at hf
    refine lv_iload_n hx hb dX4_upperChild_26 rfl (lv_at hl 0 rfl) ?_
    refine lv_if_ne (tgt := 34) hx hb dX4_upperChild_27 (by decide) (fun h1 => ?_) (fun h1 => ?_)
    · replace hf := pq_ifn h1 hf
      refine lv_iload_n hx hb dX4_upperChild_34 rfl (lv_at hl 0 rfl) ?_
      exact hend _ _ _ dX4_upperChild_35 rfl hf
    · replace hf := pq_ifp h1 hf
      refine lv_iload_n hx hb dX4_upperChild_30 rfl (lv_at hl 1 rfl) ?_
      refine lv_goto (tgt := 35) hx hb dX4_upperChild_31 (by decide) ?_
      exact hend _ _ _ dX4_upperChild_35 rfl hf
  refine lv_aload_n hx hb dX4_upperChild_0 rfl (lv_at hl 0 rfl) ?_
  refine pq_get S hK hP inX4 0 rfl rfl 3 (by decide) fl_X4_21 rfl (v := .ref (a 4)) rfl dX4_upperChild_1 ?_
  refine lv_iload_n hx hb dX4_upperChild_4 rfl (lv_at hl 1 rfl) ?_
  refine pq_at S vn_X4_38 hK hP 4 rfl (by decide) hl.1 (Nat.le_of_ble_eq_true rfl) dX4_upperChild_5 (by decide) ⟨Nat.le_refl _, Nat.le_refl _⟩ ?_
  refine lv_istore_n (lv' := [(2, .int (pq_rd 25 T.2.2.2.1 p1)), (0, .ref (a 0)), (1, .int p1)]) hx hb dX4_upperChild_8 rfl hl (by decide) rfl (fun ls hl => ?_)
  refine lv_aload_n hx hb dX4_upperChild_9 rfl (lv_at hl 1 rfl) ?_
  refine pq_get S hK hP inX4 0 rfl rfl 4 (by decide) fl_X4_24 rfl (v := .ref (a 5)) rfl dX4_upperChild_10 ?_
  refine lv_iload_n hx hb dX4_upperChild_13 rfl (lv_at hl 2 rfl) ?_
  refine pq_at S vn_X4_38 hK hP 5 rfl (by decide) hl.1 (Nat.le_of_ble_eq_true rfl) dX4_upperChild_14 (by decide) ⟨Nat.le_refl _, Nat.le_refl _⟩ ?_
  refine lv_istore_n (lv' := [(3, .int (pq_rd 25 T.2.2.2.2.1 p1)), (2, .int (pq_rd 25 T.2.2.2.1 p1)), (0, .ref (a 0)), (1, .int p1)]) hx hb dX4_upperChild_17 rfl hl (by decide) rfl (fun ls hl => ?_)
  refine lv_iload_n hx hb dX4_upperChild_18 rfl (lv_at hl 1 rfl) ?_
  refine lv_if_eq (tgt := 26) hx hb dX4_upperChild_19 (by decide) (fun h2 => ?_) (fun h2 => ?_)
  · replace hf := pq_ifp h2 hf
    exact B26 (pq_rd 25 T.2.2.2.1 p1) (pq_rd 25 T.2.2.2.2.1 p1) ls (lv_sub hl [1, 0] rfl) hf
  · replace hf := pq_ifn h2 hf
    refine lv_iload_n hx hb dX4_upperChild_22 rfl (lv_at hl 0 rfl) ?_
    refine lv_if_ne (tgt := 36) hx hb dX4_upperChild_23 (by decide) (fun h3 => ?_) (fun h3 => ?_)
    · replace hf := pq_ifn h3 hf
      refine lv_aload_n hx hb dX4_upperChild_36 rfl (lv_at hl 2 rfl) ?_
      refine lv_iload_n hx hb dX4_upperChild_37 rfl (lv_at hl 1 rfl) ?_
      refine lv_iload_n hx hb dX4_upperChild_38 rfl (lv_at hl 0 rfl) ?_
      obtain ⟨q5, e4, hf⟩ := pq_bind hf
      refine pq_cV S (c_X4_belongsAbove l g a T (pq_rd 25 T.2.2.2.1 p1) (pq_rd 25 T.2.2.2.2.1 p1) q5 e4) vv_X4_54 hK hP rfl rfl rfl rfl rfl hl.1 (Nat.le_of_ble_eq_true rfl) dX4_upperChild_39 (by decide) (by decide) ⟨Nat.le_refl _, Nat.le_refl _⟩ ?_
      refine lv_if_eq (tgt := 49) hx hb dX4_upperChild_42 (by decide) (fun h6 => ?_) (fun h6 => ?_)
      · replace hf := pq_ifp h6 hf
        refine lv_iload_n hx hb dX4_upperChild_49 rfl (lv_at hl 0 rfl) ?_
        exact hend _ _ _ dX4_upperChild_50 rfl hf
      · replace hf := pq_ifn h6 hf
        refine lv_iload_n hx hb dX4_upperChild_45 rfl (lv_at hl 1 rfl) ?_
        refine lv_goto (tgt := 50) hx hb dX4_upperChild_46 (by decide) ?_
        exact hend _ _ _ dX4_upperChild_50 rfl hf
    · replace hf := pq_ifp h3 hf
      exact B26 (pq_rd 25 T.2.2.2.1 p1) (pq_rd 25 T.2.2.2.2.1 p1) ls (lv_sub hl [1, 0] rfl) hf
def f_X4_rotateUp_c11 : Nat → TreeS → Int32 → Int32 → Int32 → Option (Int32 × (TreeS))
  | 0, _, _, _, _ => none
  | n + 1, T, v1, v2, v3 =>
    if 24 ≤ v2 then
      some (v2, T)
    else
      if v3 = 0 then
        some (v2, T)
      else
        (f_X4_belongsAbove T v1 v3).bind fun q4 =>
        if q4 = 0 then
          some (v2, T)
        else
          (f_X4_rotate T v1).bind fun q7 =>
          f_X4_rotateUp_c11 n q7 v1 (v2 + 1) (pq_rd 25 q7.2.2.1 v1)
def f_X4_rotateUp (T : TreeS) (p1 : Int32) : Option (Int32 × (TreeS)) :=
    f_X4_rotateUp_c11 200 T p1 0 (pq_rd 25 T.2.2.1 p1)
set_option maxHeartbeats 4000000 in
set_option maxRecDepth 100000 in
theorem c_X4_rotateUp (l : Launch) (g : pq_g) (a : Nat → Nat) (T : TreeS) (p1 : Int32) (r : Int32) (T1 : TreeS) (hf : f_X4_rotateUp T p1 = some (r, T1)) : pq_Mi l yX4_rotateUp cX4_rotateUp 4 .int 4 g (treeW g a T) [.ref (a 0), .int p1] r (treeW g a T1) := by
  rw [f_X4_rotateUp] at hf
  refine pq_Mi.of (own := RX4) (by decide) rfl (Nat.le_of_ble_eq_true rfl) rfl ?_
  intro p e s m below meth c ls Q A S hP hK hD hS hA hl hend
  obtain ⟨hx, hb, hml, hown, hts⟩ := id S
  have B11 : ∀ (n11 : Nat) (T : TreeS) (v1 : Int32) (v2 : Int32) (v3 : Int32) (ls : Array Slot) (H : Heap) (locs : List Loc), va_P g.1 pq_cl (treeW g a T) H → va_D A (treeW g a T) → va_S A s.heap H locs → lv_has ls 4 [(0, .ref (a 0)), (1, .int v1), (2, .int v2), (3, .int v3)] → f_X4_rotateUp_c11 n11 T v1 v2 v3 = some (r, T1) → W p l e (pq_rm 4 0 0) s m ([.ref (a 0), .int p1] : List Value).toArray below meth c H locs 0 0 Q (F0 m 11 ls []) := by
    intro n11
    induction n11 with
    | zero =>
      intro T v1 v2 v3 ls H locs hP hD hS hl hf
      exact absurd hf (by simp [f_X4_rotateUp_c11])
    | succ n11 ih11 =>
      intro T v1 v2 v3 ls H locs hP hD hS hl hf
      rw [f_X4_rotateUp_c11] at hf
      refine lv_iload_n hx hb dX4_rotateUp_11 rfl (lv_at hl 2 rfl) ?_
      refine lv_bipush (v := 24) hx hb dX4_rotateUp_12 (by decide) ?_
      refine lv_icmp_ge (tgt := 50) hx hb dX4_rotateUp_14 (by decide) (fun h1 => ?_) (fun h1 => ?_)
      · replace hf := pq_ifp h1 hf
        refine lv_iload_n hx hb dX4_rotateUp_50 rfl (lv_at hl 2 rfl) ?_
        obtain ⟨h8, h9⟩ := pq_pair hf
        exact hend _ _ _ _ _ dX4_rotateUp_51 rfl h8 (by rw [← h9]; exact hP) hS
      · replace hf := pq_ifn h1 hf
        refine lv_iload_n hx hb dX4_rotateUp_17 rfl (lv_at hl 3 rfl) ?_
        refine lv_if_eq (tgt := 50) hx hb dX4_rotateUp_18 (by decide) (fun h2 => ?_) (fun h2 => ?_)
        · replace hf := pq_ifp h2 hf
          refine lv_iload_n hx hb dX4_rotateUp_50 rfl (lv_at hl 2 rfl) ?_
          obtain ⟨h8, h9⟩ := pq_pair hf
          exact hend _ _ _ _ _ dX4_rotateUp_51 rfl h8 (by rw [← h9]; exact hP) hS
        · replace hf := pq_ifn h2 hf
          refine lv_aload_n hx hb dX4_rotateUp_21 rfl (lv_at hl 0 rfl) ?_
          refine lv_iload_n hx hb dX4_rotateUp_22 rfl (lv_at hl 1 rfl) ?_
          refine lv_iload_n hx hb dX4_rotateUp_23 rfl (lv_at hl 3 rfl) ?_
          obtain ⟨q4, e3, hf⟩ := pq_bind hf
          refine pq_cV S (c_X4_belongsAbove l g a T v1 v3 q4 e3) vv_X4_54 hK hP rfl rfl rfl rfl rfl hl.1 (Nat.le_of_ble_eq_true rfl) dX4_rotateUp_24 (by decide) (by decide) ⟨Nat.le_refl _, Nat.le_refl _⟩ ?_
          refine lv_if_eq (tgt := 50) hx hb dX4_rotateUp_27 (by decide) (fun h5 => ?_) (fun h5 => ?_)
          · replace hf := pq_ifp h5 hf
            refine lv_iload_n hx hb dX4_rotateUp_50 rfl (lv_at hl 2 rfl) ?_
            obtain ⟨h8, h9⟩ := pq_pair hf
            exact hend _ _ _ _ _ dX4_rotateUp_51 rfl h8 (by rw [← h9]; exact hP) hS
          · replace hf := pq_ifn h5 hf
            refine lv_aload_n hx hb dX4_rotateUp_30 rfl (lv_at hl 0 rfl) ?_
            refine lv_iload_n hx hb dX4_rotateUp_31 rfl (lv_at hl 1 rfl) ?_
            obtain ⟨q7, e6, hf⟩ := pq_bind hf
            refine pq_cVv S (c_X4_rotate l g a T v1 q7 e6) vv_X4_58 hK hP hD hS hA rfl rfl rfl rfl rfl hl.1 (Nat.le_of_ble_eq_true rfl) dX4_rotateUp_32 (by decide) (by decide) ⟨Nat.le_refl _, Nat.le_refl _⟩ (fun H9 locs hk hP1 hS => ?_)
            replace hP := hP1
            replace hP : va_P g.1 pq_cl (treeW g a q7) H9 := hP
            replace hD : va_D A (treeW g a q7) := pq_adr hD (ad_X4 _ _)
            clear hk
            generalize H9 = H at hP hS ⊢
            refine lv_iinc (v := (v2 + 1)) (lv' := [(2, .int (v2 + 1)), (0, .ref (a 0)), (1, .int v1), (3, .int v3)]) hx hb dX4_rotateUp_35 hl (k := 2) rfl rfl (by decide) rfl (fun ls hl => ?_)
            refine lv_aload_n hx hb dX4_rotateUp_38 rfl (lv_at hl 1 rfl) ?_
            refine pq_get S hK hP inX4 0 rfl rfl 2 (by decide) fl_X4_18 rfl (v := .ref (a 3)) rfl dX4_rotateUp_39 ?_
            refine lv_iload_n hx hb dX4_rotateUp_42 rfl (lv_at hl 2 rfl) ?_
            refine pq_at S vn_X4_38 hK hP 3 rfl (by decide) hl.1 (Nat.le_of_ble_eq_true rfl) dX4_rotateUp_43 (by decide) ⟨Nat.le_refl _, Nat.le_refl _⟩ ?_
            refine lv_istore_n (lv' := [(3, .int (pq_rd 25 q7.2.2.1 v1)), (2, .int (v2 + 1)), (0, .ref (a 0)), (1, .int v1)]) hx hb dX4_rotateUp_46 rfl hl (by decide) rfl (fun ls hl => ?_)
            refine lv_goto (tgt := 11) hx hb dX4_rotateUp_47 (by decide) ?_
            exact ih11 q7 v1 (v2 + 1) (pq_rd 25 q7.2.2.1 v1) ls _ _ hP hD hS (lv_sub hl [2, 3, 1, 0] rfl) hf
  refine lv_iconst (v := 0) hx hb dX4_rotateUp_0 (by decide) ?_
  refine lv_istore_n (lv' := [(2, .int 0), (0, .ref (a 0)), (1, .int p1)]) hx hb dX4_rotateUp_1 rfl hl (by decide) rfl (fun ls hl => ?_)
  refine lv_aload_n hx hb dX4_rotateUp_2 rfl (lv_at hl 1 rfl) ?_
  refine pq_get S hK hP inX4 0 rfl rfl 2 (by decide) fl_X4_18 rfl (v := .ref (a 3)) rfl dX4_rotateUp_3 ?_
  refine lv_iload_n hx hb dX4_rotateUp_6 rfl (lv_at hl 2 rfl) ?_
  refine pq_at S vn_X4_38 hK hP 3 rfl (by decide) hl.1 (Nat.le_of_ble_eq_true rfl) dX4_rotateUp_7 (by decide) ⟨Nat.le_refl _, Nat.le_refl _⟩ ?_
  refine lv_istore_n (lv' := [(3, .int (pq_rd 25 T.2.2.1 p1)), (2, .int 0), (0, .ref (a 0)), (1, .int p1)]) hx hb dX4_rotateUp_10 rfl hl (by decide) rfl (fun ls hl => ?_)
  exact B11 200 T p1 0 (pq_rd 25 T.2.2.1 p1) ls _ _ hP hD hS (lv_sub hl [2, 3, 1, 0] rfl) hf
def f_X4_rotateDown_c34 (k9 : TreeS → Int32 → Int32 → Int32 → Int32 → Option (Int32 × (TreeS))) (T : TreeS) (v1 : Int32) (v2 : Int32) (v3 : Int32) (v4 : Int32) : Option (Int32 × (TreeS)) :=
    (f_X4_rotate T v4).bind fun q2 =>
    (f_X4_upperChild q2 v1).bind fun q4 =>
    k9 q2 v1 v2 (v3 + 1) q4
def f_X4_rotateDown_c9 : Nat → TreeS → Int32 → Int32 → Int32 → Int32 → Option (Int32 × (TreeS))
  | 0, _, _, _, _, _ => none
  | n + 1, T, v1, v2, v3, v4 =>
    if 24 ≤ v3 then
      some (v3, T)
    else
      if v4 = 0 then
        some (v3, T)
      else
        if v2 = 0 then
          (f_X4_belongsAbove T v4 v1).bind fun q9 =>
          if q9 = 0 then
            some (v3, T)
          else
            f_X4_rotateDown_c34 (f_X4_rotateDown_c9 n) T v1 v2 v3 v4
        else
          f_X4_rotateDown_c34 (f_X4_rotateDown_c9 n) T v1 v2 v3 v4
def f_X4_rotateDown (T : TreeS) (p1 : Int32) (p2 : Int32) : Option (Int32 × (TreeS)) :=
    (f_X4_upperChild T p1).bind fun q12 =>
    f_X4_rotateDown_c9 200 T p1 p2 0 q12
set_option maxHeartbeats 4000000 in
set_option maxRecDepth 100000 in
theorem c_X4_rotateDown (l : Launch) (g : pq_g) (a : Nat → Nat) (T : TreeS) (p1 : Int32) (p2 : Int32) (r : Int32) (T1 : TreeS) (hf : f_X4_rotateDown T p1 p2 = some (r, T1)) : pq_Mi l yX4_rotateDown cX4_rotateDown 5 .int 4 g (treeW g a T) [.ref (a 0), .int p1, .int p2] r (treeW g a T1) := by
  rw [f_X4_rotateDown] at hf
  refine pq_Mi.of (own := RX4) (by decide) rfl (Nat.le_of_ble_eq_true rfl) rfl ?_
  intro p e s m below meth c ls Q A S hP hK hD hS hA hl hend
  obtain ⟨hx, hb, hml, hown, hts⟩ := id S
  have B9 : ∀ (n9 : Nat) (T : TreeS) (v1 : Int32) (v2 : Int32) (v3 : Int32) (v4 : Int32) (ls : Array Slot) (H : Heap) (locs : List Loc), va_P g.1 pq_cl (treeW g a T) H → va_D A (treeW g a T) → va_S A s.heap H locs → lv_has ls 5 [(0, .ref (a 0)), (1, .int v1), (2, .int v2), (3, .int v3), (4, .int v4)] → f_X4_rotateDown_c9 n9 T v1 v2 v3 v4 = some (r, T1) → W p l e (pq_rm 4 0 0) s m ([.ref (a 0), .int p1, .int p2] : List Value).toArray below meth c H locs 0 0 Q (F0 m 9 ls []) := by
    intro n9
    induction n9 with
    | zero =>
      intro T v1 v2 v3 v4 ls H locs hP hD hS hl hf
      exact absurd hf (by simp [f_X4_rotateDown_c9])
    | succ n9 ih9 =>
      have B34 : ∀ (T : TreeS) (v1 : Int32) (v2 : Int32) (v3 : Int32) (v4 : Int32) (ls : Array Slot) (H : Heap) (locs : List Loc), va_P g.1 pq_cl (treeW g a T) H → va_D A (treeW g a T) → va_S A s.heap H locs → lv_has ls 5 [(0, .ref (a 0)), (1, .int v1), (2, .int v2), (3, .int v3), (4, .int v4)] → f_X4_rotateDown_c34 (f_X4_rotateDown_c9 n9) T v1 v2 v3 v4 = some (r, T1) → W p l e (pq_rm 4 0 0) s m ([.ref (a 0), .int p1, .int p2] : List Value).toArray below meth c H locs 0 0 Q (F0 m 34 ls []) := by
        intro T v1 v2 v3 v4 ls H locs hP hD hS hl hf
        rw [f_X4_rotateDown_c34] at hf
        refine lv_aload_n hx hb dX4_rotateDown_34 rfl (lv_at hl 0 rfl) ?_
        refine lv_iload hx hb dX4_rotateDown_35 (lv_at hl 4 rfl) ?_
        obtain ⟨q2, e1, hf⟩ := pq_bind hf
        refine pq_cVv S (c_X4_rotate l g a T v4 q2 e1) vv_X4_58 hK hP hD hS hA rfl rfl rfl rfl rfl hl.1 (Nat.le_of_ble_eq_true rfl) dX4_rotateDown_37 (by decide) (by decide) ⟨Nat.le_refl _, Nat.le_refl _⟩ (fun H9 locs hk hP1 hS => ?_)
        replace hP := hP1
        replace hP : va_P g.1 pq_cl (treeW g a q2) H9 := hP
        replace hD : va_D A (treeW g a q2) := pq_adr hD (ad_X4 _ _)
        clear hk
        generalize H9 = H at hP hS ⊢
        refine lv_iinc (v := (v3 + 1)) (lv' := [(3, .int (v3 + 1)), (0, .ref (a 0)), (1, .int v1), (2, .int v2), (4, .int v4)]) hx hb dX4_rotateDown_40 hl (k := 3) rfl rfl (by decide) rfl (fun ls hl => ?_)
        refine lv_aload_n hx hb dX4_rotateDown_43 rfl (lv_at hl 1 rfl) ?_
        refine lv_iload_n hx hb dX4_rotateDown_44 rfl (lv_at hl 2 rfl) ?_
        obtain ⟨q4, e3, hf⟩ := pq_bind hf
        refine pq_cV S (c_X4_upperChild l g a q2 v1 q4 e3) vv_X4_61 hK hP rfl rfl rfl rfl rfl hl.1 (Nat.le_of_ble_eq_true rfl) dX4_rotateDown_45 (by decide) (by decide) ⟨Nat.le_refl _, Nat.le_refl _⟩ ?_
        refine lv_istore (lv' := [(4, .int q4), (3, .int (v3 + 1)), (0, .ref (a 0)), (1, .int v1), (2, .int v2)]) hx hb dX4_rotateDown_48 hl (by decide) rfl (fun ls hl => ?_)
        refine lv_goto (tgt := 9) hx hb dX4_rotateDown_50 (by decide) ?_
        exact ih9 q2 v1 v2 (v3 + 1) q4 ls _ _ hP hD hS (lv_sub hl [2, 3, 4, 1, 0] rfl) hf
      intro T v1 v2 v3 v4 ls H locs hP hD hS hl hf
      rw [f_X4_rotateDown_c9] at hf
      refine lv_iload_n hx hb dX4_rotateDown_9 rfl (lv_at hl 3 rfl) ?_
      refine lv_bipush (v := 24) hx hb dX4_rotateDown_10 (by decide) ?_
      refine lv_icmp_ge (tgt := 53) hx hb dX4_rotateDown_12 (by decide) (fun h5 => ?_) (fun h5 => ?_)
      · replace hf := pq_ifp h5 hf
        refine lv_iload_n hx hb dX4_rotateDown_53 rfl (lv_at hl 3 rfl) ?_
        obtain ⟨h8, h9⟩ := pq_pair hf
        exact hend _ _ _ _ _ dX4_rotateDown_54 rfl h8 (by rw [← h9]; exact hP) hS
      · replace hf := pq_ifn h5 hf
        refine lv_iload hx hb dX4_rotateDown_15 (lv_at hl 4 rfl) ?_
        refine lv_if_eq (tgt := 53) hx hb dX4_rotateDown_17 (by decide) (fun h6 => ?_) (fun h6 => ?_)
        · replace hf := pq_ifp h6 hf
          refine lv_iload_n hx hb dX4_rotateDown_53 rfl (lv_at hl 3 rfl) ?_
          obtain ⟨h8, h9⟩ := pq_pair hf
          exact hend _ _ _ _ _ dX4_rotateDown_54 rfl h8 (by rw [← h9]; exact hP) hS
        · replace hf := pq_ifn h6 hf
          refine lv_iload_n hx hb dX4_rotateDown_20 rfl (lv_at hl 2 rfl) ?_
          refine lv_if_ne (tgt := 34) hx hb dX4_rotateDown_21 (by decide) (fun h7 => ?_) (fun h7 => ?_)
          · replace hf := pq_ifn h7 hf
            exact B34 T v1 v2 v3 v4 ls _ _ hP hD hS (lv_sub hl [0, 1, 2, 3, 4] rfl) hf
          · replace hf := pq_ifp h7 hf
            refine lv_aload_n hx hb dX4_rotateDown_24 rfl (lv_at hl 0 rfl) ?_
            refine lv_iload hx hb dX4_rotateDown_25 (lv_at hl 4 rfl) ?_
            refine lv_iload_n hx hb dX4_rotateDown_27 rfl (lv_at hl 1 rfl) ?_
            obtain ⟨q9, e8, hf⟩ := pq_bind hf
            refine pq_cV S (c_X4_belongsAbove l g a T v4 v1 q9 e8) vv_X4_54 hK hP rfl rfl rfl rfl rfl hl.1 (Nat.le_of_ble_eq_true rfl) dX4_rotateDown_28 (by decide) (by decide) ⟨Nat.le_refl _, Nat.le_refl _⟩ ?_
            refine lv_if_eq (tgt := 53) hx hb dX4_rotateDown_31 (by decide) (fun h10 => ?_) (fun h10 => ?_)
            · replace hf := pq_ifp h10 hf
              refine lv_iload_n hx hb dX4_rotateDown_53 rfl (lv_at hl 3 rfl) ?_
              obtain ⟨h8, h9⟩ := pq_pair hf
              exact hend _ _ _ _ _ dX4_rotateDown_54 rfl h8 (by rw [← h9]; exact hP) hS
            · replace hf := pq_ifn h10 hf
              exact B34 T v1 v2 v3 v4 ls _ _ hP hD hS (lv_sub hl [0, 1, 2, 3, 4] rfl) hf
  refine lv_iconst (v := 0) hx hb dX4_rotateDown_0 (by decide) ?_
  refine lv_istore_n (lv' := [(3, .int 0), (0, .ref (a 0)), (1, .int p1), (2, .int p2)]) hx hb dX4_rotateDown_1 rfl hl (by decide) rfl (fun ls hl => ?_)
  refine lv_aload_n hx hb dX4_rotateDown_2 rfl (lv_at hl 1 rfl) ?_
  refine lv_iload_n hx hb dX4_rotateDown_3 rfl (lv_at hl 2 rfl) ?_
  obtain ⟨q12, e11, hf⟩ := pq_bind hf
  refine pq_cV S (c_X4_upperChild l g a T p1 q12 e11) vv_X4_61 hK hP rfl rfl rfl rfl rfl hl.1 (Nat.le_of_ble_eq_true rfl) dX4_rotateDown_4 (by decide) (by decide) ⟨Nat.le_refl _, Nat.le_refl _⟩ ?_
  refine lv_istore (lv' := [(4, .int q12), (3, .int 0), (0, .ref (a 0)), (1, .int p1), (2, .int p2)]) hx hb dX4_rotateDown_7 hl (by decide) rfl (fun ls hl => ?_)
  exact B9 200 T p1 p2 0 q12 ls _ _ hP hD hS (lv_sub hl [2, 3, 4, 1, 0] rfl) hf
def f_X4_freeSlot_c2 : Nat → TreeS → Int32 → Option (Int32)
  | 0, _, _ => none
  | n + 1, T, v1 =>
    if 24 < v1 then
      some 0
    else
      if (pq_rd 25 T.2.2.2.2.2.1 v1) = 0 then
        some v1
      else
        f_X4_freeSlot_c2 n T (v1 + 1)
def f_X4_freeSlot (T : TreeS) : Option (Int32) :=
    f_X4_freeSlot_c2 200 T 1
set_option maxHeartbeats 4000000 in
set_option maxRecDepth 100000 in
theorem c_X4_freeSlot (l : Launch) (g : pq_g) (a : Nat → Nat) (T : TreeS) (r : Int32) (hf : f_X4_freeSlot T = some r) : pq_R l yX4_freeSlot cX4_freeSlot 2 .int 2 g (treeW g a T) [.ref (a 0)] r := by
  rw [f_X4_freeSlot] at hf
  refine pq_R.of (own := RX4) (by decide) rfl (Nat.le_of_ble_eq_true rfl) rfl ?_
  intro p e s m below meth c ls Q S hP hK hl hend
  obtain ⟨hx, hb, hml, hown, hts⟩ := id S
  have B2 : ∀ (n2 : Nat) (v1 : Int32) (ls : Array Slot), lv_has ls 2 [(0, .ref (a 0)), (1, .int v1)] → f_X4_freeSlot_c2 n2 T v1 = some r → W p l e (pq_rm 2 0 0) s m ([.ref (a 0)] : List Value).toArray below meth c s.heap [] 0 0 Q (F0 m 2 ls []) := by
    intro n2
    induction n2 with
    | zero =>
      intro v1 ls hl hf
      exact absurd hf (by simp [f_X4_freeSlot_c2])
    | succ n2 ih2 =>
      intro v1 ls hl hf
      rw [f_X4_freeSlot_c2] at hf
      refine lv_iload_n hx hb dX4_freeSlot_2 rfl (lv_at hl 1 rfl) ?_
      refine lv_bipush (v := 24) hx hb dX4_freeSlot_3 (by decide) ?_
      refine lv_icmp_gt (tgt := 27) hx hb dX4_freeSlot_5 (by decide) (fun h1 => ?_) (fun h1 => ?_)
      · replace hf := pq_ifp h1 hf
        refine lv_iconst (v := 0) hx hb dX4_freeSlot_27 (by decide) ?_
        exact hend _ _ _ dX4_freeSlot_28 rfl hf
      · replace hf := pq_ifn h1 hf
        refine lv_aload_n hx hb dX4_freeSlot_8 rfl (lv_at hl 0 rfl) ?_
        refine pq_get S hK hP inX4 0 rfl rfl 5 (by decide) fl_X4_27 rfl (v := .ref (a 6)) rfl dX4_freeSlot_9 ?_
        refine lv_iload_n hx hb dX4_freeSlot_12 rfl (lv_at hl 1 rfl) ?_
        refine pq_at S vn_X4_38 hK hP 6 rfl (by decide) hl.1 (Nat.le_of_ble_eq_true rfl) dX4_freeSlot_13 (by decide) ⟨Nat.le_refl _, Nat.le_refl _⟩ ?_
        refine lv_if_ne (tgt := 21) hx hb dX4_freeSlot_16 (by decide) (fun h2 => ?_) (fun h2 => ?_)
        · replace hf := pq_ifn h2 hf
          refine lv_iinc (v := (v1 + 1)) (lv' := [(1, .int (v1 + 1)), (0, .ref (a 0))]) hx hb dX4_freeSlot_21 hl (k := 1) rfl rfl (by decide) rfl (fun ls hl => ?_)
          refine lv_goto (tgt := 2) hx hb dX4_freeSlot_24 (by decide) ?_
          exact ih2 (v1 + 1) ls (lv_sub hl [1, 0] rfl) hf
        · replace hf := pq_ifp h2 hf
          refine lv_iload_n hx hb dX4_freeSlot_19 rfl (lv_at hl 1 rfl) ?_
          exact hend _ _ _ dX4_freeSlot_20 rfl hf
  refine lv_iconst (v := 1) hx hb dX4_freeSlot_0 (by decide) ?_
  refine lv_istore_n (lv' := [(1, .int 1), (0, .ref (a 0))]) hx hb dX4_freeSlot_1 rfl hl (by decide) rfl (fun ls hl => ?_)
  exact B2 200 1 ls (lv_sub hl [1, 0] rfl) hf
def f_X4_attach_c165 (T : TreeS) (v3 : Int32) : Option (Int32 × (TreeS)) :=
    (f_X4_recountUpwards T v3).bind fun q2 =>
    some (v3, q2)
def f_X4_attach_c76 (T : TreeS) (v1 : Int32) (v2 : Int32) (v3 : Int32) (v4 : Int32) : Option (Int32 × (TreeS)) :=
    if v4 = 0 then
      f_X4_attach_c165 ((pq_wr 25 T.1 v3 v1), (pq_wr 25 T.2.1 v3 v2), (pq_wr 25 T.2.2.1 v3 v4), (pq_wr 25 T.2.2.2.1 v3 0), (pq_wr 25 T.2.2.2.2.1 v3 0), T.2.2.2.2.2.1, v3) v3
    else
      if (pq_rd 25 (pq_wr 25 T.1 v3 v1) v4) ≤ v1 then
        f_X4_attach_c165 ((pq_wr 25 T.1 v3 v1), (pq_wr 25 T.2.1 v3 v2), (pq_wr 25 T.2.2.1 v3 v4), (pq_wr 25 T.2.2.2.1 v3 0), (pq_wr 25 (pq_wr 25 T.2.2.2.2.1 v3 0) v4 v3), T.2.2.2.2.2.1, T.2.2.2.2.2.2) v3
      else
        f_X4_attach_c165 ((pq_wr 25 T.1 v3 v1), (pq_wr 25 T.2.1 v3 v2), (pq_wr 25 T.2.2.1 v3 v4), (pq_wr 25 (pq_wr 25 T.2.2.2.1 v3 0) v4 v3), (pq_wr 25 T.2.2.2.2.1 v3 0), T.2.2.2.2.2.1, T.2.2.2.2.2.2) v3
def f_X4_attach_c23 : Nat → TreeS → Int32 → Int32 → Int32 → Int32 → Int32 → Int32 → Option (Int32 × (TreeS))
  | 0, _, _, _, _, _, _, _ => none
  | n + 1, T, v1, v2, v3, v4, v5, v6 =>
    if 24 ≤ v6 then
      f_X4_attach_c76 T v1 v2 v3 v4
    else
      if v5 = 0 then
        f_X4_attach_c76 T v1 v2 v3 v4
      else
        if (pq_rd 25 T.1 v5) ≤ v1 then
          f_X4_attach_c23 n T v1 v2 v3 v5 (pq_rd 25 T.2.2.2.2.1 v5) (v6 + 1)
        else
          f_X4_attach_c23 n T v1 v2 v3 v5 (pq_rd 25 T.2.2.2.1 v5) (v6 + 1)
def f_X4_attach (T : TreeS) (p1 : Int32) (p2 : Int32) : Option (Int32 × (TreeS)) :=
    (f_X4_freeSlot T).bind fun q9 =>
    if q9 = 0 then
      some (0, T)
    else
      f_X4_attach_c23 200 T p1 p2 q9 0 T.2.2.2.2.2.2 0
set_option maxHeartbeats 4000000 in
set_option maxRecDepth 100000 in
theorem c_X4_attach (l : Launch) (g : pq_g) (a : Nat → Nat) (T : TreeS) (p1 : Int32) (p2 : Int32) (r : Int32) (T1 : TreeS) (hf : f_X4_attach T p1 p2 = some (r, T1)) : pq_Mi l yX4_attach cX4_attach 7 .int 4 g (treeW g a T) [.ref (a 0), .int p1, .int p2] r (treeW g a T1) := by
  rw [f_X4_attach] at hf
  refine pq_Mi.of (own := RX4) (by decide) rfl (Nat.le_of_ble_eq_true rfl) rfl ?_
  intro p e s m below meth c ls Q A S hP hK hD hS hA hl hend
  obtain ⟨hx, hb, hml, hown, hts⟩ := id S
  have B165 : ∀ (T : TreeS) (v3 : Int32) (ls : Array Slot) (H : Heap) (locs : List Loc), va_P g.1 pq_cl (treeW g a T) H → va_D A (treeW g a T) → va_S A s.heap H locs → lv_has ls 7 [(0, .ref (a 0)), (3, .int v3)] → f_X4_attach_c165 T v3 = some (r, T1) → W p l e (pq_rm 4 0 0) s m ([.ref (a 0), .int p1, .int p2] : List Value).toArray below meth c H locs 0 0 Q (F0 m 165 ls []) := by
    intro T v3 ls H locs hP hD hS hl hf
    rw [f_X4_attach_c165] at hf
    refine lv_aload_n hx hb dX4_attach_165 rfl (lv_at hl 0 rfl) ?_
    refine lv_iload_n hx hb dX4_attach_166 rfl (lv_at hl 1 rfl) ?_
    obtain ⟨q2, e1, hf⟩ := pq_bind hf
    refine pq_cVv S (c_X4_recountUpwards l g a T v3 q2 e1) vv_X4_69 hK hP hD hS hA rfl rfl rfl rfl rfl hl.1 (Nat.le_of_ble_eq_true rfl) dX4_attach_167 (by decide) (by decide) ⟨Nat.le_refl _, Nat.le_refl _⟩ (fun H9 locs hk hP1 hS => ?_)
    replace hP := hP1
    replace hP : va_P g.1 pq_cl (treeW g a q2) H9 := hP
    replace hD : va_D A (treeW g a q2) := pq_adr hD (ad_X4 _ _)
    clear hk
    generalize H9 = H at hP hS ⊢
    refine lv_iload_n hx hb dX4_attach_170 rfl (lv_at hl 1 rfl) ?_
    obtain ⟨h8, h9⟩ := pq_pair hf
    exact hend _ _ _ _ _ dX4_attach_171 rfl h8 (by rw [← h9]; exact hP) hS
  have B76 : ∀ (T : TreeS) (v1 : Int32) (v2 : Int32) (v3 : Int32) (v4 : Int32) (ls : Array Slot) (H : Heap) (locs : List Loc), va_P g.1 pq_cl (treeW g a T) H → va_D A (treeW g a T) → va_S A s.heap H locs → lv_has ls 7 [(0, .ref (a 0)), (1, .int v1), (2, .int v2), (3, .int v3), (4, .int v4)] → f_X4_attach_c76 T v1 v2 v3 v4 = some (r, T1) → W p l e (pq_rm 4 0 0) s m ([.ref (a 0), .int p1, .int p2] : List Value).toArray below meth c H locs 0 0 Q (F0 m 76 ls []) := by
    intro T v1 v2 v3 v4 ls H locs hP hD hS hl hf
    rw [f_X4_attach_c76] at hf
    refine lv_aload_n hx hb dX4_attach_76 rfl (lv_at hl 0 rfl) ?_
    refine pq_get S hK hP inX4 0 rfl rfl 0 (by decide) fl_X4_9 rfl (v := .ref (a 1)) rfl dX4_attach_77 ?_
    refine lv_iload_n hx hb dX4_attach_80 rfl (lv_at hl 3 rfl) ?_
    refine lv_iload_n hx hb dX4_attach_81 rfl (lv_at hl 1 rfl) ?_
    refine pq_put S vn_X4_42 hK hP hD hS hA 1 rfl (by decide) hl.1 (Nat.le_of_ble_eq_true rfl) dX4_attach_82 (by decide) ⟨Nat.le_refl _, Nat.le_refl _⟩ (fun H locs hP hS => ?_)
    replace hP : va_P g.1 pq_cl (treeW g a ((pq_wr 25 T.1 v3 v1), T.2.1, T.2.2.1, T.2.2.2.1, T.2.2.2.2.1, T.2.2.2.2.2.1, T.2.2.2.2.2.2)) H := hP
    replace hD : va_D A (treeW g a ((pq_wr 25 T.1 v3 v1), T.2.1, T.2.2.1, T.2.2.2.1, T.2.2.2.2.1, T.2.2.2.2.2.1, T.2.2.2.2.2.2)) := pq_adr hD (ad_X4 _ _)
    refine lv_aload_n hx hb dX4_attach_85 rfl (lv_at hl 0 rfl) ?_
    refine pq_get S hK hP inX4 0 rfl rfl 1 (by decide) fl_X4_15 rfl (v := .ref (a 2)) rfl dX4_attach_86 ?_
    refine lv_iload_n hx hb dX4_attach_89 rfl (lv_at hl 3 rfl) ?_
    refine lv_iload_n hx hb dX4_attach_90 rfl (lv_at hl 2 rfl) ?_
    refine pq_put S vn_X4_42 hK hP hD hS hA 2 rfl (by decide) hl.1 (Nat.le_of_ble_eq_true rfl) dX4_attach_91 (by decide) ⟨Nat.le_refl _, Nat.le_refl _⟩ (fun H locs hP hS => ?_)
    replace hP : va_P g.1 pq_cl (treeW g a ((pq_wr 25 T.1 v3 v1), (pq_wr 25 T.2.1 v3 v2), T.2.2.1, T.2.2.2.1, T.2.2.2.2.1, T.2.2.2.2.2.1, T.2.2.2.2.2.2)) H := hP
    replace hD : va_D A (treeW g a ((pq_wr 25 T.1 v3 v1), (pq_wr 25 T.2.1 v3 v2), T.2.2.1, T.2.2.2.1, T.2.2.2.2.1, T.2.2.2.2.2.1, T.2.2.2.2.2.2)) := pq_adr hD (ad_X4 _ _)
    refine lv_aload_n hx hb dX4_attach_94 rfl (lv_at hl 0 rfl) ?_
    refine pq_get S hK hP inX4 0 rfl rfl 3 (by decide) fl_X4_21 rfl (v := .ref (a 4)) rfl dX4_attach_95 ?_
    refine lv_iload_n hx hb dX4_attach_98 rfl (lv_at hl 3 rfl) ?_
    refine lv_iconst (v := 0) hx hb dX4_attach_99 (by decide) ?_
    refine pq_put S vn_X4_42 hK hP hD hS hA 4 rfl (by decide) hl.1 (Nat.le_of_ble_eq_true rfl) dX4_attach_100 (by decide) ⟨Nat.le_refl _, Nat.le_refl _⟩ (fun H locs hP hS => ?_)
    replace hP : va_P g.1 pq_cl (treeW g a ((pq_wr 25 T.1 v3 v1), (pq_wr 25 T.2.1 v3 v2), T.2.2.1, (pq_wr 25 T.2.2.2.1 v3 0), T.2.2.2.2.1, T.2.2.2.2.2.1, T.2.2.2.2.2.2)) H := hP
    replace hD : va_D A (treeW g a ((pq_wr 25 T.1 v3 v1), (pq_wr 25 T.2.1 v3 v2), T.2.2.1, (pq_wr 25 T.2.2.2.1 v3 0), T.2.2.2.2.1, T.2.2.2.2.2.1, T.2.2.2.2.2.2)) := pq_adr hD (ad_X4 _ _)
    refine lv_aload_n hx hb dX4_attach_103 rfl (lv_at hl 0 rfl) ?_
    refine pq_get S hK hP inX4 0 rfl rfl 4 (by decide) fl_X4_24 rfl (v := .ref (a 5)) rfl dX4_attach_104 ?_
    refine lv_iload_n hx hb dX4_attach_107 rfl (lv_at hl 3 rfl) ?_
    refine lv_iconst (v := 0) hx hb dX4_attach_108 (by decide) ?_
    refine pq_put S vn_X4_42 hK hP hD hS hA 5 rfl (by decide) hl.1 (Nat.le_of_ble_eq_true rfl) dX4_attach_109 (by decide) ⟨Nat.le_refl _, Nat.le_refl _⟩ (fun H locs hP hS => ?_)
    replace hP : va_P g.1 pq_cl (treeW g a ((pq_wr 25 T.1 v3 v1), (pq_wr 25 T.2.1 v3 v2), T.2.2.1, (pq_wr 25 T.2.2.2.1 v3 0), (pq_wr 25 T.2.2.2.2.1 v3 0), T.2.2.2.2.2.1, T.2.2.2.2.2.2)) H := hP
    replace hD : va_D A (treeW g a ((pq_wr 25 T.1 v3 v1), (pq_wr 25 T.2.1 v3 v2), T.2.2.1, (pq_wr 25 T.2.2.2.1 v3 0), (pq_wr 25 T.2.2.2.2.1 v3 0), T.2.2.2.2.2.1, T.2.2.2.2.2.2)) := pq_adr hD (ad_X4 _ _)
    refine lv_aload_n hx hb dX4_attach_112 rfl (lv_at hl 0 rfl) ?_
    refine pq_get S hK hP inX4 0 rfl rfl 2 (by decide) fl_X4_18 rfl (v := .ref (a 3)) rfl dX4_attach_113 ?_
    refine lv_iload_n hx hb dX4_attach_116 rfl (lv_at hl 3 rfl) ?_
    refine lv_iload hx hb dX4_attach_117 (lv_at hl 4 rfl) ?_
    refine pq_put S vn_X4_42 hK hP hD hS hA 3 rfl (by decide) hl.1 (Nat.le_of_ble_eq_true rfl) dX4_attach_119 (by decide) ⟨Nat.le_refl _, Nat.le_refl _⟩ (fun H locs hP hS => ?_)
    replace hP : va_P g.1 pq_cl (treeW g a ((pq_wr 25 T.1 v3 v1), (pq_wr 25 T.2.1 v3 v2), (pq_wr 25 T.2.2.1 v3 v4), (pq_wr 25 T.2.2.2.1 v3 0), (pq_wr 25 T.2.2.2.2.1 v3 0), T.2.2.2.2.2.1, T.2.2.2.2.2.2)) H := hP
    replace hD : va_D A (treeW g a ((pq_wr 25 T.1 v3 v1), (pq_wr 25 T.2.1 v3 v2), (pq_wr 25 T.2.2.1 v3 v4), (pq_wr 25 T.2.2.2.1 v3 0), (pq_wr 25 T.2.2.2.2.1 v3 0), T.2.2.2.2.2.1, T.2.2.2.2.2.2)) := pq_adr hD (ad_X4 _ _)
    refine lv_iload hx hb dX4_attach_122 (lv_at hl 4 rfl) ?_
    refine lv_if_ne (tgt := 135) hx hb dX4_attach_124 (by decide) (fun h3 => ?_) (fun h3 => ?_)
    · replace hf := pq_ifn h3 hf
      refine lv_iload_n hx hb dX4_attach_135 rfl (lv_at hl 1 rfl) ?_
      refine lv_aload_n hx hb dX4_attach_136 rfl (lv_at hl 0 rfl) ?_
      refine pq_get S hK hP inX4 0 rfl rfl 0 (by decide) fl_X4_9 rfl (v := .ref (a 1)) rfl dX4_attach_137 ?_
      refine lv_iload hx hb dX4_attach_140 (lv_at hl 4 rfl) ?_
      refine pq_at S vn_X4_38 hK hP 1 rfl (by decide) hl.1 (Nat.le_of_ble_eq_true rfl) dX4_attach_142 (by decide) ⟨Nat.le_refl _, Nat.le_refl _⟩ ?_
      refine lv_icmp_ge (tgt := 155) hx hb dX4_attach_145 (by decide) (fun h4 => ?_) (fun h4 => ?_)
      · replace hf := pq_ifp h4 hf
        refine lv_aload_n hx hb dX4_attach_155 rfl (lv_at hl 0 rfl) ?_
        refine pq_get S hK hP inX4 0 rfl rfl 4 (by decide) fl_X4_24 rfl (v := .ref (a 5)) rfl dX4_attach_156 ?_
        refine lv_iload hx hb dX4_attach_159 (lv_at hl 4 rfl) ?_
        refine lv_iload_n hx hb dX4_attach_161 rfl (lv_at hl 3 rfl) ?_
        refine pq_put S vn_X4_42 hK hP hD hS hA 5 rfl (by decide) hl.1 (Nat.le_of_ble_eq_true rfl) dX4_attach_162 (by decide) ⟨Nat.le_refl _, Nat.le_refl _⟩ (fun H locs hP hS => ?_)
        replace hP : va_P g.1 pq_cl (treeW g a ((pq_wr 25 T.1 v3 v1), (pq_wr 25 T.2.1 v3 v2), (pq_wr 25 T.2.2.1 v3 v4), (pq_wr 25 T.2.2.2.1 v3 0), (pq_wr 25 (pq_wr 25 T.2.2.2.2.1 v3 0) v4 v3), T.2.2.2.2.2.1, T.2.2.2.2.2.2)) H := hP
        replace hD : va_D A (treeW g a ((pq_wr 25 T.1 v3 v1), (pq_wr 25 T.2.1 v3 v2), (pq_wr 25 T.2.2.1 v3 v4), (pq_wr 25 T.2.2.2.1 v3 0), (pq_wr 25 (pq_wr 25 T.2.2.2.2.1 v3 0) v4 v3), T.2.2.2.2.2.1, T.2.2.2.2.2.2)) := pq_adr hD (ad_X4 _ _)
        exact B165 ((pq_wr 25 T.1 v3 v1), (pq_wr 25 T.2.1 v3 v2), (pq_wr 25 T.2.2.1 v3 v4), (pq_wr 25 T.2.2.2.1 v3 0), (pq_wr 25 (pq_wr 25 T.2.2.2.2.1 v3 0) v4 v3), T.2.2.2.2.2.1, T.2.2.2.2.2.2) v3 ls _ _ hP hD hS (lv_sub hl [0, 3] rfl) hf
      · replace hf := pq_ifn h4 hf
        refine lv_aload_n hx hb dX4_attach_148 rfl (lv_at hl 0 rfl) ?_
        refine pq_get S hK hP inX4 0 rfl rfl 3 (by decide) fl_X4_21 rfl (v := .ref (a 4)) rfl dX4_attach_149 ?_
        refine lv_goto (tgt := 159) hx hb dX4_attach_152 (by decide) ?_
        refine lv_iload hx hb dX4_attach_159 (lv_at hl 4 rfl) ?_
        refine lv_iload_n hx hb dX4_attach_161 rfl (lv_at hl 3 rfl) ?_
        refine pq_put S vn_X4_42 hK hP hD hS hA 4 rfl (by decide) hl.1 (Nat.le_of_ble_eq_true rfl) dX4_attach_162 (by decide) ⟨Nat.le_refl _, Nat.le_refl _⟩ (fun H locs hP hS => ?_)
        replace hP : va_P g.1 pq_cl (treeW g a ((pq_wr 25 T.1 v3 v1), (pq_wr 25 T.2.1 v3 v2), (pq_wr 25 T.2.2.1 v3 v4), (pq_wr 25 (pq_wr 25 T.2.2.2.1 v3 0) v4 v3), (pq_wr 25 T.2.2.2.2.1 v3 0), T.2.2.2.2.2.1, T.2.2.2.2.2.2)) H := hP
        replace hD : va_D A (treeW g a ((pq_wr 25 T.1 v3 v1), (pq_wr 25 T.2.1 v3 v2), (pq_wr 25 T.2.2.1 v3 v4), (pq_wr 25 (pq_wr 25 T.2.2.2.1 v3 0) v4 v3), (pq_wr 25 T.2.2.2.2.1 v3 0), T.2.2.2.2.2.1, T.2.2.2.2.2.2)) := pq_adr hD (ad_X4 _ _)
        exact B165 ((pq_wr 25 T.1 v3 v1), (pq_wr 25 T.2.1 v3 v2), (pq_wr 25 T.2.2.1 v3 v4), (pq_wr 25 (pq_wr 25 T.2.2.2.1 v3 0) v4 v3), (pq_wr 25 T.2.2.2.2.1 v3 0), T.2.2.2.2.2.1, T.2.2.2.2.2.2) v3 ls _ _ hP hD hS (lv_sub hl [0, 3] rfl) hf
    · replace hf := pq_ifp h3 hf
      refine lv_aload_n hx hb dX4_attach_127 rfl (lv_at hl 0 rfl) ?_
      refine lv_iload_n hx hb dX4_attach_128 rfl (lv_at hl 3 rfl) ?_
      refine pq_putf S hK hP hD hS inX4 tyX4_ok nmX4 0 rfl rfl 6 (by decide) fl_X4_30 rfl rfl (ty := .int) rfl rfl rfl (Nat.le_of_ble_eq_true rfl) dX4_attach_129 (fun H locs hP hS => ?_)
      replace hP : va_P g.1 pq_cl (treeW g a ((pq_wr 25 T.1 v3 v1), (pq_wr 25 T.2.1 v3 v2), (pq_wr 25 T.2.2.1 v3 v4), (pq_wr 25 T.2.2.2.1 v3 0), (pq_wr 25 T.2.2.2.2.1 v3 0), T.2.2.2.2.2.1, v3)) H := hP
      replace hD : va_D A (treeW g a ((pq_wr 25 T.1 v3 v1), (pq_wr 25 T.2.1 v3 v2), (pq_wr 25 T.2.2.1 v3 v4), (pq_wr 25 T.2.2.2.1 v3 0), (pq_wr 25 T.2.2.2.2.1 v3 0), T.2.2.2.2.2.1, v3)) := pq_adr hD (ad_X4 _ _)
      refine lv_goto (tgt := 165) hx hb dX4_attach_132 (by decide) ?_
      exact B165 ((pq_wr 25 T.1 v3 v1), (pq_wr 25 T.2.1 v3 v2), (pq_wr 25 T.2.2.1 v3 v4), (pq_wr 25 T.2.2.2.1 v3 0), (pq_wr 25 T.2.2.2.2.1 v3 0), T.2.2.2.2.2.1, v3) v3 ls _ _ hP hD hS (lv_sub hl [0, 3] rfl) hf
  have B23 : ∀ (n23 : Nat) (T : TreeS) (v1 : Int32) (v2 : Int32) (v3 : Int32) (v4 : Int32) (v5 : Int32) (v6 : Int32) (ls : Array Slot) (H : Heap) (locs : List Loc), va_P g.1 pq_cl (treeW g a T) H → va_D A (treeW g a T) → va_S A s.heap H locs → lv_has ls 7 [(0, .ref (a 0)), (1, .int v1), (2, .int v2), (3, .int v3), (4, .int v4), (5, .int v5), (6, .int v6)] → f_X4_attach_c23 n23 T v1 v2 v3 v4 v5 v6 = some (r, T1) → W p l e (pq_rm 4 0 0) s m ([.ref (a 0), .int p1, .int p2] : List Value).toArray below meth c H locs 0 0 Q (F0 m 23 ls []) := by
    intro n23
    induction n23 with
    | zero =>
      intro T v1 v2 v3 v4 v5 v6 ls H locs hP hD hS hl hf
      exact absurd hf (by simp [f_X4_attach_c23])
    | succ n23 ih23 =>
      intro T v1 v2 v3 v4 v5 v6 ls H locs hP hD hS hl hf
      rw [f_X4_attach_c23] at hf
      refine lv_iload hx hb dX4_attach_23 (lv_at hl 6 rfl) ?_
      refine lv_bipush (v := 24) hx hb dX4_attach_25 (by decide) ?_
      refine lv_icmp_ge (tgt := 76) hx hb dX4_attach_27 (by decide) (fun h5 => ?_) (fun h5 => ?_)
      · replace hf := pq_ifp h5 hf
        exact B76 T v1 v2 v3 v4 ls _ _ hP hD hS (lv_sub hl [0, 1, 2, 3, 4] rfl) hf
      · replace hf := pq_ifn h5 hf
        refine lv_iload hx hb dX4_attach_30 (lv_at hl 5 rfl) ?_
        refine lv_if_eq (tgt := 76) hx hb dX4_attach_32 (by decide) (fun h6 => ?_) (fun h6 => ?_)
        · replace hf := pq_ifp h6 hf
          exact B76 T v1 v2 v3 v4 ls _ _ hP hD hS (lv_sub hl [0, 1, 2, 3, 4] rfl) hf
        · replace hf := pq_ifn h6 hf
          refine lv_iload hx hb dX4_attach_35 (lv_at hl 5 rfl) ?_
          refine lv_istore (lv' := [(4, .int v5), (0, .ref (a 0)), (1, .int v1), (2, .int v2), (3, .int v3), (5, .int v5), (6, .int v6)]) hx hb dX4_attach_37 hl (by decide) rfl (fun ls hl => ?_)
          refine lv_iload_n hx hb dX4_attach_39 rfl (lv_at hl 2 rfl) ?_
          refine lv_aload_n hx hb dX4_attach_40 rfl (lv_at hl 1 rfl) ?_
          refine pq_get S hK hP inX4 0 rfl rfl 0 (by decide) fl_X4_9 rfl (v := .ref (a 1)) rfl dX4_attach_41 ?_
          refine lv_iload hx hb dX4_attach_44 (lv_at hl 5 rfl) ?_
          refine pq_at S vn_X4_38 hK hP 1 rfl (by decide) hl.1 (Nat.le_of_ble_eq_true rfl) dX4_attach_46 (by decide) ⟨Nat.le_refl _, Nat.le_refl _⟩ ?_
          refine lv_icmp_ge (tgt := 59) hx hb dX4_attach_49 (by decide) (fun h7 => ?_) (fun h7 => ?_)
          · replace hf := pq_ifp h7 hf
            refine lv_aload_n hx hb dX4_attach_59 rfl (lv_at hl 1 rfl) ?_
            refine pq_get S hK hP inX4 0 rfl rfl 4 (by decide) fl_X4_24 rfl (v := .ref (a 5)) rfl dX4_attach_60 ?_
            refine lv_iload hx hb dX4_attach_63 (lv_at hl 5 rfl) ?_
            refine pq_at S vn_X4_38 hK hP 5 rfl (by decide) hl.1 (Nat.le_of_ble_eq_true rfl) dX4_attach_65 (by decide) ⟨Nat.le_refl _, Nat.le_refl _⟩ ?_
            refine lv_istore (lv' := [(5, .int (pq_rd 25 T.2.2.2.2.1 v5)), (4, .int v5), (0, .ref (a 0)), (1, .int v1), (2, .int v2), (3, .int v3), (6, .int v6)]) hx hb dX4_attach_68 hl (by decide) rfl (fun ls hl => ?_)
            refine lv_iinc (v := (v6 + 1)) (lv' := [(6, .int (v6 + 1)), (5, .int (pq_rd 25 T.2.2.2.2.1 v5)), (4, .int v5), (0, .ref (a 0)), (1, .int v1), (2, .int v2), (3, .int v3)]) hx hb dX4_attach_70 hl (k := 6) rfl rfl (by decide) rfl (fun ls hl => ?_)
            refine lv_goto (tgt := 23) hx hb dX4_attach_73 (by decide) ?_
            exact ih23 T v1 v2 v3 v5 (pq_rd 25 T.2.2.2.2.1 v5) (v6 + 1) ls _ _ hP hD hS (lv_sub hl [3, 4, 5, 6, 2, 1, 0] rfl) hf
          · replace hf := pq_ifn h7 hf
            refine lv_aload_n hx hb dX4_attach_52 rfl (lv_at hl 1 rfl) ?_
            refine pq_get S hK hP inX4 0 rfl rfl 3 (by decide) fl_X4_21 rfl (v := .ref (a 4)) rfl dX4_attach_53 ?_
            refine lv_goto (tgt := 63) hx hb dX4_attach_56 (by decide) ?_
            refine lv_iload hx hb dX4_attach_63 (lv_at hl 5 rfl) ?_
            refine pq_at S vn_X4_38 hK hP 4 rfl (by decide) hl.1 (Nat.le_of_ble_eq_true rfl) dX4_attach_65 (by decide) ⟨Nat.le_refl _, Nat.le_refl _⟩ ?_
            refine lv_istore (lv' := [(5, .int (pq_rd 25 T.2.2.2.1 v5)), (4, .int v5), (0, .ref (a 0)), (1, .int v1), (2, .int v2), (3, .int v3), (6, .int v6)]) hx hb dX4_attach_68 hl (by decide) rfl (fun ls hl => ?_)
            refine lv_iinc (v := (v6 + 1)) (lv' := [(6, .int (v6 + 1)), (5, .int (pq_rd 25 T.2.2.2.1 v5)), (4, .int v5), (0, .ref (a 0)), (1, .int v1), (2, .int v2), (3, .int v3)]) hx hb dX4_attach_70 hl (k := 6) rfl rfl (by decide) rfl (fun ls hl => ?_)
            refine lv_goto (tgt := 23) hx hb dX4_attach_73 (by decide) ?_
            exact ih23 T v1 v2 v3 v5 (pq_rd 25 T.2.2.2.1 v5) (v6 + 1) ls _ _ hP hD hS (lv_sub hl [3, 4, 5, 6, 2, 1, 0] rfl) hf
  refine lv_aload_n hx hb dX4_attach_0 rfl (lv_at hl 0 rfl) ?_
  obtain ⟨q9, e8, hf⟩ := pq_bind hf
  refine pq_cV S (c_X4_freeSlot l g a T q9 e8) vv_X4_65 hK hP rfl rfl rfl rfl rfl hl.1 (Nat.le_of_ble_eq_true rfl) dX4_attach_1 (by decide) (by decide) ⟨Nat.le_refl _, Nat.le_refl _⟩ ?_
  refine lv_istore_n (lv' := [(3, .int q9), (0, .ref (a 0)), (1, .int p1), (2, .int p2)]) hx hb dX4_attach_4 rfl hl (by decide) rfl (fun ls hl => ?_)
  refine lv_iload_n hx hb dX4_attach_5 rfl (lv_at hl 0 rfl) ?_
  refine lv_if_ne (tgt := 11) hx hb dX4_attach_6 (by decide) (fun h10 => ?_) (fun h10 => ?_)
  · replace hf := pq_ifn h10 hf
    refine lv_iconst (v := 0) hx hb dX4_attach_11 (by decide) ?_
    refine lv_istore (lv' := [(4, .int 0), (3, .int q9), (0, .ref (a 0)), (1, .int p1), (2, .int p2)]) hx hb dX4_attach_12 hl (by decide) rfl (fun ls hl => ?_)
    refine lv_aload_n hx hb dX4_attach_14 rfl (lv_at hl 2 rfl) ?_
    refine pq_get S hK hP inX4 0 rfl rfl 6 (by decide) fl_X4_30 rfl (v := .int T.2.2.2.2.2.2) rfl dX4_attach_15 ?_
    refine lv_istore (lv' := [(5, .int T.2.2.2.2.2.2), (4, .int 0), (3, .int q9), (0, .ref (a 0)), (1, .int p1), (2, .int p2)]) hx hb dX4_attach_18 hl (by decide) rfl (fun ls hl => ?_)
    refine lv_iconst (v := 0) hx hb dX4_attach_20 (by decide) ?_
    refine lv_istore (lv' := [(6, .int 0), (5, .int T.2.2.2.2.2.2), (4, .int 0), (3, .int q9), (0, .ref (a 0)), (1, .int p1), (2, .int p2)]) hx hb dX4_attach_21 hl (by decide) rfl (fun ls hl => ?_)
    exact B23 200 T p1 p2 q9 0 T.2.2.2.2.2.2 0 ls _ _ hP hD hS (lv_sub hl [4, 5, 6, 3, 2, 1, 0] rfl) hf
  · replace hf := pq_ifp h10 hf
    refine lv_iconst (v := 0) hx hb dX4_attach_9 (by decide) ?_
    obtain ⟨h8, h9⟩ := pq_pair hf
    exact hend _ _ _ _ _ dX4_attach_10 rfl h8 (by rw [← h9]; exact hP) hS
def f_X4_detach (T : TreeS) (p1 : Int32) : Option (TreeS) :=
    (f_X4_replaceChild T (pq_rd 25 T.2.2.1 p1) p1 0).bind fun q2 =>
    (f_X4_recountUpwards (q2.1, q2.2.1, q2.2.2.1, q2.2.2.2.1, q2.2.2.2.2.1, (pq_wr 25 q2.2.2.2.2.2.1 p1 0), q2.2.2.2.2.2.2) (pq_rd 25 T.2.2.1 p1)).bind fun q4 =>
    some q4
set_option maxHeartbeats 4000000 in
set_option maxRecDepth 100000 in
theorem c_X4_detach (l : Launch) (g : pq_g) (a : Nat → Nat) (T : TreeS) (p1 : Int32) (T1 : TreeS) (hf : f_X4_detach T p1 = some T1) : pq_Mv l yX4_detach cX4_detach 3 4 g (treeW g a T) [.ref (a 0), .int p1] (treeW g a T1) := by
  rw [f_X4_detach] at hf
  refine pq_Mv.of (own := RX4) (by decide) rfl (Nat.le_of_ble_eq_true rfl) rfl ?_
  intro p e s m below meth c ls Q A S hP hK hD hS hA hl hend
  obtain ⟨hx, hb, hml, hown, hts⟩ := id S
  refine lv_aload_n hx hb dX4_detach_0 rfl (lv_at hl 0 rfl) ?_
  refine pq_get S hK hP inX4 0 rfl rfl 2 (by decide) fl_X4_18 rfl (v := .ref (a 3)) rfl dX4_detach_1 ?_
  refine lv_iload_n hx hb dX4_detach_4 rfl (lv_at hl 1 rfl) ?_
  refine pq_at S vn_X4_38 hK hP 3 rfl (by decide) hl.1 (Nat.le_of_ble_eq_true rfl) dX4_detach_5 (by decide) ⟨Nat.le_refl _, Nat.le_refl _⟩ ?_
  refine lv_istore_n (lv' := [(2, .int (pq_rd 25 T.2.2.1 p1)), (0, .ref (a 0)), (1, .int p1)]) hx hb dX4_detach_8 rfl hl (by decide) rfl (fun ls hl => ?_)
  refine lv_aload_n hx hb dX4_detach_9 rfl (lv_at hl 1 rfl) ?_
  refine lv_iload_n hx hb dX4_detach_10 rfl (lv_at hl 0 rfl) ?_
  refine lv_iload_n hx hb dX4_detach_11 rfl (lv_at hl 2 rfl) ?_
  refine lv_iconst (v := 0) hx hb dX4_detach_12 (by decide) ?_
  obtain ⟨q2, e1, hf⟩ := pq_bind hf
  refine pq_cVv S (c_X4_replaceChild l g a T (pq_rd 25 T.2.2.1 p1) p1 0 q2 e1) vv_X4_50 hK hP hD hS hA rfl rfl rfl rfl rfl hl.1 (Nat.le_of_ble_eq_true rfl) dX4_detach_13 (by decide) (by decide) ⟨Nat.le_refl _, Nat.le_refl _⟩ (fun H9 locs hk hP1 hS => ?_)
  replace hP := hP1
  replace hP : va_P g.1 pq_cl (treeW g a q2) H9 := hP
  replace hD : va_D A (treeW g a q2) := pq_adr hD (ad_X4 _ _)
  clear hk
  generalize H9 = H at hP hS ⊢
  refine lv_aload_n hx hb dX4_detach_16 rfl (lv_at hl 1 rfl) ?_
  refine pq_get S hK hP inX4 0 rfl rfl 5 (by decide) fl_X4_27 rfl (v := .ref (a 6)) rfl dX4_detach_17 ?_
  refine lv_iload_n hx hb dX4_detach_20 rfl (lv_at hl 2 rfl) ?_
  refine lv_iconst (v := 0) hx hb dX4_detach_21 (by decide) ?_
  refine pq_put S vn_X4_42 hK hP hD hS hA 6 rfl (by decide) hl.1 (Nat.le_of_ble_eq_true rfl) dX4_detach_22 (by decide) ⟨Nat.le_refl _, Nat.le_refl _⟩ (fun H locs hP hS => ?_)
  replace hP : va_P g.1 pq_cl (treeW g a (q2.1, q2.2.1, q2.2.2.1, q2.2.2.2.1, q2.2.2.2.2.1, (pq_wr 25 q2.2.2.2.2.2.1 p1 0), q2.2.2.2.2.2.2)) H := hP
  replace hD : va_D A (treeW g a (q2.1, q2.2.1, q2.2.2.1, q2.2.2.2.1, q2.2.2.2.2.1, (pq_wr 25 q2.2.2.2.2.2.1 p1 0), q2.2.2.2.2.2.2)) := pq_adr hD (ad_X4 _ _)
  refine lv_aload_n hx hb dX4_detach_25 rfl (lv_at hl 1 rfl) ?_
  refine lv_iload_n hx hb dX4_detach_26 rfl (lv_at hl 0 rfl) ?_
  obtain ⟨q4, e3, hf⟩ := pq_bind hf
  refine pq_cVv S (c_X4_recountUpwards l g a (q2.1, q2.2.1, q2.2.2.1, q2.2.2.2.1, q2.2.2.2.2.1, (pq_wr 25 q2.2.2.2.2.2.1 p1 0), q2.2.2.2.2.2.2) (pq_rd 25 T.2.2.1 p1) q4 e3) vv_X4_69 hK hP hD hS hA rfl rfl rfl rfl rfl hl.1 (Nat.le_of_ble_eq_true rfl) dX4_detach_27 (by decide) (by decide) ⟨Nat.le_refl _, Nat.le_refl _⟩ (fun H9 locs hk hP1 hS => ?_)
  replace hP := hP1
  replace hP : va_P g.1 pq_cl (treeW g a q4) H9 := hP
  replace hD : va_D A (treeW g a q4) := pq_adr hD (ad_X4 _ _)
  clear hk
  generalize H9 = H at hP hS ⊢
  exact hend _ _ _ _ dX4_detach_30 (by rw [← Option.some.inj hf]; exact hP) hS
def f_X4_putPriority (T : TreeS) (p1 : Int32) (p2 : Int32) : Option (TreeS) :=
    some (T.1, (pq_wr 25 T.2.1 p1 p2), T.2.2.1, T.2.2.2.1, T.2.2.2.2.1, T.2.2.2.2.2.1, T.2.2.2.2.2.2)
set_option maxHeartbeats 4000000 in
set_option maxRecDepth 100000 in
theorem c_X4_putPriority (l : Launch) (g : pq_g) (a : Nat → Nat) (T : TreeS) (p1 : Int32) (p2 : Int32) (T1 : TreeS) (hf : f_X4_putPriority T p1 p2 = some T1) : pq_Mv l yX4_putPriority cX4_putPriority 3 2 g (treeW g a T) [.ref (a 0), .int p1, .int p2] (treeW g a T1) := by
  rw [f_X4_putPriority] at hf
  refine pq_Mv.of (own := RX4) (by decide) rfl (Nat.le_of_ble_eq_true rfl) rfl ?_
  intro p e s m below meth c ls Q A S hP hK hD hS hA hl hend
  obtain ⟨hx, hb, hml, hown, hts⟩ := id S
  refine lv_aload_n hx hb dX4_putPriority_0 rfl (lv_at hl 0 rfl) ?_
  refine pq_get S hK hP inX4 0 rfl rfl 1 (by decide) fl_X4_15 rfl (v := .ref (a 2)) rfl dX4_putPriority_1 ?_
  refine lv_iload_n hx hb dX4_putPriority_4 rfl (lv_at hl 1 rfl) ?_
  refine lv_iload_n hx hb dX4_putPriority_5 rfl (lv_at hl 2 rfl) ?_
  refine pq_put S vn_X4_42 hK hP hD hS hA 2 rfl (by decide) hl.1 (Nat.le_of_ble_eq_true rfl) dX4_putPriority_6 (by decide) ⟨Nat.le_refl _, Nat.le_refl _⟩ (fun H locs hP hS => ?_)
  replace hP : va_P g.1 pq_cl (treeW g a (T.1, (pq_wr 25 T.2.1 p1 p2), T.2.2.1, T.2.2.2.1, T.2.2.2.2.1, T.2.2.2.2.2.1, T.2.2.2.2.2.2)) H := hP
  replace hD : va_D A (treeW g a (T.1, (pq_wr 25 T.2.1 p1 p2), T.2.2.1, T.2.2.2.1, T.2.2.2.2.1, T.2.2.2.2.2.1, T.2.2.2.2.2.2)) := pq_adr hD (ad_X4 _ _)
  exact hend _ _ _ _ dX4_putPriority_9 (by rw [← Option.some.inj hf]; exact hP) hS
def f_X4_isInRange (T : TreeS) (p1 : Int32) (p2 : Int32) (p3 : Int32) : Option (Int32) :=
    if (pq_rd 25 T.2.2.2.2.2.1 p1) ≤ 0 then
      some 0
    else
      if (pq_rd 25 T.1 p1) < p2 then
        some 0
      else
        if p3 < (pq_rd 25 T.1 p1) then
          some 0
        else
          some 1
set_option maxHeartbeats 4000000 in
set_option maxRecDepth 100000 in
theorem c_X4_isInRange (l : Launch) (g : pq_g) (a : Nat → Nat) (T : TreeS) (p1 : Int32) (p2 : Int32) (p3 : Int32) (r : Int32) (hf : f_X4_isInRange T p1 p2 p3 = some r) : pq_R l yX4_isInRange cX4_isInRange 5 .boolean 2 g (treeW g a T) [.ref (a 0), .int p1, .int p2, .int p3] r := by
  rw [f_X4_isInRange] at hf
  refine pq_R.of (own := RX4) (by decide) rfl (Nat.le_of_ble_eq_true rfl) rfl ?_
  intro p e s m below meth c ls Q S hP hK hl hend
  obtain ⟨hx, hb, hml, hown, hts⟩ := id S
  refine lv_aload_n hx hb dX4_isInRange_0 rfl (lv_at hl 0 rfl) ?_
  refine pq_get S hK hP inX4 0 rfl rfl 0 (by decide) fl_X4_9 rfl (v := .ref (a 1)) rfl dX4_isInRange_1 ?_
  refine lv_iload_n hx hb dX4_isInRange_4 rfl (lv_at hl 1 rfl) ?_
  refine pq_at S vn_X4_38 hK hP 1 rfl (by decide) hl.1 (Nat.le_of_ble_eq_true rfl) dX4_isInRange_5 (by decide) ⟨Nat.le_refl _, Nat.le_refl _⟩ ?_
  refine lv_istore (lv' := [(4, .int (pq_rd 25 T.1 p1)), (0, .ref (a 0)), (1, .int p1), (2, .int p2), (3, .int p3)]) hx hb dX4_isInRange_8 hl (by decide) rfl (fun ls hl => ?_)
  refine lv_aload_n hx hb dX4_isInRange_10 rfl (lv_at hl 1 rfl) ?_
  refine pq_get S hK hP inX4 0 rfl rfl 5 (by decide) fl_X4_27 rfl (v := .ref (a 6)) rfl dX4_isInRange_11 ?_
  refine lv_iload_n hx hb dX4_isInRange_14 rfl (lv_at hl 2 rfl) ?_
  refine pq_at S vn_X4_38 hK hP 6 rfl (by decide) hl.1 (Nat.le_of_ble_eq_true rfl) dX4_isInRange_15 (by decide) ⟨Nat.le_refl _, Nat.le_refl _⟩ ?_
  refine lv_if_le (tgt := 37) hx hb dX4_isInRange_18 (by decide) (fun h1 => ?_) (fun h1 => ?_)
  · replace hf := pq_ifp h1 hf
    refine lv_iconst (v := 0) hx hb dX4_isInRange_37 (by decide) ?_
    exact hend _ _ _ dX4_isInRange_38 rfl hf
  · replace hf := pq_ifn h1 hf
    refine lv_iload hx hb dX4_isInRange_21 (lv_at hl 0 rfl) ?_
    refine lv_iload_n hx hb dX4_isInRange_23 rfl (lv_at hl 3 rfl) ?_
    refine lv_icmp_lt (tgt := 37) hx hb dX4_isInRange_24 (by decide) (fun h2 => ?_) (fun h2 => ?_)
    · replace hf := pq_ifp h2 hf
      refine lv_iconst (v := 0) hx hb dX4_isInRange_37 (by decide) ?_
      exact hend _ _ _ dX4_isInRange_38 rfl hf
    · replace hf := pq_ifn h2 hf
      refine lv_iload hx hb dX4_isInRange_27 (lv_at hl 0 rfl) ?_
      refine lv_iload_n hx hb dX4_isInRange_29 rfl (lv_at hl 4 rfl) ?_
      refine lv_icmp_gt (tgt := 37) hx hb dX4_isInRange_30 (by decide) (fun h3 => ?_) (fun h3 => ?_)
      · replace hf := pq_ifp h3 hf
        refine lv_iconst (v := 0) hx hb dX4_isInRange_37 (by decide) ?_
        exact hend _ _ _ dX4_isInRange_38 rfl hf
      · replace hf := pq_ifn h3 hf
        refine lv_iconst (v := 1) hx hb dX4_isInRange_33 (by decide) ?_
        refine lv_goto (tgt := 38) hx hb dX4_isInRange_34 (by decide) ?_
        exact hend _ _ _ dX4_isInRange_38 rfl hf
def f_X4_removeRange_c5 : Nat → TreeS → Int32 → Int32 → Int32 → Int32 → Option (Int32 × (TreeS))
  | 0, _, _, _, _, _ => none
  | n + 1, T, v1, v2, v3, v4 =>
    if 24 < v4 then
      some (v3, T)
    else
      (f_X4_isInRange T v4 v1 v2).bind fun q3 =>
      if q3 = 0 then
        f_X4_removeRange_c5 n T v1 v2 v3 (v4 + 1)
      else
        (f_X4_rotateDown T v4 1).bind fun q6 =>
        (f_X4_detach q6.2 v4).bind fun q8 =>
        f_X4_removeRange_c5 n q8 v1 v2 (v3 + 1) (v4 + 1)
def f_X4_removeRange (T : TreeS) (p1 : Int32) (p2 : Int32) : Option (Int32 × (TreeS)) :=
    f_X4_removeRange_c5 200 T p1 p2 0 1
set_option maxHeartbeats 4000000 in
set_option maxRecDepth 100000 in
theorem c_X4_removeRange (l : Launch) (g : pq_g) (a : Nat → Nat) (T : TreeS) (p1 : Int32) (p2 : Int32) (r : Int32) (T1 : TreeS) (hf : f_X4_removeRange T p1 p2 = some (r, T1)) : pq_Mi l yX4_removeRange cX4_removeRange 5 .int 5 g (treeW g a T) [.ref (a 0), .int p1, .int p2] r (treeW g a T1) := by
  rw [f_X4_removeRange] at hf
  refine pq_Mi.of (own := RX4) (by decide) rfl (Nat.le_of_ble_eq_true rfl) rfl ?_
  intro p e s m below meth c ls Q A S hP hK hD hS hA hl hend
  obtain ⟨hx, hb, hml, hown, hts⟩ := id S
  have B5 : ∀ (n5 : Nat) (T : TreeS) (v1 : Int32) (v2 : Int32) (v3 : Int32) (v4 : Int32) (ls : Array Slot) (H : Heap) (locs : List Loc), va_P g.1 pq_cl (treeW g a T) H → va_D A (treeW g a T) → va_S A s.heap H locs → lv_has ls 5 [(0, .ref (a 0)), (1, .int v1), (2, .int v2), (3, .int v3), (4, .int v4)] → f_X4_removeRange_c5 n5 T v1 v2 v3 v4 = some (r, T1) → W p l e (pq_rm 5 0 0) s m ([.ref (a 0), .int p1, .int p2] : List Value).toArray below meth c H locs 0 0 Q (F0 m 5 ls []) := by
    intro n5
    induction n5 with
    | zero =>
      intro T v1 v2 v3 v4 ls H locs hP hD hS hl hf
      exact absurd hf (by simp [f_X4_removeRange_c5])
    | succ n5 ih5 =>
      intro T v1 v2 v3 v4 ls H locs hP hD hS hl hf
      rw [f_X4_removeRange_c5] at hf
      refine lv_iload hx hb dX4_removeRange_5 (lv_at hl 4 rfl) ?_
      refine lv_bipush (v := 24) hx hb dX4_removeRange_7 (by decide) ?_
      refine lv_icmp_gt (tgt := 46) hx hb dX4_removeRange_9 (by decide) (fun h1 => ?_) (fun h1 => ?_)
      · replace hf := pq_ifp h1 hf
        refine lv_iload_n hx hb dX4_removeRange_46 rfl (lv_at hl 3 rfl) ?_
        obtain ⟨h8, h9⟩ := pq_pair hf
        exact hend _ _ _ _ _ dX4_removeRange_47 rfl h8 (by rw [← h9]; exact hP) hS
      · replace hf := pq_ifn h1 hf
        refine lv_aload_n hx hb dX4_removeRange_12 rfl (lv_at hl 0 rfl) ?_
        refine lv_iload hx hb dX4_removeRange_13 (lv_at hl 4 rfl) ?_
        refine lv_iload_n hx hb dX4_removeRange_15 rfl (lv_at hl 1 rfl) ?_
        refine lv_iload_n hx hb dX4_removeRange_16 rfl (lv_at hl 2 rfl) ?_
        obtain ⟨q3, e2, hf⟩ := pq_bind hf
        refine pq_cV S (c_X4_isInRange l g a T v4 v1 v2 q3 e2) vv_X4_72 hK hP rfl rfl rfl rfl rfl hl.1 (Nat.le_of_ble_eq_true rfl) dX4_removeRange_17 (by decide) (by decide) ⟨Nat.le_refl _, Nat.le_refl _⟩ ?_
        refine lv_if_eq (tgt := 40) hx hb dX4_removeRange_20 (by decide) (fun h4 => ?_) (fun h4 => ?_)
        · replace hf := pq_ifp h4 hf
          refine lv_iinc (v := (v4 + 1)) (lv' := [(4, .int (v4 + 1)), (0, .ref (a 0)), (1, .int v1), (2, .int v2), (3, .int v3)]) hx hb dX4_removeRange_40 hl (k := 4) rfl rfl (by decide) rfl (fun ls hl => ?_)
          refine lv_goto (tgt := 5) hx hb dX4_removeRange_43 (by decide) ?_
          exact ih5 T v1 v2 v3 (v4 + 1) ls _ _ hP hD hS (lv_sub hl [1, 2, 3, 4, 0] rfl) hf
        · replace hf := pq_ifn h4 hf
          refine lv_aload_n hx hb dX4_removeRange_23 rfl (lv_at hl 0 rfl) ?_
          refine lv_iload hx hb dX4_removeRange_24 (lv_at hl 4 rfl) ?_
          refine lv_iconst (v := 1) hx hb dX4_removeRange_26 (by decide) ?_
          obtain ⟨q6, e5, hf⟩ := pq_bind hf
          refine pq_cVi S (c_X4_rotateDown l g a T v4 1 q6.1 q6.2 e5) vv_X4_76 hK hP hD hS hA rfl rfl rfl rfl rfl hl.1 (Nat.le_of_ble_eq_true rfl) dX4_removeRange_27 (by decide) (by decide) ⟨Nat.le_refl _, Nat.le_refl _⟩ (fun H9 locs hk hP1 hS => ?_)
          replace hP := hP1
          replace hP : va_P g.1 pq_cl (treeW g a q6.2) H9 := hP
          replace hD : va_D A (treeW g a q6.2) := pq_adr hD (ad_X4 _ _)
          clear hk
          generalize H9 = H at hP hS ⊢
          refine lv_pop hx hb dX4_removeRange_30 rfl ?_
          refine lv_aload_n hx hb dX4_removeRange_31 rfl (lv_at hl 0 rfl) ?_
          refine lv_iload hx hb dX4_removeRange_32 (lv_at hl 4 rfl) ?_
          obtain ⟨q8, e7, hf⟩ := pq_bind hf
          refine pq_cVv S (c_X4_detach l g a q6.2 v4 q8 e7) vv_X4_80 hK hP hD hS hA rfl rfl rfl rfl rfl hl.1 (Nat.le_of_ble_eq_true rfl) dX4_removeRange_34 (by decide) (by decide) ⟨Nat.le_refl _, Nat.le_refl _⟩ (fun H9 locs hk hP1 hS => ?_)
          replace hP := hP1
          replace hP : va_P g.1 pq_cl (treeW g a q8) H9 := hP
          replace hD : va_D A (treeW g a q8) := pq_adr hD (ad_X4 _ _)
          clear hk
          generalize H9 = H at hP hS ⊢
          refine lv_iinc (v := (v3 + 1)) (lv' := [(3, .int (v3 + 1)), (0, .ref (a 0)), (1, .int v1), (2, .int v2), (4, .int v4)]) hx hb dX4_removeRange_37 hl (k := 3) rfl rfl (by decide) rfl (fun ls hl => ?_)
          refine lv_iinc (v := (v4 + 1)) (lv' := [(4, .int (v4 + 1)), (3, .int (v3 + 1)), (0, .ref (a 0)), (1, .int v1), (2, .int v2)]) hx hb dX4_removeRange_40 hl (k := 4) rfl rfl (by decide) rfl (fun ls hl => ?_)
          refine lv_goto (tgt := 5) hx hb dX4_removeRange_43 (by decide) ?_
          exact ih5 q8 v1 v2 (v3 + 1) (v4 + 1) ls _ _ hP hD hS (lv_sub hl [2, 3, 4, 1, 0] rfl) hf
  refine lv_iconst (v := 0) hx hb dX4_removeRange_0 (by decide) ?_
  refine lv_istore_n (lv' := [(3, .int 0), (0, .ref (a 0)), (1, .int p1), (2, .int p2)]) hx hb dX4_removeRange_1 rfl hl (by decide) rfl (fun ls hl => ?_)
  refine lv_iconst (v := 1) hx hb dX4_removeRange_2 (by decide) ?_
  refine lv_istore (lv' := [(4, .int 1), (3, .int 0), (0, .ref (a 0)), (1, .int p1), (2, .int p2)]) hx hb dX4_removeRange_3 hl (by decide) rfl (fun ls hl => ?_)
  exact B5 200 T p1 p2 0 1 ls _ _ hP hD hS (lv_sub hl [2, 3, 4, 1, 0] rfl) hf
def f_X4_slotOf_c7 : Nat → TreeS → Int32 → Int32 → Int32 → Option (Int32)
  | 0, _, _, _, _ => none
  | n + 1, T, v1, v2, v3 =>
    if 24 ≤ v3 then
      some 0
    else
      if v2 = 0 then
        some 0
      else
        if (pq_rd 25 T.1 v2) = v1 then
          some v2
        else
          if (pq_rd 25 T.1 v2) ≤ v1 then
            f_X4_slotOf_c7 n T v1 (pq_rd 25 T.2.2.2.2.1 v2) (v3 + 1)
          else
            f_X4_slotOf_c7 n T v1 (pq_rd 25 T.2.2.2.1 v2) (v3 + 1)
def f_X4_slotOf (T : TreeS) (p1 : Int32) : Option (Int32) :=
    f_X4_slotOf_c7 200 T p1 T.2.2.2.2.2.2 0
set_option maxHeartbeats 4000000 in
set_option maxRecDepth 100000 in
theorem c_X4_slotOf (l : Launch) (g : pq_g) (a : Nat → Nat) (T : TreeS) (p1 : Int32) (r : Int32) (hf : f_X4_slotOf T p1 = some r) : pq_R l yX4_slotOf cX4_slotOf 5 .int 2 g (treeW g a T) [.ref (a 0), .int p1] r := by
  rw [f_X4_slotOf] at hf
  refine pq_R.of (own := RX4) (by decide) rfl (Nat.le_of_ble_eq_true rfl) rfl ?_
  intro p e s m below meth c ls Q S hP hK hl hend
  obtain ⟨hx, hb, hml, hown, hts⟩ := id S
  have B7 : ∀ (n7 : Nat) (v1 : Int32) (v2 : Int32) (v3 : Int32) (ls : Array Slot), lv_has ls 5 [(0, .ref (a 0)), (1, .int v1), (2, .int v2), (3, .int v3)] → f_X4_slotOf_c7 n7 T v1 v2 v3 = some r → W p l e (pq_rm 2 0 0) s m ([.ref (a 0), .int p1] : List Value).toArray below meth c s.heap [] 0 0 Q (F0 m 7 ls []) := by
    intro n7
    induction n7 with
    | zero =>
      intro v1 v2 v3 ls hl hf
      exact absurd hf (by simp [f_X4_slotOf_c7])
    | succ n7 ih7 =>
      intro v1 v2 v3 ls hl hf
      rw [f_X4_slotOf_c7] at hf
      refine lv_iload_n hx hb dX4_slotOf_7 rfl (lv_at hl 3 rfl) ?_
      refine lv_bipush (v := 24) hx hb dX4_slotOf_8 (by decide) ?_
      refine lv_icmp_ge (tgt := 63) hx hb dX4_slotOf_10 (by decide) (fun h1 => ?_) (fun h1 => ?_)
      · replace hf := pq_ifp h1 hf
        refine lv_iconst (v := 0) hx hb dX4_slotOf_63 (by decide) ?_
        exact hend _ _ _ dX4_slotOf_64 rfl hf
      · replace hf := pq_ifn h1 hf
        refine lv_iload_n hx hb dX4_slotOf_13 rfl (lv_at hl 2 rfl) ?_
        refine lv_if_eq (tgt := 63) hx hb dX4_slotOf_14 (by decide) (fun h2 => ?_) (fun h2 => ?_)
        · replace hf := pq_ifp h2 hf
          refine lv_iconst (v := 0) hx hb dX4_slotOf_63 (by decide) ?_
          exact hend _ _ _ dX4_slotOf_64 rfl hf
        · replace hf := pq_ifn h2 hf
          refine lv_aload_n hx hb dX4_slotOf_17 rfl (lv_at hl 0 rfl) ?_
          refine pq_get S hK hP inX4 0 rfl rfl 0 (by decide) fl_X4_9 rfl (v := .ref (a 1)) rfl dX4_slotOf_18 ?_
          refine lv_iload_n hx hb dX4_slotOf_21 rfl (lv_at hl 2 rfl) ?_
          refine pq_at S vn_X4_38 hK hP 1 rfl (by decide) hl.1 (Nat.le_of_ble_eq_true rfl) dX4_slotOf_22 (by decide) ⟨Nat.le_refl _, Nat.le_refl _⟩ ?_
          refine lv_istore (lv' := [(4, .int (pq_rd 25 T.1 v2)), (0, .ref (a 0)), (1, .int v1), (2, .int v2), (3, .int v3)]) hx hb dX4_slotOf_25 hl (by decide) rfl (fun ls hl => ?_)
          refine lv_iload hx hb dX4_slotOf_27 (lv_at hl 0 rfl) ?_
          refine lv_iload_n hx hb dX4_slotOf_29 rfl (lv_at hl 2 rfl) ?_
          refine lv_icmp_ne (tgt := 35) hx hb dX4_slotOf_30 (by decide) (fun h3 => ?_) (fun h3 => ?_)
          · replace hf := pq_ifn h3 hf
            refine lv_iload_n hx hb dX4_slotOf_35 rfl (lv_at hl 2 rfl) ?_
            refine lv_iload hx hb dX4_slotOf_36 (lv_at hl 0 rfl) ?_
            refine lv_icmp_ge (tgt := 48) hx hb dX4_slotOf_38 (by decide) (fun h4 => ?_) (fun h4 => ?_)
            · replace hf := pq_ifp h4 hf
              refine lv_aload_n hx hb dX4_slotOf_48 rfl (lv_at hl 1 rfl) ?_
              refine pq_get S hK hP inX4 0 rfl rfl 4 (by decide) fl_X4_24 rfl (v := .ref (a 5)) rfl dX4_slotOf_49 ?_
              refine lv_iload_n hx hb dX4_slotOf_52 rfl (lv_at hl 3 rfl) ?_
              refine pq_at S vn_X4_38 hK hP 5 rfl (by decide) hl.1 (Nat.le_of_ble_eq_true rfl) dX4_slotOf_53 (by decide) ⟨Nat.le_refl _, Nat.le_refl _⟩ ?_
              refine lv_istore_n (lv' := [(2, .int (pq_rd 25 T.2.2.2.2.1 v2)), (4, .int (pq_rd 25 T.1 v2)), (0, .ref (a 0)), (1, .int v1), (3, .int v3)]) hx hb dX4_slotOf_56 rfl hl (by decide) rfl (fun ls hl => ?_)
              refine lv_iinc (v := (v3 + 1)) (lv' := [(3, .int (v3 + 1)), (2, .int (pq_rd 25 T.2.2.2.2.1 v2)), (4, .int (pq_rd 25 T.1 v2)), (0, .ref (a 0)), (1, .int v1)]) hx hb dX4_slotOf_57 hl (k := 4) rfl rfl (by decide) rfl (fun ls hl => ?_)
              refine lv_goto (tgt := 7) hx hb dX4_slotOf_60 (by decide) ?_
              exact ih7 v1 (pq_rd 25 T.2.2.2.2.1 v2) (v3 + 1) ls (lv_sub hl [3, 4, 1, 0] rfl) hf
            · replace hf := pq_ifn h4 hf
              refine lv_aload_n hx hb dX4_slotOf_41 rfl (lv_at hl 1 rfl) ?_
              refine pq_get S hK hP inX4 0 rfl rfl 3 (by decide) fl_X4_21 rfl (v := .ref (a 4)) rfl dX4_slotOf_42 ?_
              refine lv_goto (tgt := 52) hx hb dX4_slotOf_45 (by decide) ?_
              refine lv_iload_n hx hb dX4_slotOf_52 rfl (lv_at hl 3 rfl) ?_
              refine pq_at S vn_X4_38 hK hP 4 rfl (by decide) hl.1 (Nat.le_of_ble_eq_true rfl) dX4_slotOf_53 (by decide) ⟨Nat.le_refl _, Nat.le_refl _⟩ ?_
              refine lv_istore_n (lv' := [(2, .int (pq_rd 25 T.2.2.2.1 v2)), (4, .int (pq_rd 25 T.1 v2)), (0, .ref (a 0)), (1, .int v1), (3, .int v3)]) hx hb dX4_slotOf_56 rfl hl (by decide) rfl (fun ls hl => ?_)
              refine lv_iinc (v := (v3 + 1)) (lv' := [(3, .int (v3 + 1)), (2, .int (pq_rd 25 T.2.2.2.1 v2)), (4, .int (pq_rd 25 T.1 v2)), (0, .ref (a 0)), (1, .int v1)]) hx hb dX4_slotOf_57 hl (k := 4) rfl rfl (by decide) rfl (fun ls hl => ?_)
              refine lv_goto (tgt := 7) hx hb dX4_slotOf_60 (by decide) ?_
              exact ih7 v1 (pq_rd 25 T.2.2.2.1 v2) (v3 + 1) ls (lv_sub hl [3, 4, 1, 0] rfl) hf
          · replace hf := pq_ifp h3 hf
            refine lv_iload_n hx hb dX4_slotOf_33 rfl (lv_at hl 3 rfl) ?_
            exact hend _ _ _ dX4_slotOf_34 rfl hf
  refine lv_aload_n hx hb dX4_slotOf_0 rfl (lv_at hl 0 rfl) ?_
  refine pq_get S hK hP inX4 0 rfl rfl 6 (by decide) fl_X4_30 rfl (v := .int T.2.2.2.2.2.2) rfl dX4_slotOf_1 ?_
  refine lv_istore_n (lv' := [(2, .int T.2.2.2.2.2.2), (0, .ref (a 0)), (1, .int p1)]) hx hb dX4_slotOf_4 rfl hl (by decide) rfl (fun ls hl => ?_)
  refine lv_iconst (v := 0) hx hb dX4_slotOf_5 (by decide) ?_
  refine lv_istore_n (lv' := [(3, .int 0), (2, .int T.2.2.2.2.2.2), (0, .ref (a 0)), (1, .int p1)]) hx hb dX4_slotOf_6 rfl hl (by decide) rfl (fun ls hl => ?_)
  exact B7 200 p1 T.2.2.2.2.2.2 0 ls (lv_sub hl [2, 3, 1, 0] rfl) hf
def f_X4_floorSlot_c10 : Nat → TreeS → Int32 → Int32 → Int32 → Int32 → Option (Int32)
  | 0, _, _, _, _, _ => none
  | n + 1, T, v1, v2, v3, v4 =>
    if 24 ≤ v4 then
      some v2
    else
      if v3 = 0 then
        some v2
      else
        if v1 < (pq_rd 25 T.1 v3) then
          f_X4_floorSlot_c10 n T v1 v2 (pq_rd 25 T.2.2.2.1 v3) (v4 + 1)
        else
          f_X4_floorSlot_c10 n T v1 v3 (pq_rd 25 T.2.2.2.2.1 v3) (v4 + 1)
def f_X4_floorSlot (T : TreeS) (p1 : Int32) : Option (Int32) :=
    f_X4_floorSlot_c10 200 T p1 0 T.2.2.2.2.2.2 0
set_option maxHeartbeats 4000000 in
set_option maxRecDepth 100000 in
theorem c_X4_floorSlot (l : Launch) (g : pq_g) (a : Nat → Nat) (T : TreeS) (p1 : Int32) (r : Int32) (hf : f_X4_floorSlot T p1 = some r) : pq_R l yX4_floorSlot cX4_floorSlot 5 .int 2 g (treeW g a T) [.ref (a 0), .int p1] r := by
  rw [f_X4_floorSlot] at hf
  refine pq_R.of (own := RX4) (by decide) rfl (Nat.le_of_ble_eq_true rfl) rfl ?_
  intro p e s m below meth c ls Q S hP hK hl hend
  obtain ⟨hx, hb, hml, hown, hts⟩ := id S
  have B10 : ∀ (n10 : Nat) (v1 : Int32) (v2 : Int32) (v3 : Int32) (v4 : Int32) (ls : Array Slot), lv_has ls 5 [(0, .ref (a 0)), (1, .int v1), (2, .int v2), (3, .int v3), (4, .int v4)] → f_X4_floorSlot_c10 n10 T v1 v2 v3 v4 = some r → W p l e (pq_rm 2 0 0) s m ([.ref (a 0), .int p1] : List Value).toArray below meth c s.heap [] 0 0 Q (F0 m 10 ls []) := by
    intro n10
    induction n10 with
    | zero =>
      intro v1 v2 v3 v4 ls hl hf
      exact absurd hf (by simp [f_X4_floorSlot_c10])
    | succ n10 ih10 =>
      intro v1 v2 v3 v4 ls hl hf
      rw [f_X4_floorSlot_c10] at hf
      refine lv_iload hx hb dX4_floorSlot_10 (lv_at hl 4 rfl) ?_
      refine lv_bipush (v := 24) hx hb dX4_floorSlot_12 (by decide) ?_
      refine lv_icmp_ge (tgt := 62) hx hb dX4_floorSlot_14 (by decide) (fun h1 => ?_) (fun h1 => ?_)
      · replace hf := pq_ifp h1 hf
        refine lv_iload_n hx hb dX4_floorSlot_62 rfl (lv_at hl 2 rfl) ?_
        exact hend _ _ _ dX4_floorSlot_63 rfl hf
      · replace hf := pq_ifn h1 hf
        refine lv_iload_n hx hb dX4_floorSlot_17 rfl (lv_at hl 3 rfl) ?_
        refine lv_if_eq (tgt := 62) hx hb dX4_floorSlot_18 (by decide) (fun h2 => ?_) (fun h2 => ?_)
        · replace hf := pq_ifp h2 hf
          refine lv_iload_n hx hb dX4_floorSlot_62 rfl (lv_at hl 2 rfl) ?_
          exact hend _ _ _ dX4_floorSlot_63 rfl hf
        · replace hf := pq_ifn h2 hf
          refine lv_aload_n hx hb dX4_floorSlot_21 rfl (lv_at hl 0 rfl) ?_
          refine pq_get S hK hP inX4 0 rfl rfl 0 (by decide) fl_X4_9 rfl (v := .ref (a 1)) rfl dX4_floorSlot_22 ?_
          refine lv_iload_n hx hb dX4_floorSlot_25 rfl (lv_at hl 3 rfl) ?_
          refine pq_at S vn_X4_38 hK hP 1 rfl (by decide) hl.1 (Nat.le_of_ble_eq_true rfl) dX4_floorSlot_26 (by decide) ⟨Nat.le_refl _, Nat.le_refl _⟩ ?_
          refine lv_iload_n hx hb dX4_floorSlot_29 rfl (lv_at hl 1 rfl) ?_
          refine lv_icmp_gt (tgt := 47) hx hb dX4_floorSlot_30 (by decide) (fun h3 => ?_) (fun h3 => ?_)
          · replace hf := pq_ifp h3 hf
            refine lv_aload_n hx hb dX4_floorSlot_47 rfl (lv_at hl 0 rfl) ?_
            refine pq_get S hK hP inX4 0 rfl rfl 3 (by decide) fl_X4_21 rfl (v := .ref (a 4)) rfl dX4_floorSlot_48 ?_
            refine lv_iload_n hx hb dX4_floorSlot_51 rfl (lv_at hl 3 rfl) ?_
            refine pq_at S vn_X4_38 hK hP 4 rfl (by decide) hl.1 (Nat.le_of_ble_eq_true rfl) dX4_floorSlot_52 (by decide) ⟨Nat.le_refl _, Nat.le_refl _⟩ ?_
            refine lv_istore_n (lv' := [(3, .int (pq_rd 25 T.2.2.2.1 v3)), (0, .ref (a 0)), (1, .int v1), (2, .int v2), (4, .int v4)]) hx hb dX4_floorSlot_55 rfl hl (by decide) rfl (fun ls hl => ?_)
            refine lv_iinc (v := (v4 + 1)) (lv' := [(4, .int (v4 + 1)), (3, .int (pq_rd 25 T.2.2.2.1 v3)), (0, .ref (a 0)), (1, .int v1), (2, .int v2)]) hx hb dX4_floorSlot_56 hl (k := 4) rfl rfl (by decide) rfl (fun ls hl => ?_)
            refine lv_goto (tgt := 10) hx hb dX4_floorSlot_59 (by decide) ?_
            exact ih10 v1 v2 (pq_rd 25 T.2.2.2.1 v3) (v4 + 1) ls (lv_sub hl [2, 3, 4, 1, 0] rfl) hf
          · replace hf := pq_ifn h3 hf
            refine lv_iload_n hx hb dX4_floorSlot_33 rfl (lv_at hl 3 rfl) ?_
            refine lv_istore_n (lv' := [(2, .int v3), (0, .ref (a 0)), (1, .int v1), (3, .int v3), (4, .int v4)]) hx hb dX4_floorSlot_34 rfl hl (by decide) rfl (fun ls hl => ?_)
            refine lv_aload_n hx hb dX4_floorSlot_35 rfl (lv_at hl 1 rfl) ?_
            refine pq_get S hK hP inX4 0 rfl rfl 4 (by decide) fl_X4_24 rfl (v := .ref (a 5)) rfl dX4_floorSlot_36 ?_
            refine lv_iload_n hx hb dX4_floorSlot_39 rfl (lv_at hl 3 rfl) ?_
            refine pq_at S vn_X4_38 hK hP 5 rfl (by decide) hl.1 (Nat.le_of_ble_eq_true rfl) dX4_floorSlot_40 (by decide) ⟨Nat.le_refl _, Nat.le_refl _⟩ ?_
            refine lv_istore_n (lv' := [(3, .int (pq_rd 25 T.2.2.2.2.1 v3)), (2, .int v3), (0, .ref (a 0)), (1, .int v1), (4, .int v4)]) hx hb dX4_floorSlot_43 rfl hl (by decide) rfl (fun ls hl => ?_)
            refine lv_goto (tgt := 56) hx hb dX4_floorSlot_44 (by decide) ?_
            refine lv_iinc (v := (v4 + 1)) (lv' := [(4, .int (v4 + 1)), (3, .int (pq_rd 25 T.2.2.2.2.1 v3)), (2, .int v3), (0, .ref (a 0)), (1, .int v1)]) hx hb dX4_floorSlot_56 hl (k := 4) rfl rfl (by decide) rfl (fun ls hl => ?_)
            refine lv_goto (tgt := 10) hx hb dX4_floorSlot_59 (by decide) ?_
            exact ih10 v1 v3 (pq_rd 25 T.2.2.2.2.1 v3) (v4 + 1) ls (lv_sub hl [3, 4, 2, 1, 0] rfl) hf
  refine lv_iconst (v := 0) hx hb dX4_floorSlot_0 (by decide) ?_
  refine lv_istore_n (lv' := [(2, .int 0), (0, .ref (a 0)), (1, .int p1)]) hx hb dX4_floorSlot_1 rfl hl (by decide) rfl (fun ls hl => ?_)
  refine lv_aload_n hx hb dX4_floorSlot_2 rfl (lv_at hl 1 rfl) ?_
  refine pq_get S hK hP inX4 0 rfl rfl 6 (by decide) fl_X4_30 rfl (v := .int T.2.2.2.2.2.2) rfl dX4_floorSlot_3 ?_
  refine lv_istore_n (lv' := [(3, .int T.2.2.2.2.2.2), (2, .int 0), (0, .ref (a 0)), (1, .int p1)]) hx hb dX4_floorSlot_6 rfl hl (by decide) rfl (fun ls hl => ?_)
  refine lv_iconst (v := 0) hx hb dX4_floorSlot_7 (by decide) ?_
  refine lv_istore (lv' := [(4, .int 0), (3, .int T.2.2.2.2.2.2), (2, .int 0), (0, .ref (a 0)), (1, .int p1)]) hx hb dX4_floorSlot_8 hl (by decide) rfl (fun ls hl => ?_)
  exact B10 200 p1 0 T.2.2.2.2.2.2 0 ls (lv_sub hl [3, 4, 2, 1, 0] rfl) hf
def f_X4_ceilingSlot_c10 : Nat → TreeS → Int32 → Int32 → Int32 → Int32 → Option (Int32)
  | 0, _, _, _, _, _ => none
  | n + 1, T, v1, v2, v3, v4 =>
    if 24 ≤ v4 then
      some v2
    else
      if v3 = 0 then
        some v2
      else
        if (pq_rd 25 T.1 v3) < v1 then
          f_X4_ceilingSlot_c10 n T v1 v2 (pq_rd 25 T.2.2.2.2.1 v3) (v4 + 1)
        else
          f_X4_ceilingSlot_c10 n T v1 v3 (pq_rd 25 T.2.2.2.1 v3) (v4 + 1)
def f_X4_ceilingSlot (T : TreeS) (p1 : Int32) : Option (Int32) :=
    f_X4_ceilingSlot_c10 200 T p1 0 T.2.2.2.2.2.2 0
set_option maxHeartbeats 4000000 in
set_option maxRecDepth 100000 in
theorem c_X4_ceilingSlot (l : Launch) (g : pq_g) (a : Nat → Nat) (T : TreeS) (p1 : Int32) (r : Int32) (hf : f_X4_ceilingSlot T p1 = some r) : pq_R l yX4_ceilingSlot cX4_ceilingSlot 5 .int 2 g (treeW g a T) [.ref (a 0), .int p1] r := by
  rw [f_X4_ceilingSlot] at hf
  refine pq_R.of (own := RX4) (by decide) rfl (Nat.le_of_ble_eq_true rfl) rfl ?_
  intro p e s m below meth c ls Q S hP hK hl hend
  obtain ⟨hx, hb, hml, hown, hts⟩ := id S
  have B10 : ∀ (n10 : Nat) (v1 : Int32) (v2 : Int32) (v3 : Int32) (v4 : Int32) (ls : Array Slot), lv_has ls 5 [(0, .ref (a 0)), (1, .int v1), (2, .int v2), (3, .int v3), (4, .int v4)] → f_X4_ceilingSlot_c10 n10 T v1 v2 v3 v4 = some r → W p l e (pq_rm 2 0 0) s m ([.ref (a 0), .int p1] : List Value).toArray below meth c s.heap [] 0 0 Q (F0 m 10 ls []) := by
    intro n10
    induction n10 with
    | zero =>
      intro v1 v2 v3 v4 ls hl hf
      exact absurd hf (by simp [f_X4_ceilingSlot_c10])
    | succ n10 ih10 =>
      intro v1 v2 v3 v4 ls hl hf
      rw [f_X4_ceilingSlot_c10] at hf
      refine lv_iload hx hb dX4_ceilingSlot_10 (lv_at hl 4 rfl) ?_
      refine lv_bipush (v := 24) hx hb dX4_ceilingSlot_12 (by decide) ?_
      refine lv_icmp_ge (tgt := 62) hx hb dX4_ceilingSlot_14 (by decide) (fun h1 => ?_) (fun h1 => ?_)
      · replace hf := pq_ifp h1 hf
        refine lv_iload_n hx hb dX4_ceilingSlot_62 rfl (lv_at hl 2 rfl) ?_
        exact hend _ _ _ dX4_ceilingSlot_63 rfl hf
      · replace hf := pq_ifn h1 hf
        refine lv_iload_n hx hb dX4_ceilingSlot_17 rfl (lv_at hl 3 rfl) ?_
        refine lv_if_eq (tgt := 62) hx hb dX4_ceilingSlot_18 (by decide) (fun h2 => ?_) (fun h2 => ?_)
        · replace hf := pq_ifp h2 hf
          refine lv_iload_n hx hb dX4_ceilingSlot_62 rfl (lv_at hl 2 rfl) ?_
          exact hend _ _ _ dX4_ceilingSlot_63 rfl hf
        · replace hf := pq_ifn h2 hf
          refine lv_aload_n hx hb dX4_ceilingSlot_21 rfl (lv_at hl 0 rfl) ?_
          refine pq_get S hK hP inX4 0 rfl rfl 0 (by decide) fl_X4_9 rfl (v := .ref (a 1)) rfl dX4_ceilingSlot_22 ?_
          refine lv_iload_n hx hb dX4_ceilingSlot_25 rfl (lv_at hl 3 rfl) ?_
          refine pq_at S vn_X4_38 hK hP 1 rfl (by decide) hl.1 (Nat.le_of_ble_eq_true rfl) dX4_ceilingSlot_26 (by decide) ⟨Nat.le_refl _, Nat.le_refl _⟩ ?_
          refine lv_iload_n hx hb dX4_ceilingSlot_29 rfl (lv_at hl 1 rfl) ?_
          refine lv_icmp_lt (tgt := 47) hx hb dX4_ceilingSlot_30 (by decide) (fun h3 => ?_) (fun h3 => ?_)
          · replace hf := pq_ifp h3 hf
            refine lv_aload_n hx hb dX4_ceilingSlot_47 rfl (lv_at hl 0 rfl) ?_
            refine pq_get S hK hP inX4 0 rfl rfl 4 (by decide) fl_X4_24 rfl (v := .ref (a 5)) rfl dX4_ceilingSlot_48 ?_
            refine lv_iload_n hx hb dX4_ceilingSlot_51 rfl (lv_at hl 3 rfl) ?_
            refine pq_at S vn_X4_38 hK hP 5 rfl (by decide) hl.1 (Nat.le_of_ble_eq_true rfl) dX4_ceilingSlot_52 (by decide) ⟨Nat.le_refl _, Nat.le_refl _⟩ ?_
            refine lv_istore_n (lv' := [(3, .int (pq_rd 25 T.2.2.2.2.1 v3)), (0, .ref (a 0)), (1, .int v1), (2, .int v2), (4, .int v4)]) hx hb dX4_ceilingSlot_55 rfl hl (by decide) rfl (fun ls hl => ?_)
            refine lv_iinc (v := (v4 + 1)) (lv' := [(4, .int (v4 + 1)), (3, .int (pq_rd 25 T.2.2.2.2.1 v3)), (0, .ref (a 0)), (1, .int v1), (2, .int v2)]) hx hb dX4_ceilingSlot_56 hl (k := 4) rfl rfl (by decide) rfl (fun ls hl => ?_)
            refine lv_goto (tgt := 10) hx hb dX4_ceilingSlot_59 (by decide) ?_
            exact ih10 v1 v2 (pq_rd 25 T.2.2.2.2.1 v3) (v4 + 1) ls (lv_sub hl [2, 3, 4, 1, 0] rfl) hf
          · replace hf := pq_ifn h3 hf
            refine lv_iload_n hx hb dX4_ceilingSlot_33 rfl (lv_at hl 3 rfl) ?_
            refine lv_istore_n (lv' := [(2, .int v3), (0, .ref (a 0)), (1, .int v1), (3, .int v3), (4, .int v4)]) hx hb dX4_ceilingSlot_34 rfl hl (by decide) rfl (fun ls hl => ?_)
            refine lv_aload_n hx hb dX4_ceilingSlot_35 rfl (lv_at hl 1 rfl) ?_
            refine pq_get S hK hP inX4 0 rfl rfl 3 (by decide) fl_X4_21 rfl (v := .ref (a 4)) rfl dX4_ceilingSlot_36 ?_
            refine lv_iload_n hx hb dX4_ceilingSlot_39 rfl (lv_at hl 3 rfl) ?_
            refine pq_at S vn_X4_38 hK hP 4 rfl (by decide) hl.1 (Nat.le_of_ble_eq_true rfl) dX4_ceilingSlot_40 (by decide) ⟨Nat.le_refl _, Nat.le_refl _⟩ ?_
            refine lv_istore_n (lv' := [(3, .int (pq_rd 25 T.2.2.2.1 v3)), (2, .int v3), (0, .ref (a 0)), (1, .int v1), (4, .int v4)]) hx hb dX4_ceilingSlot_43 rfl hl (by decide) rfl (fun ls hl => ?_)
            refine lv_goto (tgt := 56) hx hb dX4_ceilingSlot_44 (by decide) ?_
            refine lv_iinc (v := (v4 + 1)) (lv' := [(4, .int (v4 + 1)), (3, .int (pq_rd 25 T.2.2.2.1 v3)), (2, .int v3), (0, .ref (a 0)), (1, .int v1)]) hx hb dX4_ceilingSlot_56 hl (k := 4) rfl rfl (by decide) rfl (fun ls hl => ?_)
            refine lv_goto (tgt := 10) hx hb dX4_ceilingSlot_59 (by decide) ?_
            exact ih10 v1 v3 (pq_rd 25 T.2.2.2.1 v3) (v4 + 1) ls (lv_sub hl [3, 4, 2, 1, 0] rfl) hf
  refine lv_iconst (v := 0) hx hb dX4_ceilingSlot_0 (by decide) ?_
  refine lv_istore_n (lv' := [(2, .int 0), (0, .ref (a 0)), (1, .int p1)]) hx hb dX4_ceilingSlot_1 rfl hl (by decide) rfl (fun ls hl => ?_)
  refine lv_aload_n hx hb dX4_ceilingSlot_2 rfl (lv_at hl 1 rfl) ?_
  refine pq_get S hK hP inX4 0 rfl rfl 6 (by decide) fl_X4_30 rfl (v := .int T.2.2.2.2.2.2) rfl dX4_ceilingSlot_3 ?_
  refine lv_istore_n (lv' := [(3, .int T.2.2.2.2.2.2), (2, .int 0), (0, .ref (a 0)), (1, .int p1)]) hx hb dX4_ceilingSlot_6 rfl hl (by decide) rfl (fun ls hl => ?_)
  refine lv_iconst (v := 0) hx hb dX4_ceilingSlot_7 (by decide) ?_
  refine lv_istore (lv' := [(4, .int 0), (3, .int T.2.2.2.2.2.2), (2, .int 0), (0, .ref (a 0)), (1, .int p1)]) hx hb dX4_ceilingSlot_8 hl (by decide) rfl (fun ls hl => ?_)
  exact B10 200 p1 0 T.2.2.2.2.2.2 0 ls (lv_sub hl [3, 4, 2, 1, 0] rfl) hf
def f_X4_countBelow_c10 : Nat → TreeS → Int32 → Int32 → Int32 → Int32 → Option (Int32)
  | 0, _, _, _, _, _ => none
  | n + 1, T, v1, v2, v3, v4 =>
    if 24 ≤ v4 then
      some v2
    else
      if v3 = 0 then
        some v2
      else
        if v1 ≤ (pq_rd 25 T.1 v3) then
          f_X4_countBelow_c10 n T v1 v2 (pq_rd 25 T.2.2.2.1 v3) (v4 + 1)
        else
          f_X4_countBelow_c10 n T v1 (v2 + (1 + (pq_rd 25 T.2.2.2.2.2.1 (pq_rd 25 T.2.2.2.1 v3)))) (pq_rd 25 T.2.2.2.2.1 v3) (v4 + 1)
def f_X4_countBelow (T : TreeS) (p1 : Int32) : Option (Int32) :=
    f_X4_countBelow_c10 200 T p1 0 T.2.2.2.2.2.2 0
set_option maxHeartbeats 4000000 in
set_option maxRecDepth 100000 in
theorem c_X4_countBelow (l : Launch) (g : pq_g) (a : Nat → Nat) (T : TreeS) (p1 : Int32) (r : Int32) (hf : f_X4_countBelow T p1 = some r) : pq_R l yX4_countBelow cX4_countBelow 5 .int 2 g (treeW g a T) [.ref (a 0), .int p1] r := by
  rw [f_X4_countBelow] at hf
  refine pq_R.of (own := RX4) (by decide) rfl (Nat.le_of_ble_eq_true rfl) rfl ?_
  intro p e s m below meth c ls Q S hP hK hl hend
  obtain ⟨hx, hb, hml, hown, hts⟩ := id S
  have B10 : ∀ (n10 : Nat) (v1 : Int32) (v2 : Int32) (v3 : Int32) (v4 : Int32) (ls : Array Slot), lv_has ls 5 [(0, .ref (a 0)), (1, .int v1), (2, .int v2), (3, .int v3), (4, .int v4)] → f_X4_countBelow_c10 n10 T v1 v2 v3 v4 = some r → W p l e (pq_rm 2 0 0) s m ([.ref (a 0), .int p1] : List Value).toArray below meth c s.heap [] 0 0 Q (F0 m 10 ls []) := by
    intro n10
    induction n10 with
    | zero =>
      intro v1 v2 v3 v4 ls hl hf
      exact absurd hf (by simp [f_X4_countBelow_c10])
    | succ n10 ih10 =>
      intro v1 v2 v3 v4 ls hl hf
      rw [f_X4_countBelow_c10] at hf
      refine lv_iload hx hb dX4_countBelow_10 (lv_at hl 4 rfl) ?_
      refine lv_bipush (v := 24) hx hb dX4_countBelow_12 (by decide) ?_
      refine lv_icmp_ge (tgt := 80) hx hb dX4_countBelow_14 (by decide) (fun h1 => ?_) (fun h1 => ?_)
      · replace hf := pq_ifp h1 hf
        refine lv_iload_n hx hb dX4_countBelow_80 rfl (lv_at hl 2 rfl) ?_
        exact hend _ _ _ dX4_countBelow_81 rfl hf
      · replace hf := pq_ifn h1 hf
        refine lv_iload_n hx hb dX4_countBelow_17 rfl (lv_at hl 3 rfl) ?_
        refine lv_if_eq (tgt := 80) hx hb dX4_countBelow_18 (by decide) (fun h2 => ?_) (fun h2 => ?_)
        · replace hf := pq_ifp h2 hf
          refine lv_iload_n hx hb dX4_countBelow_80 rfl (lv_at hl 2 rfl) ?_
          exact hend _ _ _ dX4_countBelow_81 rfl hf
        · replace hf := pq_ifn h2 hf
          refine lv_aload_n hx hb dX4_countBelow_21 rfl (lv_at hl 0 rfl) ?_
          refine pq_get S hK hP inX4 0 rfl rfl 0 (by decide) fl_X4_9 rfl (v := .ref (a 1)) rfl dX4_countBelow_22 ?_
          refine lv_iload_n hx hb dX4_countBelow_25 rfl (lv_at hl 3 rfl) ?_
          refine pq_at S vn_X4_38 hK hP 1 rfl (by decide) hl.1 (Nat.le_of_ble_eq_true rfl) dX4_countBelow_26 (by decide) ⟨Nat.le_refl _, Nat.le_refl _⟩ ?_
          refine lv_iload_n hx hb dX4_countBelow_29 rfl (lv_at hl 1 rfl) ?_
          refine lv_icmp_ge (tgt := 65) hx hb dX4_countBelow_30 (by decide) (fun h3 => ?_) (fun h3 => ?_)
          · replace hf := pq_ifp h3 hf
            refine lv_aload_n hx hb dX4_countBelow_65 rfl (lv_at hl 0 rfl) ?_
            refine pq_get S hK hP inX4 0 rfl rfl 3 (by decide) fl_X4_21 rfl (v := .ref (a 4)) rfl dX4_countBelow_66 ?_
            refine lv_iload_n hx hb dX4_countBelow_69 rfl (lv_at hl 3 rfl) ?_
            refine pq_at S vn_X4_38 hK hP 4 rfl (by decide) hl.1 (Nat.le_of_ble_eq_true rfl) dX4_countBelow_70 (by decide) ⟨Nat.le_refl _, Nat.le_refl _⟩ ?_
            refine lv_istore_n (lv' := [(3, .int (pq_rd 25 T.2.2.2.1 v3)), (0, .ref (a 0)), (1, .int v1), (2, .int v2), (4, .int v4)]) hx hb dX4_countBelow_73 rfl hl (by decide) rfl (fun ls hl => ?_)
            refine lv_iinc (v := (v4 + 1)) (lv' := [(4, .int (v4 + 1)), (3, .int (pq_rd 25 T.2.2.2.1 v3)), (0, .ref (a 0)), (1, .int v1), (2, .int v2)]) hx hb dX4_countBelow_74 hl (k := 4) rfl rfl (by decide) rfl (fun ls hl => ?_)
            refine lv_goto (tgt := 10) hx hb dX4_countBelow_77 (by decide) ?_
            exact ih10 v1 v2 (pq_rd 25 T.2.2.2.1 v3) (v4 + 1) ls (lv_sub hl [2, 3, 4, 1, 0] rfl) hf
          · replace hf := pq_ifn h3 hf
            refine lv_iload_n hx hb dX4_countBelow_33 rfl (lv_at hl 2 rfl) ?_
            refine lv_iconst (v := 1) hx hb dX4_countBelow_34 (by decide) ?_
            refine lv_aload_n hx hb dX4_countBelow_35 rfl (lv_at hl 0 rfl) ?_
            refine pq_get S hK hP inX4 0 rfl rfl 5 (by decide) fl_X4_27 rfl (v := .ref (a 6)) rfl dX4_countBelow_36 ?_
            refine lv_aload_n hx hb dX4_countBelow_39 rfl (lv_at hl 0 rfl) ?_
            refine pq_get S hK hP inX4 0 rfl rfl 3 (by decide) fl_X4_21 rfl (v := .ref (a 4)) rfl dX4_countBelow_40 ?_
            refine lv_iload_n hx hb dX4_countBelow_43 rfl (lv_at hl 3 rfl) ?_
            refine pq_at S vn_X4_38 hK hP 4 rfl (by decide) hl.1 (Nat.le_of_ble_eq_true rfl) dX4_countBelow_44 (by decide) ⟨Nat.le_refl _, Nat.le_refl _⟩ ?_
            refine pq_at S vn_X4_38 hK hP 6 rfl (by decide) hl.1 (Nat.le_of_ble_eq_true rfl) dX4_countBelow_47 (by decide) ⟨Nat.le_refl _, Nat.le_refl _⟩ ?_
            refine lv_iadd hx hb dX4_countBelow_50 ?_
            refine lv_iadd hx hb dX4_countBelow_51 ?_
            refine lv_istore_n (lv' := [(2, .int (v2 + (1 + (pq_rd 25 T.2.2.2.2.2.1 (pq_rd 25 T.2.2.2.1 v3))))), (0, .ref (a 0)), (1, .int v1), (3, .int v3), (4, .int v4)]) hx hb dX4_countBelow_52 rfl hl (by decide) rfl (fun ls hl => ?_)
            refine lv_aload_n hx hb dX4_countBelow_53 rfl (lv_at hl 1 rfl) ?_
            refine pq_get S hK hP inX4 0 rfl rfl 4 (by decide) fl_X4_24 rfl (v := .ref (a 5)) rfl dX4_countBelow_54 ?_
            refine lv_iload_n hx hb dX4_countBelow_57 rfl (lv_at hl 3 rfl) ?_
            refine pq_at S vn_X4_38 hK hP 5 rfl (by decide) hl.1 (Nat.le_of_ble_eq_true rfl) dX4_countBelow_58 (by decide) ⟨Nat.le_refl _, Nat.le_refl _⟩ ?_
            refine lv_istore_n (lv' := [(3, .int (pq_rd 25 T.2.2.2.2.1 v3)), (2, .int (v2 + (1 + (pq_rd 25 T.2.2.2.2.2.1 (pq_rd 25 T.2.2.2.1 v3))))), (0, .ref (a 0)), (1, .int v1), (4, .int v4)]) hx hb dX4_countBelow_61 rfl hl (by decide) rfl (fun ls hl => ?_)
            refine lv_goto (tgt := 74) hx hb dX4_countBelow_62 (by decide) ?_
            refine lv_iinc (v := (v4 + 1)) (lv' := [(4, .int (v4 + 1)), (3, .int (pq_rd 25 T.2.2.2.2.1 v3)), (2, .int (v2 + (1 + (pq_rd 25 T.2.2.2.2.2.1 (pq_rd 25 T.2.2.2.1 v3))))), (0, .ref (a 0)), (1, .int v1)]) hx hb dX4_countBelow_74 hl (k := 4) rfl rfl (by decide) rfl (fun ls hl => ?_)
            refine lv_goto (tgt := 10) hx hb dX4_countBelow_77 (by decide) ?_
            exact ih10 v1 (v2 + (1 + (pq_rd 25 T.2.2.2.2.2.1 (pq_rd 25 T.2.2.2.1 v3)))) (pq_rd 25 T.2.2.2.2.1 v3) (v4 + 1) ls (lv_sub hl [3, 4, 2, 1, 0] rfl) hf
  refine lv_iconst (v := 0) hx hb dX4_countBelow_0 (by decide) ?_
  refine lv_istore_n (lv' := [(2, .int 0), (0, .ref (a 0)), (1, .int p1)]) hx hb dX4_countBelow_1 rfl hl (by decide) rfl (fun ls hl => ?_)
  refine lv_aload_n hx hb dX4_countBelow_2 rfl (lv_at hl 1 rfl) ?_
  refine pq_get S hK hP inX4 0 rfl rfl 6 (by decide) fl_X4_30 rfl (v := .int T.2.2.2.2.2.2) rfl dX4_countBelow_3 ?_
  refine lv_istore_n (lv' := [(3, .int T.2.2.2.2.2.2), (2, .int 0), (0, .ref (a 0)), (1, .int p1)]) hx hb dX4_countBelow_6 rfl hl (by decide) rfl (fun ls hl => ?_)
  refine lv_iconst (v := 0) hx hb dX4_countBelow_7 (by decide) ?_
  refine lv_istore (lv' := [(4, .int 0), (3, .int T.2.2.2.2.2.2), (2, .int 0), (0, .ref (a 0)), (1, .int p1)]) hx hb dX4_countBelow_8 hl (by decide) rfl (fun ls hl => ?_)
  exact B10 200 p1 0 T.2.2.2.2.2.2 0 ls (lv_sub hl [3, 4, 2, 1, 0] rfl) hf
def f_X4_countBetween (T : TreeS) (p1 : Int32) (p2 : Int32) : Option (Int32) :=
    (f_X4_countBelow T (p2 + 1)).bind fun q2 =>
    (f_X4_countBelow T p1).bind fun q4 =>
    some (q2 - q4)
set_option maxHeartbeats 4000000 in
set_option maxRecDepth 100000 in
theorem c_X4_countBetween (l : Launch) (g : pq_g) (a : Nat → Nat) (T : TreeS) (p1 : Int32) (p2 : Int32) (r : Int32) (hf : f_X4_countBetween T p1 p2 = some r) : pq_R l yX4_countBetween cX4_countBetween 3 .int 3 g (treeW g a T) [.ref (a 0), .int p1, .int p2] r := by
  rw [f_X4_countBetween] at hf
  refine pq_R.of (own := RX4) (by decide) rfl (Nat.le_of_ble_eq_true rfl) rfl ?_
  intro p e s m below meth c ls Q S hP hK hl hend
  obtain ⟨hx, hb, hml, hown, hts⟩ := id S
  refine lv_aload_n hx hb dX4_countBetween_0 rfl (lv_at hl 0 rfl) ?_
  refine lv_iload_n hx hb dX4_countBetween_1 rfl (lv_at hl 2 rfl) ?_
  refine lv_iconst (v := 1) hx hb dX4_countBetween_2 (by decide) ?_
  refine lv_iadd hx hb dX4_countBetween_3 ?_
  obtain ⟨q2, e1, hf⟩ := pq_bind hf
  refine pq_cV S (c_X4_countBelow l g a T (p2 + 1) q2 e1) vv_X4_83 hK hP rfl rfl rfl rfl rfl hl.1 (Nat.le_of_ble_eq_true rfl) dX4_countBetween_4 (by decide) (by decide) ⟨Nat.le_refl _, Nat.le_refl _⟩ ?_
  refine lv_aload_n hx hb dX4_countBetween_7 rfl (lv_at hl 0 rfl) ?_
  refine lv_iload_n hx hb dX4_countBetween_8 rfl (lv_at hl 1 rfl) ?_
  obtain ⟨q4, e3, hf⟩ := pq_bind hf
  refine pq_cV S (c_X4_countBelow l g a T p1 q4 e3) vv_X4_83 hK hP rfl rfl rfl rfl rfl hl.1 (Nat.le_of_ble_eq_true rfl) dX4_countBetween_9 (by decide) (by decide) ⟨Nat.le_refl _, Nat.le_refl _⟩ ?_
  refine lv_isub hx hb dX4_countBetween_12 ?_
  exact hend _ _ _ dX4_countBetween_13 rfl hf
def f_X4_slotAtPosition_c16 : Nat → TreeS → Int32 → Int32 → Int32 → Option (Int32)
  | 0, _, _, _, _ => none
  | n + 1, T, v2, v3, v4 =>
    if 24 ≤ v4 then
      some 0
    else
      if v3 = 0 then
        some 0
      else
        if v2 = (pq_rd 25 T.2.2.2.2.2.1 (pq_rd 25 T.2.2.2.1 v3)) then
          some v3
        else
          if (pq_rd 25 T.2.2.2.2.2.1 (pq_rd 25 T.2.2.2.1 v3)) ≤ v2 then
            f_X4_slotAtPosition_c16 n T (v2 - ((pq_rd 25 T.2.2.2.2.2.1 (pq_rd 25 T.2.2.2.1 v3)) + 1)) (pq_rd 25 T.2.2.2.2.1 v3) (v4 + 1)
          else
            f_X4_slotAtPosition_c16 n T v2 (pq_rd 25 T.2.2.2.1 v3) (v4 + 1)
def f_X4_slotAtPosition (T : TreeS) (p1 : Int32) : Option (Int32) :=
    if 0 ≤ p1 then
      f_X4_slotAtPosition_c16 200 T p1 T.2.2.2.2.2.2 0
    else
      some 0
set_option maxHeartbeats 4000000 in
set_option maxRecDepth 100000 in
theorem c_X4_slotAtPosition (l : Launch) (g : pq_g) (a : Nat → Nat) (T : TreeS) (p1 : Int32) (r : Int32) (hf : f_X4_slotAtPosition T p1 = some r) : pq_R l yX4_slotAtPosition cX4_slotAtPosition 6 .int 2 g (treeW g a T) [.ref (a 0), .int p1] r := by
  rw [f_X4_slotAtPosition] at hf
  refine pq_R.of (own := RX4) (by decide) rfl (Nat.le_of_ble_eq_true rfl) rfl ?_
  intro p e s m below meth c ls Q S hP hK hl hend
  obtain ⟨hx, hb, hml, hown, hts⟩ := id S
  have B16 : ∀ (n16 : Nat) (v2 : Int32) (v3 : Int32) (v4 : Int32) (ls : Array Slot), lv_has ls 6 [(0, .ref (a 0)), (2, .int v2), (3, .int v3), (4, .int v4)] → f_X4_slotAtPosition_c16 n16 T v2 v3 v4 = some r → W p l e (pq_rm 2 0 0) s m ([.ref (a 0), .int p1] : List Value).toArray below meth c s.heap [] 0 0 Q (F0 m 16 ls []) := by
    intro n16
    induction n16 with
    | zero =>
      intro v2 v3 v4 ls hl hf
      exact absurd hf (by simp [f_X4_slotAtPosition_c16])
    | succ n16 ih16 =>
      intro v2 v3 v4 ls hl hf
      rw [f_X4_slotAtPosition_c16] at hf
      refine lv_iload hx hb dX4_slotAtPosition_16 (lv_at hl 3 rfl) ?_
      refine lv_bipush (v := 24) hx hb dX4_slotAtPosition_18 (by decide) ?_
      refine lv_icmp_ge (tgt := 92) hx hb dX4_slotAtPosition_20 (by decide) (fun h1 => ?_) (fun h1 => ?_)
      · replace hf := pq_ifp h1 hf
        refine lv_iconst (v := 0) hx hb dX4_slotAtPosition_92 (by decide) ?_
        exact hend _ _ _ dX4_slotAtPosition_93 rfl hf
      · replace hf := pq_ifn h1 hf
        refine lv_iload_n hx hb dX4_slotAtPosition_23 rfl (lv_at hl 2 rfl) ?_
        refine lv_if_eq (tgt := 92) hx hb dX4_slotAtPosition_24 (by decide) (fun h2 => ?_) (fun h2 => ?_)
        · replace hf := pq_ifp h2 hf
          refine lv_iconst (v := 0) hx hb dX4_slotAtPosition_92 (by decide) ?_
          exact hend _ _ _ dX4_slotAtPosition_93 rfl hf
        · replace hf := pq_ifn h2 hf
          refine lv_aload_n hx hb dX4_slotAtPosition_27 rfl (lv_at hl 0 rfl) ?_
          refine pq_get S hK hP inX4 0 rfl rfl 5 (by decide) fl_X4_27 rfl (v := .ref (a 6)) rfl dX4_slotAtPosition_28 ?_
          refine lv_aload_n hx hb dX4_slotAtPosition_31 rfl (lv_at hl 0 rfl) ?_
          refine pq_get S hK hP inX4 0 rfl rfl 3 (by decide) fl_X4_21 rfl (v := .ref (a 4)) rfl dX4_slotAtPosition_32 ?_
          refine lv_iload_n hx hb dX4_slotAtPosition_35 rfl (lv_at hl 2 rfl) ?_
          refine pq_at S vn_X4_38 hK hP 4 rfl (by decide) hl.1 (Nat.le_of_ble_eq_true rfl) dX4_slotAtPosition_36 (by decide) ⟨Nat.le_refl _, Nat.le_refl _⟩ ?_
          refine pq_at S vn_X4_38 hK hP 6 rfl (by decide) hl.1 (Nat.le_of_ble_eq_true rfl) dX4_slotAtPosition_39 (by decide) ⟨Nat.le_refl _, Nat.le_refl _⟩ ?_
          refine lv_istore (lv' := [(5, .int (pq_rd 25 T.2.2.2.2.2.1 (pq_rd 25 T.2.2.2.1 v3))), (0, .ref (a 0)), (2, .int v2), (3, .int v3), (4, .int v4)]) hx hb dX4_slotAtPosition_42 hl (by decide) rfl (fun ls hl => ?_)
          refine lv_iload_n hx hb dX4_slotAtPosition_44 rfl (lv_at hl 2 rfl) ?_
          refine lv_iload hx hb dX4_slotAtPosition_45 (lv_at hl 0 rfl) ?_
          refine lv_icmp_ne (tgt := 52) hx hb dX4_slotAtPosition_47 (by decide) (fun h3 => ?_) (fun h3 => ?_)
          · replace hf := pq_ifn h3 hf
            refine lv_iload_n hx hb dX4_slotAtPosition_52 rfl (lv_at hl 2 rfl) ?_
            refine lv_iload hx hb dX4_slotAtPosition_53 (lv_at hl 0 rfl) ?_
            refine lv_icmp_ge (tgt := 70) hx hb dX4_slotAtPosition_55 (by decide) (fun h4 => ?_) (fun h4 => ?_)
            · replace hf := pq_ifp h4 hf
              refine lv_iload_n hx hb dX4_slotAtPosition_70 rfl (lv_at hl 2 rfl) ?_
              refine lv_iload hx hb dX4_slotAtPosition_71 (lv_at hl 0 rfl) ?_
              refine lv_iconst (v := 1) hx hb dX4_slotAtPosition_73 (by decide) ?_
              refine lv_iadd hx hb dX4_slotAtPosition_74 ?_
              refine lv_isub hx hb dX4_slotAtPosition_75 ?_
              refine lv_istore_n (lv' := [(2, .int (v2 - ((pq_rd 25 T.2.2.2.2.2.1 (pq_rd 25 T.2.2.2.1 v3)) + 1))), (5, .int (pq_rd 25 T.2.2.2.2.2.1 (pq_rd 25 T.2.2.2.1 v3))), (0, .ref (a 0)), (3, .int v3), (4, .int v4)]) hx hb dX4_slotAtPosition_76 rfl hl (by decide) rfl (fun ls hl => ?_)
              refine lv_aload_n hx hb dX4_slotAtPosition_77 rfl (lv_at hl 2 rfl) ?_
              refine pq_get S hK hP inX4 0 rfl rfl 4 (by decide) fl_X4_24 rfl (v := .ref (a 5)) rfl dX4_slotAtPosition_78 ?_
              refine lv_iload_n hx hb dX4_slotAtPosition_81 rfl (lv_at hl 3 rfl) ?_
              refine pq_at S vn_X4_38 hK hP 5 rfl (by decide) hl.1 (Nat.le_of_ble_eq_true rfl) dX4_slotAtPosition_82 (by decide) ⟨Nat.le_refl _, Nat.le_refl _⟩ ?_
              refine lv_istore_n (lv' := [(3, .int (pq_rd 25 T.2.2.2.2.1 v3)), (2, .int (v2 - ((pq_rd 25 T.2.2.2.2.2.1 (pq_rd 25 T.2.2.2.1 v3)) + 1))), (5, .int (pq_rd 25 T.2.2.2.2.2.1 (pq_rd 25 T.2.2.2.1 v3))), (0, .ref (a 0)), (4, .int v4)]) hx hb dX4_slotAtPosition_85 rfl hl (by decide) rfl (fun ls hl => ?_)
              refine lv_iinc (v := (v4 + 1)) (lv' := [(4, .int (v4 + 1)), (3, .int (pq_rd 25 T.2.2.2.2.1 v3)), (2, .int (v2 - ((pq_rd 25 T.2.2.2.2.2.1 (pq_rd 25 T.2.2.2.1 v3)) + 1))), (5, .int (pq_rd 25 T.2.2.2.2.2.1 (pq_rd 25 T.2.2.2.1 v3))), (0, .ref (a 0))]) hx hb dX4_slotAtPosition_86 hl (k := 4) rfl rfl (by decide) rfl (fun ls hl => ?_)
              refine lv_goto (tgt := 16) hx hb dX4_slotAtPosition_89 (by decide) ?_
              exact ih16 (v2 - ((pq_rd 25 T.2.2.2.2.2.1 (pq_rd 25 T.2.2.2.1 v3)) + 1)) (pq_rd 25 T.2.2.2.2.1 v3) (v4 + 1) ls (lv_sub hl [4, 2, 1, 0] rfl) hf
            · replace hf := pq_ifn h4 hf
              refine lv_aload_n hx hb dX4_slotAtPosition_58 rfl (lv_at hl 1 rfl) ?_
              refine pq_get S hK hP inX4 0 rfl rfl 3 (by decide) fl_X4_21 rfl (v := .ref (a 4)) rfl dX4_slotAtPosition_59 ?_
              refine lv_iload_n hx hb dX4_slotAtPosition_62 rfl (lv_at hl 3 rfl) ?_
              refine pq_at S vn_X4_38 hK hP 4 rfl (by decide) hl.1 (Nat.le_of_ble_eq_true rfl) dX4_slotAtPosition_63 (by decide) ⟨Nat.le_refl _, Nat.le_refl _⟩ ?_
              refine lv_istore_n (lv' := [(3, .int (pq_rd 25 T.2.2.2.1 v3)), (5, .int (pq_rd 25 T.2.2.2.2.2.1 (pq_rd 25 T.2.2.2.1 v3))), (0, .ref (a 0)), (2, .int v2), (4, .int v4)]) hx hb dX4_slotAtPosition_66 rfl hl (by decide) rfl (fun ls hl => ?_)
              refine lv_goto (tgt := 86) hx hb dX4_slotAtPosition_67 (by decide) ?_
              refine lv_iinc (v := (v4 + 1)) (lv' := [(4, .int (v4 + 1)), (3, .int (pq_rd 25 T.2.2.2.1 v3)), (5, .int (pq_rd 25 T.2.2.2.2.2.1 (pq_rd 25 T.2.2.2.1 v3))), (0, .ref (a 0)), (2, .int v2)]) hx hb dX4_slotAtPosition_86 hl (k := 4) rfl rfl (by decide) rfl (fun ls hl => ?_)
              refine lv_goto (tgt := 16) hx hb dX4_slotAtPosition_89 (by decide) ?_
              exact ih16 v2 (pq_rd 25 T.2.2.2.1 v3) (v4 + 1) ls (lv_sub hl [3, 4, 1, 0] rfl) hf
          · replace hf := pq_ifp h3 hf
            refine lv_iload_n hx hb dX4_slotAtPosition_50 rfl (lv_at hl 3 rfl) ?_
            exact hend _ _ _ dX4_slotAtPosition_51 rfl hf
  refine lv_iload_n hx hb dX4_slotAtPosition_0 rfl (lv_at hl 1 rfl) ?_
  refine lv_if_ge (tgt := 6) hx hb dX4_slotAtPosition_1 (by decide) (fun h5 => ?_) (fun h5 => ?_)
  · replace hf := pq_ifp h5 hf
    refine lv_iload_n hx hb dX4_slotAtPosition_6 rfl (lv_at hl 1 rfl) ?_
    refine lv_istore_n (lv' := [(2, .int p1), (0, .ref (a 0)), (1, .int p1)]) hx hb dX4_slotAtPosition_7 rfl hl (by decide) rfl (fun ls hl => ?_)
    refine lv_aload_n hx hb dX4_slotAtPosition_8 rfl (lv_at hl 1 rfl) ?_
    refine pq_get S hK hP inX4 0 rfl rfl 6 (by decide) fl_X4_30 rfl (v := .int T.2.2.2.2.2.2) rfl dX4_slotAtPosition_9 ?_
    refine lv_istore_n (lv' := [(3, .int T.2.2.2.2.2.2), (2, .int p1), (0, .ref (a 0)), (1, .int p1)]) hx hb dX4_slotAtPosition_12 rfl hl (by decide) rfl (fun ls hl => ?_)
    refine lv_iconst (v := 0) hx hb dX4_slotAtPosition_13 (by decide) ?_
    refine lv_istore (lv' := [(4, .int 0), (3, .int T.2.2.2.2.2.2), (2, .int p1), (0, .ref (a 0)), (1, .int p1)]) hx hb dX4_slotAtPosition_14 hl (by decide) rfl (fun ls hl => ?_)
    exact B16 200 p1 T.2.2.2.2.2.2 0 ls (lv_sub hl [3, 2, 1, 0] rfl) hf
  · replace hf := pq_ifn h5 hf
    refine lv_iconst (v := 0) hx hb dX4_slotAtPosition_4 (by decide) ?_
    exact hend _ _ _ dX4_slotAtPosition_5 rfl hf
def f_X4_topSlot_c43 (k8 : TreeS → Int32 → Int32 → Int32 → Int32 → Option (Int32)) (T : TreeS) (v1 : Int32) (v2 : Int32) (v3 : Int32) (v4 : Int32) (v5 : Int32) : Option (Int32) :=
    if v1 ≤ v5 then
      k8 T v1 v2 (pq_rd 25 T.2.2.2.1 v3) (v4 + 1)
    else
      k8 T v1 v2 (pq_rd 25 T.2.2.2.2.1 v3) (v4 + 1)
def f_X4_topSlot_c8 : Nat → TreeS → Int32 → Int32 → Int32 → Int32 → Option (Int32)
  | 0, _, _, _, _, _ => none
  | n + 1, T, v1, v2, v3, v4 =>
    if 24 ≤ v4 then
      some 0
    else
      if v3 = 0 then
        some 0
      else
        if (pq_rd 25 T.1 v3) < v1 then
          f_X4_topSlot_c43 (f_X4_topSlot_c8 n) T v1 v2 v3 v4 (pq_rd 25 T.1 v3)
        else
          if v2 < (pq_rd 25 T.1 v3) then
            f_X4_topSlot_c43 (f_X4_topSlot_c8 n) T v1 v2 v3 v4 (pq_rd 25 T.1 v3)
          else
            some v3
def f_X4_topSlot (T : TreeS) (p1 : Int32) (p2 : Int32) : Option (Int32) :=
    f_X4_topSlot_c8 200 T p1 p2 T.2.2.2.2.2.2 0
set_option maxHeartbeats 4000000 in
set_option maxRecDepth 100000 in
theorem c_X4_topSlot (l : Launch) (g : pq_g) (a : Nat → Nat) (T : TreeS) (p1 : Int32) (p2 : Int32) (r : Int32) (hf : f_X4_topSlot T p1 p2 = some r) : pq_R l yX4_topSlot cX4_topSlot 6 .int 2 g (treeW g a T) [.ref (a 0), .int p1, .int p2] r := by
  rw [f_X4_topSlot] at hf
  refine pq_R.of (own := RX4) (by decide) rfl (Nat.le_of_ble_eq_true rfl) rfl ?_
  intro p e s m below meth c ls Q S hP hK hl hend
  obtain ⟨hx, hb, hml, hown, hts⟩ := id S
  have B8 : ∀ (n8 : Nat) (v1 : Int32) (v2 : Int32) (v3 : Int32) (v4 : Int32) (ls : Array Slot), lv_has ls 6 [(0, .ref (a 0)), (1, .int v1), (2, .int v2), (3, .int v3), (4, .int v4)] → f_X4_topSlot_c8 n8 T v1 v2 v3 v4 = some r → W p l e (pq_rm 2 0 0) s m ([.ref (a 0), .int p1, .int p2] : List Value).toArray below meth c s.heap [] 0 0 Q (F0 m 8 ls []) := by
    intro n8
    induction n8 with
    | zero =>
      intro v1 v2 v3 v4 ls hl hf
      exact absurd hf (by simp [f_X4_topSlot_c8])
    | succ n8 ih8 =>
      have B43 : ∀ (v1 : Int32) (v2 : Int32) (v3 : Int32) (v4 : Int32) (v5 : Int32) (ls : Array Slot), lv_has ls 6 [(0, .ref (a 0)), (1, .int v1), (2, .int v2), (3, .int v3), (4, .int v4), (5, .int v5)] → f_X4_topSlot_c43 (f_X4_topSlot_c8 n8) T v1 v2 v3 v4 v5 = some r → W p l e (pq_rm 2 0 0) s m ([.ref (a 0), .int p1, .int p2] : List Value).toArray below meth c s.heap [] 0 0 Q (F0 m 43 ls []) := by
        intro v1 v2 v3 v4 v5 ls hl hf
        rw [f_X4_topSlot_c43] at hf
        refine lv_iload hx hb dX4_topSlot_43 (lv_at hl 5 rfl) ?_
        refine lv_iload_n hx hb dX4_topSlot_45 rfl (lv_at hl 1 rfl) ?_
        refine lv_icmp_ge (tgt := 56) hx hb dX4_topSlot_46 (by decide) (fun h1 => ?_) (fun h1 => ?_)
        · replace hf := pq_ifp h1 hf
          refine lv_aload_n hx hb dX4_topSlot_56 rfl (lv_at hl 0 rfl) ?_
          refine pq_get S hK hP inX4 0 rfl rfl 3 (by decide) fl_X4_21 rfl (v := .ref (a 4)) rfl dX4_topSlot_57 ?_
          refine lv_iload_n hx hb dX4_topSlot_60 rfl (lv_at hl 3 rfl) ?_
          refine pq_at S vn_X4_38 hK hP 4 rfl (by decide) hl.1 (Nat.le_of_ble_eq_true rfl) dX4_topSlot_61 (by decide) ⟨Nat.le_refl _, Nat.le_refl _⟩ ?_
          refine lv_istore_n (lv' := [(3, .int (pq_rd 25 T.2.2.2.1 v3)), (0, .ref (a 0)), (1, .int v1), (2, .int v2), (4, .int v4), (5, .int v5)]) hx hb dX4_topSlot_64 rfl hl (by decide) rfl (fun ls hl => ?_)
          refine lv_iinc (v := (v4 + 1)) (lv' := [(4, .int (v4 + 1)), (3, .int (pq_rd 25 T.2.2.2.1 v3)), (0, .ref (a 0)), (1, .int v1), (2, .int v2), (5, .int v5)]) hx hb dX4_topSlot_65 hl (k := 4) rfl rfl (by decide) rfl (fun ls hl => ?_)
          refine lv_goto (tgt := 8) hx hb dX4_topSlot_68 (by decide) ?_
          exact ih8 v1 v2 (pq_rd 25 T.2.2.2.1 v3) (v4 + 1) ls (lv_sub hl [2, 3, 4, 1, 0] rfl) hf
        · replace hf := pq_ifn h1 hf
          refine lv_aload_n hx hb dX4_topSlot_49 rfl (lv_at hl 0 rfl) ?_
          refine pq_get S hK hP inX4 0 rfl rfl 4 (by decide) fl_X4_24 rfl (v := .ref (a 5)) rfl dX4_topSlot_50 ?_
          refine lv_goto (tgt := 60) hx hb dX4_topSlot_53 (by decide) ?_
          refine lv_iload_n hx hb dX4_topSlot_60 rfl (lv_at hl 3 rfl) ?_
          refine pq_at S vn_X4_38 hK hP 5 rfl (by decide) hl.1 (Nat.le_of_ble_eq_true rfl) dX4_topSlot_61 (by decide) ⟨Nat.le_refl _, Nat.le_refl _⟩ ?_
          refine lv_istore_n (lv' := [(3, .int (pq_rd 25 T.2.2.2.2.1 v3)), (0, .ref (a 0)), (1, .int v1), (2, .int v2), (4, .int v4), (5, .int v5)]) hx hb dX4_topSlot_64 rfl hl (by decide) rfl (fun ls hl => ?_)
          refine lv_iinc (v := (v4 + 1)) (lv' := [(4, .int (v4 + 1)), (3, .int (pq_rd 25 T.2.2.2.2.1 v3)), (0, .ref (a 0)), (1, .int v1), (2, .int v2), (5, .int v5)]) hx hb dX4_topSlot_65 hl (k := 4) rfl rfl (by decide) rfl (fun ls hl => ?_)
          refine lv_goto (tgt := 8) hx hb dX4_topSlot_68 (by decide) ?_
          exact ih8 v1 v2 (pq_rd 25 T.2.2.2.2.1 v3) (v4 + 1) ls (lv_sub hl [2, 3, 4, 1, 0] rfl) hf
      intro v1 v2 v3 v4 ls hl hf
      rw [f_X4_topSlot_c8] at hf
      refine lv_iload hx hb dX4_topSlot_8 (lv_at hl 4 rfl) ?_
      refine lv_bipush (v := 24) hx hb dX4_topSlot_10 (by decide) ?_
      refine lv_icmp_ge (tgt := 71) hx hb dX4_topSlot_12 (by decide) (fun h2 => ?_) (fun h2 => ?_)
      · replace hf := pq_ifp h2 hf
        refine lv_iconst (v := 0) hx hb dX4_topSlot_71 (by decide) ?_
        exact hend _ _ _ dX4_topSlot_72 rfl hf
      · replace hf := pq_ifn h2 hf
        refine lv_iload_n hx hb dX4_topSlot_15 rfl (lv_at hl 3 rfl) ?_
        refine lv_if_eq (tgt := 71) hx hb dX4_topSlot_16 (by decide) (fun h3 => ?_) (fun h3 => ?_)
        · replace hf := pq_ifp h3 hf
          refine lv_iconst (v := 0) hx hb dX4_topSlot_71 (by decide) ?_
          exact hend _ _ _ dX4_topSlot_72 rfl hf
        · replace hf := pq_ifn h3 hf
          refine lv_aload_n hx hb dX4_topSlot_19 rfl (lv_at hl 0 rfl) ?_
          refine pq_get S hK hP inX4 0 rfl rfl 0 (by decide) fl_X4_9 rfl (v := .ref (a 1)) rfl dX4_topSlot_20 ?_
          refine lv_iload_n hx hb dX4_topSlot_23 rfl (lv_at hl 3 rfl) ?_
          refine pq_at S vn_X4_38 hK hP 1 rfl (by decide) hl.1 (Nat.le_of_ble_eq_true rfl) dX4_topSlot_24 (by decide) ⟨Nat.le_refl _, Nat.le_refl _⟩ ?_
          refine lv_istore (lv' := [(5, .int (pq_rd 25 T.1 v3)), (0, .ref (a 0)), (1, .int v1), (2, .int v2), (3, .int v3), (4, .int v4)]) hx hb dX4_topSlot_27 hl (by decide) rfl (fun ls hl => ?_)
          refine lv_iload hx hb dX4_topSlot_29 (lv_at hl 0 rfl) ?_
          refine lv_iload_n hx hb dX4_topSlot_31 rfl (lv_at hl 2 rfl) ?_
          refine lv_icmp_lt (tgt := 43) hx hb dX4_topSlot_32 (by decide) (fun h4 => ?_) (fun h4 => ?_)
          · replace hf := pq_ifp h4 hf
            exact B43 v1 v2 v3 v4 (pq_rd 25 T.1 v3) ls (lv_sub hl [1, 2, 3, 4, 5, 0] rfl) hf
          · replace hf := pq_ifn h4 hf
            refine lv_iload hx hb dX4_topSlot_35 (lv_at hl 0 rfl) ?_
            refine lv_iload_n hx hb dX4_topSlot_37 rfl (lv_at hl 3 rfl) ?_
            refine lv_icmp_gt (tgt := 43) hx hb dX4_topSlot_38 (by decide) (fun h5 => ?_) (fun h5 => ?_)
            · replace hf := pq_ifp h5 hf
              exact B43 v1 v2 v3 v4 (pq_rd 25 T.1 v3) ls (lv_sub hl [1, 2, 3, 4, 5, 0] rfl) hf
            · replace hf := pq_ifn h5 hf
              refine lv_iload_n hx hb dX4_topSlot_41 rfl (lv_at hl 4 rfl) ?_
              exact hend _ _ _ dX4_topSlot_42 rfl hf
  refine lv_aload_n hx hb dX4_topSlot_0 rfl (lv_at hl 0 rfl) ?_
  refine pq_get S hK hP inX4 0 rfl rfl 6 (by decide) fl_X4_30 rfl (v := .int T.2.2.2.2.2.2) rfl dX4_topSlot_1 ?_
  refine lv_istore_n (lv' := [(3, .int T.2.2.2.2.2.2), (0, .ref (a 0)), (1, .int p1), (2, .int p2)]) hx hb dX4_topSlot_4 rfl hl (by decide) rfl (fun ls hl => ?_)
  refine lv_iconst (v := 0) hx hb dX4_topSlot_5 (by decide) ?_
  refine lv_istore (lv' := [(4, .int 0), (3, .int T.2.2.2.2.2.2), (0, .ref (a 0)), (1, .int p1), (2, .int p2)]) hx hb dX4_topSlot_6 hl (by decide) rfl (fun ls hl => ?_)
  exact B8 200 p1 p2 T.2.2.2.2.2.2 0 ls (lv_sub hl [2, 3, 4, 1, 0] rfl) hf
def f_X4_searchAboveFrom_c81 (fr : TreeS → Int32 → Int32 → Int32 → Int32 → Int32 → Option (Int32)) (T : TreeS) (v1 : Int32) (v2 : Int32) (v3 : Int32) (v4 : Int32) (v5 : Int32) (v6 : Int32) (v7 : Int32) : Option (Int32) :=
    if v3 ≤ v6 then
      some v7
    else
      (f_X4_rightIn T v1).bind fun q3 =>
      (fr T q3 v2 v3 v4 (v5 + 1)).bind fun q5 =>
      some (v7 + q5)
def f_X4_searchAboveFrom_c51 (fr : TreeS → Int32 → Int32 → Int32 → Int32 → Int32 → Option (Int32)) (T : TreeS) (v1 : Int32) (v2 : Int32) (v3 : Int32) (v4 : Int32) (v5 : Int32) (v6 : Int32) (s0 : Int32) : Option (Int32) :=
    if v6 ≤ v2 then
      f_X4_searchAboveFrom_c81 fr T v1 v2 v3 v4 v5 v6 s0
    else
      (f_X4_leftIn T v1).bind fun q8 =>
      (fr T q8 v2 v3 v4 (v5 + 1)).bind fun q10 =>
      f_X4_searchAboveFrom_c81 fr T v1 v2 v3 v4 v5 v6 (s0 + q10)
def f_X4_searchAboveFrom_c50 (fr : TreeS → Int32 → Int32 → Int32 → Int32 → Int32 → Option (Int32)) (T : TreeS) (v1 : Int32) (v2 : Int32) (v3 : Int32) (v4 : Int32) (v5 : Int32) (v6 : Int32) : Option (Int32) :=
    f_X4_searchAboveFrom_c51 fr T v1 v2 v3 v4 v5 v6 0
def f_X4_searchAboveFrom : Nat → TreeS → Int32 → Int32 → Int32 → Int32 → Int32 → Option (Int32)
  | 0, _, _, _, _, _, _ => none
  | d + 1, T, p2, p3, p4, p5, p6 =>
    if p2 = 0 then
      some 0
    else
      if 24 ≤ p6 then
        some 0
      else
        (f_X4_priorityIn T p2).bind fun q14 =>
        if p5 ≤ q14 then
          (f_X4_keyIn T p2).bind fun q17 =>
          if q17 < p3 then
            f_X4_searchAboveFrom_c50 (f_X4_searchAboveFrom d) T p2 p3 p4 p5 p6 q17
          else
            if p4 < q17 then
              f_X4_searchAboveFrom_c50 (f_X4_searchAboveFrom d) T p2 p3 p4 p5 p6 q17
            else
              f_X4_searchAboveFrom_c51 (f_X4_searchAboveFrom d) T p2 p3 p4 p5 p6 q17 1
        else
          some 0
set_option maxHeartbeats 4000000 in
set_option maxRecDepth 100000 in
theorem c_X4_searchAboveFrom (l : Launch) (g : pq_g) (a : Nat → Nat) : ∀ (d : Nat) (T : TreeS) (p2 : Int32) (p3 : Int32) (p4 : Int32) (p5 : Int32) (p6 : Int32) (r : Int32), f_X4_searchAboveFrom d T p2 p3 p4 p5 p6 = some r → pq_R l yX4_searchAboveFrom cX4_searchAboveFrom 8 .int (3 + d) g (treeW g a T) [.ref (a 0), .int p2, .int p3, .int p4, .int p5, .int p6] r := by
  intro d
  induction d with
  | zero =>
    intro T p2 p3 p4 p5 p6 r hf
    exact absurd hf (by simp [f_X4_searchAboveFrom])
  | succ d ihd =>
    intro T p2 p3 p4 p5 p6 r hf
    rw [f_X4_searchAboveFrom] at hf
    refine pq_R.of (own := RX4) (by decide) rfl (Nat.le_of_ble_eq_true rfl) rfl ?_
    intro p e s m below meth c ls Q S hP hK hl hend
    obtain ⟨hx, hb, hml, hown, hts⟩ := id S
    have B81 : ∀ (v1 : Int32) (v2 : Int32) (v3 : Int32) (v4 : Int32) (v5 : Int32) (v6 : Int32) (v7 : Int32) (ls : Array Slot), lv_has ls 8 [(0, .ref (a 0)), (1, .int v1), (2, .int v2), (3, .int v3), (4, .int v4), (5, .int v5), (6, .int v6), (7, .int v7)] → f_X4_searchAboveFrom_c81 (f_X4_searchAboveFrom d) T v1 v2 v3 v4 v5 v6 v7 = some r → W p l e (pq_rm (3 + (d + 1)) 0 0) s m ([.ref (a 0), .int p2, .int p3, .int p4, .int p5, .int p6] : List Value).toArray below meth c s.heap [] 0 0 Q (F0 m 81 ls []) := by
      intro v1 v2 v3 v4 v5 v6 v7 ls hl hf
      rw [f_X4_searchAboveFrom_c81] at hf
      refine lv_iload hx hb dX4_searchAboveFrom_81 (lv_at hl 6 rfl) ?_
      refine lv_iload_n hx hb dX4_searchAboveFrom_83 rfl (lv_at hl 3 rfl) ?_
      refine lv_icmp_ge (tgt := 109) hx hb dX4_searchAboveFrom_84 (by decide) (fun h1 => ?_) (fun h1 => ?_)
      · replace hf := pq_ifp h1 hf
        refine lv_iload hx hb dX4_searchAboveFrom_109 (lv_at hl 7 rfl) ?_
        exact hend _ _ _ dX4_searchAboveFrom_111 rfl hf
      · replace hf := pq_ifn h1 hf
        refine lv_iload hx hb dX4_searchAboveFrom_87 (lv_at hl 7 rfl) ?_
        refine lv_aload_n hx hb dX4_searchAboveFrom_89 rfl (lv_at hl 0 rfl) ?_
        refine lv_aload_n hx hb dX4_searchAboveFrom_90 rfl (lv_at hl 0 rfl) ?_
        refine lv_iload_n hx hb dX4_searchAboveFrom_91 rfl (lv_at hl 1 rfl) ?_
        obtain ⟨q3, e2, hf⟩ := pq_bind hf
        refine pq_cV S (c_X4_rightIn l g a T v1 q3 e2) vv_X4_99 hK hP rfl rfl rfl rfl rfl hl.1 (Nat.le_of_ble_eq_true rfl) dX4_searchAboveFrom_92 (by omega) (by decide) ⟨Nat.le_refl _, Nat.le_refl _⟩ ?_
        refine lv_iload_n hx hb dX4_searchAboveFrom_95 rfl (lv_at hl 2 rfl) ?_
        refine lv_iload_n hx hb dX4_searchAboveFrom_96 rfl (lv_at hl 3 rfl) ?_
        refine lv_iload hx hb dX4_searchAboveFrom_97 (lv_at hl 4 rfl) ?_
        refine lv_iload hx hb dX4_searchAboveFrom_99 (lv_at hl 5 rfl) ?_
        refine lv_iconst (v := 1) hx hb dX4_searchAboveFrom_101 (by decide) ?_
        refine lv_iadd hx hb dX4_searchAboveFrom_102 ?_
        obtain ⟨q5, e4, hf⟩ := pq_bind hf
        refine pq_cS S (ihd T q3 v2 v3 v4 (v5 + 1) q5 e4) vs_X4_86 hK hP rfl rfl hl.1 (Nat.le_of_ble_eq_true rfl) dX4_searchAboveFrom_103 (by omega) (by decide) ⟨Nat.le_refl _, Nat.le_refl _⟩ ?_
        refine lv_iadd hx hb dX4_searchAboveFrom_106 ?_
        refine lv_istore (lv' := [(7, .int (v7 + q5)), (0, .ref (a 0)), (1, .int v1), (2, .int v2), (3, .int v3), (4, .int v4), (5, .int v5), (6, .int v6)]) hx hb dX4_searchAboveFrom_107 hl (by decide) rfl (fun ls hl => ?_)
        refine lv_iload hx hb dX4_searchAboveFrom_109 (lv_at hl 0 rfl) ?_
        exact hend _ _ _ dX4_searchAboveFrom_111 rfl hf
    have B51 : ∀ (v1 : Int32) (v2 : Int32) (v3 : Int32) (v4 : Int32) (v5 : Int32) (v6 : Int32) (s0 : Int32) (ls : Array Slot), lv_has ls 8 [(0, .ref (a 0)), (1, .int v1), (2, .int v2), (3, .int v3), (4, .int v4), (5, .int v5), (6, .int v6)] → f_X4_searchAboveFrom_c51 (f_X4_searchAboveFrom d) T v1 v2 v3 v4 v5 v6 s0 = some r → W p l e (pq_rm (3 + (d + 1)) 0 0) s m ([.ref (a 0), .int p2, .int p3, .int p4, .int p5, .int p6] : List Value).toArray below meth c s.heap [] 0 0 Q (F0 m 51 ls [.int s0]) := by
      intro v1 v2 v3 v4 v5 v6 s0 ls hl hf
      rw [f_X4_searchAboveFrom_c51] at hf
      refine lv_istore (lv' := [(7, .int s0), (0, .ref (a 0)), (1, .int v1), (2, .int v2), (3, .int v3), (4, .int v4), (5, .int v5), (6, .int v6)]) hx hb dX4_searchAboveFrom_51 hl (by decide) rfl (fun ls hl => ?_)
      refine lv_iload hx hb dX4_searchAboveFrom_53 (lv_at hl 7 rfl) ?_
      refine lv_iload_n hx hb dX4_searchAboveFrom_55 rfl (lv_at hl 3 rfl) ?_
      refine lv_icmp_le (tgt := 81) hx hb dX4_searchAboveFrom_56 (by decide) (fun h6 => ?_) (fun h6 => ?_)
      · replace hf := pq_ifp h6 hf
        exact B81 v1 v2 v3 v4 v5 v6 s0 ls (lv_sub hl [1, 2, 3, 4, 5, 6, 7, 0] rfl) hf
      · replace hf := pq_ifn h6 hf
        refine lv_iload hx hb dX4_searchAboveFrom_59 (lv_at hl 0 rfl) ?_
        refine lv_aload_n hx hb dX4_searchAboveFrom_61 rfl (lv_at hl 1 rfl) ?_
        refine lv_aload_n hx hb dX4_searchAboveFrom_62 rfl (lv_at hl 1 rfl) ?_
        refine lv_iload_n hx hb dX4_searchAboveFrom_63 rfl (lv_at hl 2 rfl) ?_
        obtain ⟨q8, e7, hf⟩ := pq_bind hf
        refine pq_cV S (c_X4_leftIn l g a T v1 q8 e7) vv_X4_96 hK hP rfl rfl rfl rfl rfl hl.1 (Nat.le_of_ble_eq_true rfl) dX4_searchAboveFrom_64 (by omega) (by decide) ⟨Nat.le_refl _, Nat.le_refl _⟩ ?_
        refine lv_iload_n hx hb dX4_searchAboveFrom_67 rfl (lv_at hl 3 rfl) ?_
        refine lv_iload_n hx hb dX4_searchAboveFrom_68 rfl (lv_at hl 4 rfl) ?_
        refine lv_iload hx hb dX4_searchAboveFrom_69 (lv_at hl 5 rfl) ?_
        refine lv_iload hx hb dX4_searchAboveFrom_71 (lv_at hl 6 rfl) ?_
        refine lv_iconst (v := 1) hx hb dX4_searchAboveFrom_73 (by decide) ?_
        refine lv_iadd hx hb dX4_searchAboveFrom_74 ?_
        obtain ⟨q10, e9, hf⟩ := pq_bind hf
        refine pq_cS S (ihd T q8 v2 v3 v4 (v5 + 1) q10 e9) vs_X4_86 hK hP rfl rfl hl.1 (Nat.le_of_ble_eq_true rfl) dX4_searchAboveFrom_75 (by omega) (by decide) ⟨Nat.le_refl _, Nat.le_refl _⟩ ?_
        refine lv_iadd hx hb dX4_searchAboveFrom_78 ?_
        refine lv_istore (lv' := [(7, .int (s0 + q10)), (0, .ref (a 0)), (1, .int v1), (2, .int v2), (3, .int v3), (4, .int v4), (5, .int v5), (6, .int v6)]) hx hb dX4_searchAboveFrom_79 hl (by decide) rfl (fun ls hl => ?_)
        exact B81 v1 v2 v3 v4 v5 v6 (s0 + q10) ls (lv_sub hl [1, 2, 3, 4, 5, 6, 7, 0] rfl) hf
    have B50 : ∀ (v1 : Int32) (v2 : Int32) (v3 : Int32) (v4 : Int32) (v5 : Int32) (v6 : Int32) (ls : Array Slot), lv_has ls 8 [(0, .ref (a 0)), (1, .int v1), (2, .int v2), (3, .int v3), (4, .int v4), (5, .int v5), (6, .int v6)] → f_X4_searchAboveFrom_c50 (f_X4_searchAboveFrom d) T v1 v2 v3 v4 v5 v6 = some r → W p l e (pq_rm (3 + (d + 1)) 0 0) s m ([.ref (a 0), .int p2, .int p3, .int p4, .int p5, .int p6] : List Value).toArray below meth c s.heap [] 0 0 Q (F0 m 50 ls []) := by
      intro v1 v2 v3 v4 v5 v6 ls hl hf
      rw [f_X4_searchAboveFrom_c50] at hf
      refine lv_iconst (v := 0) hx hb dX4_searchAboveFrom_50 (by decide) ?_
      exact B51 v1 v2 v3 v4 v5 v6 0 ls (lv_sub hl [0, 1, 2, 3, 4, 5, 6] rfl) hf
    refine lv_aload_n hx hb dX4_searchAboveFrom_0 rfl (lv_at hl 0 rfl) ?_
    refine lv_ifnull hx hb dX4_searchAboveFrom_1 ?_
    refine lv_iload_n hx hb dX4_searchAboveFrom_4 rfl (lv_at hl 1 rfl) ?_
    refine lv_if_eq (tgt := 25) hx hb dX4_searchAboveFrom_5 (by decide) (fun h11 => ?_) (fun h11 => ?_)
    · replace hf := pq_ifp h11 hf
      refine lv_iconst (v := 0) hx hb dX4_searchAboveFrom_25 (by decide) ?_
      exact hend _ _ _ dX4_searchAboveFrom_26 rfl hf
    · replace hf := pq_ifn h11 hf
      refine lv_iload hx hb dX4_searchAboveFrom_8 (lv_at hl 5 rfl) ?_
      refine lv_bipush (v := 24) hx hb dX4_searchAboveFrom_10 (by decide) ?_
      refine lv_icmp_ge (tgt := 25) hx hb dX4_searchAboveFrom_12 (by decide) (fun h12 => ?_) (fun h12 => ?_)
      · replace hf := pq_ifp h12 hf
        refine lv_iconst (v := 0) hx hb dX4_searchAboveFrom_25 (by decide) ?_
        exact hend _ _ _ dX4_searchAboveFrom_26 rfl hf
      · replace hf := pq_ifn h12 hf
        refine lv_aload_n hx hb dX4_searchAboveFrom_15 rfl (lv_at hl 0 rfl) ?_
        refine lv_iload_n hx hb dX4_searchAboveFrom_16 rfl (lv_at hl 1 rfl) ?_
        obtain ⟨q14, e13, hf⟩ := pq_bind hf
        refine pq_cV S (c_X4_priorityIn l g a T p2 q14 e13) vv_X4_90 hK hP rfl rfl rfl rfl rfl hl.1 (Nat.le_of_ble_eq_true rfl) dX4_searchAboveFrom_17 (by omega) (by decide) ⟨Nat.le_refl _, Nat.le_refl _⟩ ?_
        refine lv_iload hx hb dX4_searchAboveFrom_20 (lv_at hl 4 rfl) ?_
        refine lv_icmp_ge (tgt := 27) hx hb dX4_searchAboveFrom_22 (by decide) (fun h15 => ?_) (fun h15 => ?_)
        · replace hf := pq_ifp h15 hf
          refine lv_aload_n hx hb dX4_searchAboveFrom_27 rfl (lv_at hl 0 rfl) ?_
          refine lv_iload_n hx hb dX4_searchAboveFrom_28 rfl (lv_at hl 1 rfl) ?_
          obtain ⟨q17, e16, hf⟩ := pq_bind hf
          refine pq_cV S (c_X4_keyIn l g a T p2 q17 e16) vv_X4_93 hK hP rfl rfl rfl rfl rfl hl.1 (Nat.le_of_ble_eq_true rfl) dX4_searchAboveFrom_29 (by omega) (by decide) ⟨Nat.le_refl _, Nat.le_refl _⟩ ?_
          refine lv_istore (lv' := [(6, .int q17), (0, .ref (a 0)), (1, .int p2), (2, .int p3), (3, .int p4), (4, .int p5), (5, .int p6)]) hx hb dX4_searchAboveFrom_32 hl (by decide) rfl (fun ls hl => ?_)
          refine lv_iload hx hb dX4_searchAboveFrom_34 (lv_at hl 0 rfl) ?_
          refine lv_iload_n hx hb dX4_searchAboveFrom_36 rfl (lv_at hl 3 rfl) ?_
          refine lv_icmp_lt (tgt := 50) hx hb dX4_searchAboveFrom_37 (by decide) (fun h18 => ?_) (fun h18 => ?_)
          · replace hf := pq_ifp h18 hf
            exact B50 p2 p3 p4 p5 p6 q17 ls (lv_sub hl [1, 2, 3, 4, 5, 6, 0] rfl) hf
          · replace hf := pq_ifn h18 hf
            refine lv_iload hx hb dX4_searchAboveFrom_40 (lv_at hl 0 rfl) ?_
            refine lv_iload_n hx hb dX4_searchAboveFrom_42 rfl (lv_at hl 4 rfl) ?_
            refine lv_icmp_gt (tgt := 50) hx hb dX4_searchAboveFrom_43 (by decide) (fun h19 => ?_) (fun h19 => ?_)
            · replace hf := pq_ifp h19 hf
              exact B50 p2 p3 p4 p5 p6 q17 ls (lv_sub hl [1, 2, 3, 4, 5, 6, 0] rfl) hf
            · replace hf := pq_ifn h19 hf
              refine lv_iconst (v := 1) hx hb dX4_searchAboveFrom_46 (by decide) ?_
              refine lv_goto (tgt := 51) hx hb dX4_searchAboveFrom_47 (by decide) ?_
              exact B51 p2 p3 p4 p5 p6 q17 1 ls (lv_sub hl [1, 2, 3, 4, 5, 6, 0] rfl) hf
        · replace hf := pq_ifn h15 hf
          refine lv_iconst (v := 0) hx hb dX4_searchAboveFrom_25 (by decide) ?_
          exact hend _ _ _ dX4_searchAboveFrom_26 rfl hf
def f_X4_searchAbove (T : TreeS) (p1 : Int32) (p2 : Int32) (p3 : Int32) : Option (Int32) :=
    (f_X4_searchAboveFrom 40 T T.2.2.2.2.2.2 p1 p2 p3 0).bind fun q2 =>
    some q2
set_option maxHeartbeats 4000000 in
set_option maxRecDepth 100000 in
theorem c_X4_searchAbove (l : Launch) (g : pq_g) (a : Nat → Nat) (T : TreeS) (p1 : Int32) (p2 : Int32) (p3 : Int32) (r : Int32) (hf : f_X4_searchAbove T p1 p2 p3 = some r) : pq_R l yX4_searchAbove cX4_searchAbove 4 .int 44 g (treeW g a T) [.ref (a 0), .int p1, .int p2, .int p3] r := by
  rw [f_X4_searchAbove] at hf
  refine pq_R.of (own := RX4) (by decide) rfl (Nat.le_of_ble_eq_true rfl) rfl ?_
  intro p e s m below meth c ls Q S hP hK hl hend
  obtain ⟨hx, hb, hml, hown, hts⟩ := id S
  refine lv_aload_n hx hb dX4_searchAbove_0 rfl (lv_at hl 0 rfl) ?_
  refine lv_aload_n hx hb dX4_searchAbove_1 rfl (lv_at hl 0 rfl) ?_
  refine pq_get S hK hP inX4 0 rfl rfl 6 (by decide) fl_X4_30 rfl (v := .int T.2.2.2.2.2.2) rfl dX4_searchAbove_2 ?_
  refine lv_iload_n hx hb dX4_searchAbove_5 rfl (lv_at hl 1 rfl) ?_
  refine lv_iload_n hx hb dX4_searchAbove_6 rfl (lv_at hl 2 rfl) ?_
  refine lv_iload_n hx hb dX4_searchAbove_7 rfl (lv_at hl 3 rfl) ?_
  refine lv_iconst (v := 0) hx hb dX4_searchAbove_8 (by decide) ?_
  obtain ⟨q2, e1, hf⟩ := pq_bind hf
  refine pq_cS S (c_X4_searchAboveFrom l g a 40 T T.2.2.2.2.2.2 p1 p2 p3 0 q2 e1) vs_X4_86 hK hP rfl rfl hl.1 (Nat.le_of_ble_eq_true rfl) dX4_searchAbove_9 (by decide) (by decide) ⟨Nat.le_refl _, Nat.le_refl _⟩ ?_
  exact hend _ _ _ dX4_searchAbove_12 rfl hf
def f_X4_scanAbove_c53 (k6 : TreeS → Int32 → Int32 → Int32 → Int32 → Int32 → Option (Int32)) (T : TreeS) (v1 : Int32) (v2 : Int32) (v3 : Int32) (v4 : Int32) (v5 : Int32) (s0 : Int32) : Option (Int32) :=
    if s0 = 0 then
      k6 T v1 v2 v3 v4 (v5 + 1)
    else
      if (pq_rd 25 T.2.1 v5) < v3 then
        k6 T v1 v2 v3 v4 (v5 + 1)
      else
        k6 T v1 v2 v3 (v4 + 1) (v5 + 1)
def f_X4_scanAbove_c52 (k6 : TreeS → Int32 → Int32 → Int32 → Int32 → Int32 → Option (Int32)) (T : TreeS) (v1 : Int32) (v2 : Int32) (v3 : Int32) (v4 : Int32) (v5 : Int32) : Option (Int32) :=
    f_X4_scanAbove_c53 k6 T v1 v2 v3 v4 v5 0
def f_X4_scanAbove_c6 : Nat → TreeS → Int32 → Int32 → Int32 → Int32 → Int32 → Option (Int32)
  | 0, _, _, _, _, _, _ => none
  | n + 1, T, v1, v2, v3, v4, v5 =>
    if 24 < v5 then
      some v4
    else
      if (pq_rd 25 T.2.2.2.2.2.1 v5) ≤ 0 then
        f_X4_scanAbove_c52 (f_X4_scanAbove_c6 n) T v1 v2 v3 v4 v5
      else
        if (pq_rd 25 T.1 v5) < v1 then
          f_X4_scanAbove_c52 (f_X4_scanAbove_c6 n) T v1 v2 v3 v4 v5
        else
          if v2 < (pq_rd 25 T.1 v5) then
            f_X4_scanAbove_c52 (f_X4_scanAbove_c6 n) T v1 v2 v3 v4 v5
          else
            f_X4_scanAbove_c53 (f_X4_scanAbove_c6 n) T v1 v2 v3 v4 v5 1
def f_X4_scanAbove (T : TreeS) (p1 : Int32) (p2 : Int32) (p3 : Int32) : Option (Int32) :=
    f_X4_scanAbove_c6 200 T p1 p2 p3 0 1
set_option maxHeartbeats 4000000 in
set_option maxRecDepth 100000 in
theorem c_X4_scanAbove (l : Launch) (g : pq_g) (a : Nat → Nat) (T : TreeS) (p1 : Int32) (p2 : Int32) (p3 : Int32) (r : Int32) (hf : f_X4_scanAbove T p1 p2 p3 = some r) : pq_R l yX4_scanAbove cX4_scanAbove 8 .int 2 g (treeW g a T) [.ref (a 0), .int p1, .int p2, .int p3] r := by
  rw [f_X4_scanAbove] at hf
  refine pq_R.of (own := RX4) (by decide) rfl (Nat.le_of_ble_eq_true rfl) rfl ?_
  intro p e s m below meth c ls Q S hP hK hl hend
  obtain ⟨hx, hb, hml, hown, hts⟩ := id S
  have B6 : ∀ (n6 : Nat) (v1 : Int32) (v2 : Int32) (v3 : Int32) (v4 : Int32) (v5 : Int32) (ls : Array Slot), lv_has ls 8 [(0, .ref (a 0)), (1, .int v1), (2, .int v2), (3, .int v3), (4, .int v4), (5, .int v5)] → f_X4_scanAbove_c6 n6 T v1 v2 v3 v4 v5 = some r → W p l e (pq_rm 2 0 0) s m ([.ref (a 0), .int p1, .int p2, .int p3] : List Value).toArray below meth c s.heap [] 0 0 Q (F0 m 6 ls []) := by
    intro n6
    induction n6 with
    | zero =>
      intro v1 v2 v3 v4 v5 ls hl hf
      exact absurd hf (by simp [f_X4_scanAbove_c6])
    | succ n6 ih6 =>
      have B53 : ∀ (v1 : Int32) (v2 : Int32) (v3 : Int32) (v4 : Int32) (v5 : Int32) (s0 : Int32) (ls : Array Slot), lv_has ls 8 [(0, .ref (a 0)), (1, .int v1), (2, .int v2), (3, .int v3), (4, .int v4), (5, .int v5)] → f_X4_scanAbove_c53 (f_X4_scanAbove_c6 n6) T v1 v2 v3 v4 v5 s0 = some r → W p l e (pq_rm 2 0 0) s m ([.ref (a 0), .int p1, .int p2, .int p3] : List Value).toArray below meth c s.heap [] 0 0 Q (F0 m 53 ls [.int s0]) := by
        intro v1 v2 v3 v4 v5 s0 ls hl hf
        rw [f_X4_scanAbove_c53] at hf
        refine lv_istore (lv' := [(7, .int s0), (0, .ref (a 0)), (1, .int v1), (2, .int v2), (3, .int v3), (4, .int v4), (5, .int v5)]) hx hb dX4_scanAbove_53 hl (by decide) rfl (fun ls hl => ?_)
        refine lv_iload hx hb dX4_scanAbove_55 (lv_at hl 0 rfl) ?_
        refine lv_if_eq (tgt := 76) hx hb dX4_scanAbove_57 (by decide) (fun h1 => ?_) (fun h1 => ?_)
        · replace hf := pq_ifp h1 hf
          refine lv_iinc (v := (v5 + 1)) (lv' := [(5, .int (v5 + 1)), (7, .int s0), (0, .ref (a 0)), (1, .int v1), (2, .int v2), (3, .int v3), (4, .int v4)]) hx hb dX4_scanAbove_76 hl (k := 6) rfl rfl (by decide) rfl (fun ls hl => ?_)
          refine lv_goto (tgt := 6) hx hb dX4_scanAbove_79 (by decide) ?_
          exact ih6 v1 v2 v3 v4 (v5 + 1) ls (lv_sub hl [2, 3, 4, 5, 6, 0] rfl) hf
        · replace hf := pq_ifn h1 hf
          refine lv_aload_n hx hb dX4_scanAbove_60 rfl (lv_at hl 1 rfl) ?_
          refine pq_get S hK hP inX4 0 rfl rfl 1 (by decide) fl_X4_15 rfl (v := .ref (a 2)) rfl dX4_scanAbove_61 ?_
          refine lv_iload hx hb dX4_scanAbove_64 (lv_at hl 6 rfl) ?_
          refine pq_at S vn_X4_38 hK hP 2 rfl (by decide) hl.1 (Nat.le_of_ble_eq_true rfl) dX4_scanAbove_66 (by decide) ⟨Nat.le_refl _, Nat.le_refl _⟩ ?_
          refine lv_iload_n hx hb dX4_scanAbove_69 rfl (lv_at hl 4 rfl) ?_
          refine lv_icmp_lt (tgt := 76) hx hb dX4_scanAbove_70 (by decide) (fun h2 => ?_) (fun h2 => ?_)
          · replace hf := pq_ifp h2 hf
            refine lv_iinc (v := (v5 + 1)) (lv' := [(5, .int (v5 + 1)), (7, .int s0), (0, .ref (a 0)), (1, .int v1), (2, .int v2), (3, .int v3), (4, .int v4)]) hx hb dX4_scanAbove_76 hl (k := 6) rfl rfl (by decide) rfl (fun ls hl => ?_)
            refine lv_goto (tgt := 6) hx hb dX4_scanAbove_79 (by decide) ?_
            exact ih6 v1 v2 v3 v4 (v5 + 1) ls (lv_sub hl [2, 3, 4, 5, 6, 0] rfl) hf
          · replace hf := pq_ifn h2 hf
            refine lv_iinc (v := (v4 + 1)) (lv' := [(4, .int (v4 + 1)), (7, .int s0), (0, .ref (a 0)), (1, .int v1), (2, .int v2), (3, .int v3), (5, .int v5)]) hx hb dX4_scanAbove_73 hl (k := 5) rfl rfl (by decide) rfl (fun ls hl => ?_)
            refine lv_iinc (v := (v5 + 1)) (lv' := [(5, .int (v5 + 1)), (4, .int (v4 + 1)), (7, .int s0), (0, .ref (a 0)), (1, .int v1), (2, .int v2), (3, .int v3)]) hx hb dX4_scanAbove_76 hl (k := 6) rfl rfl (by decide) rfl (fun ls hl => ?_)
            refine lv_goto (tgt := 6) hx hb dX4_scanAbove_79 (by decide) ?_
            exact ih6 v1 v2 v3 (v4 + 1) (v5 + 1) ls (lv_sub hl [3, 4, 5, 6, 1, 0] rfl) hf
      have B52 : ∀ (v1 : Int32) (v2 : Int32) (v3 : Int32) (v4 : Int32) (v5 : Int32) (ls : Array Slot), lv_has ls 8 [(0, .ref (a 0)), (1, .int v1), (2, .int v2), (3, .int v3), (4, .int v4), (5, .int v5)] → f_X4_scanAbove_c52 (f_X4_scanAbove_c6 n6) T v1 v2 v3 v4 v5 = some r → W p l e (pq_rm 2 0 0) s m ([.ref (a 0), .int p1, .int p2, .int p3] : List Value).toArray below meth c s.heap [] 0 0 Q (F0 m 52 ls []) := by
        intro v1 v2 v3 v4 v5 ls hl hf
        rw [f_X4_scanAbove_c52] at hf
        refine lv_iconst (v := 0) hx hb dX4_scanAbove_52 (by decide) ?_
        exact B53 v1 v2 v3 v4 v5 0 ls (lv_sub hl [0, 1, 2, 3, 4, 5] rfl) hf
      intro v1 v2 v3 v4 v5 ls hl hf
      rw [f_X4_scanAbove_c6] at hf
      refine lv_iload hx hb dX4_scanAbove_6 (lv_at hl 5 rfl) ?_
      refine lv_bipush (v := 24) hx hb dX4_scanAbove_8 (by decide) ?_
      refine lv_icmp_gt (tgt := 82) hx hb dX4_scanAbove_10 (by decide) (fun h3 => ?_) (fun h3 => ?_)
      · replace hf := pq_ifp h3 hf
        refine lv_iload hx hb dX4_scanAbove_82 (lv_at hl 4 rfl) ?_
        exact hend _ _ _ dX4_scanAbove_84 rfl hf
      · replace hf := pq_ifn h3 hf
        refine lv_aload_n hx hb dX4_scanAbove_13 rfl (lv_at hl 0 rfl) ?_
        refine pq_get S hK hP inX4 0 rfl rfl 0 (by decide) fl_X4_9 rfl (v := .ref (a 1)) rfl dX4_scanAbove_14 ?_
        refine lv_iload hx hb dX4_scanAbove_17 (lv_at hl 5 rfl) ?_
        refine pq_at S vn_X4_38 hK hP 1 rfl (by decide) hl.1 (Nat.le_of_ble_eq_true rfl) dX4_scanAbove_19 (by decide) ⟨Nat.le_refl _, Nat.le_refl _⟩ ?_
        refine lv_istore (lv' := [(6, .int (pq_rd 25 T.1 v5)), (0, .ref (a 0)), (1, .int v1), (2, .int v2), (3, .int v3), (4, .int v4), (5, .int v5)]) hx hb dX4_scanAbove_22 hl (by decide) rfl (fun ls hl => ?_)
        refine lv_aload_n hx hb dX4_scanAbove_24 rfl (lv_at hl 1 rfl) ?_
        refine pq_get S hK hP inX4 0 rfl rfl 5 (by decide) fl_X4_27 rfl (v := .ref (a 6)) rfl dX4_scanAbove_25 ?_
        refine lv_iload hx hb dX4_scanAbove_28 (lv_at hl 6 rfl) ?_
        refine pq_at S vn_X4_38 hK hP 6 rfl (by decide) hl.1 (Nat.le_of_ble_eq_true rfl) dX4_scanAbove_30 (by decide) ⟨Nat.le_refl _, Nat.le_refl _⟩ ?_
        refine lv_if_le (tgt := 52) hx hb dX4_scanAbove_33 (by decide) (fun h4 => ?_) (fun h4 => ?_)
        · replace hf := pq_ifp h4 hf
          exact B52 v1 v2 v3 v4 v5 ls (lv_sub hl [1, 2, 3, 4, 5, 6] rfl) hf
        · replace hf := pq_ifn h4 hf
          refine lv_iload hx hb dX4_scanAbove_36 (lv_at hl 0 rfl) ?_
          refine lv_iload_n hx hb dX4_scanAbove_38 rfl (lv_at hl 2 rfl) ?_
          refine lv_icmp_lt (tgt := 52) hx hb dX4_scanAbove_39 (by decide) (fun h5 => ?_) (fun h5 => ?_)
          · replace hf := pq_ifp h5 hf
            exact B52 v1 v2 v3 v4 v5 ls (lv_sub hl [1, 2, 3, 4, 5, 6] rfl) hf
          · replace hf := pq_ifn h5 hf
            refine lv_iload hx hb dX4_scanAbove_42 (lv_at hl 0 rfl) ?_
            refine lv_iload_n hx hb dX4_scanAbove_44 rfl (lv_at hl 3 rfl) ?_
            refine lv_icmp_gt (tgt := 52) hx hb dX4_scanAbove_45 (by decide) (fun h6 => ?_) (fun h6 => ?_)
            · replace hf := pq_ifp h6 hf
              exact B52 v1 v2 v3 v4 v5 ls (lv_sub hl [1, 2, 3, 4, 5, 6] rfl) hf
            · replace hf := pq_ifn h6 hf
              refine lv_iconst (v := 1) hx hb dX4_scanAbove_48 (by decide) ?_
              refine lv_goto (tgt := 53) hx hb dX4_scanAbove_49 (by decide) ?_
              exact B53 v1 v2 v3 v4 v5 1 ls (lv_sub hl [1, 2, 3, 4, 5, 6] rfl) hf
  refine lv_iconst (v := 0) hx hb dX4_scanAbove_0 (by decide) ?_
  refine lv_istore (lv' := [(4, .int 0), (0, .ref (a 0)), (1, .int p1), (2, .int p2), (3, .int p3)]) hx hb dX4_scanAbove_1 hl (by decide) rfl (fun ls hl => ?_)
  refine lv_iconst (v := 1) hx hb dX4_scanAbove_3 (by decide) ?_
  refine lv_istore (lv' := [(5, .int 1), (4, .int 0), (0, .ref (a 0)), (1, .int p1), (2, .int p2), (3, .int p3)]) hx hb dX4_scanAbove_4 hl (by decide) rfl (fun ls hl => ?_)
  exact B6 200 p1 p2 p3 0 1 ls (lv_sub hl [2, 3, 4, 5, 1, 0] rfl) hf
def f_X4_scanTop_c5 : Nat → TreeS → Int32 → Int32 → Int32 → Int32 → Option (Int32)
  | 0, _, _, _, _, _ => none
  | n + 1, T, v1, v2, v3, v4 =>
    if 24 < v4 then
      some v3
    else
      (f_X4_isInRange T v4 v1 v2).bind fun q3 =>
      if q3 = 0 then
        f_X4_scanTop_c5 n T v1 v2 v3 (v4 + 1)
      else
        if v3 = 0 then
          f_X4_scanTop_c5 n T v1 v2 v4 (v4 + 1)
        else
          (f_X4_belongsAbove T v4 v3).bind fun q7 =>
          if q7 = 0 then
            f_X4_scanTop_c5 n T v1 v2 v3 (v4 + 1)
          else
            f_X4_scanTop_c5 n T v1 v2 v4 (v4 + 1)
def f_X4_scanTop (T : TreeS) (p1 : Int32) (p2 : Int32) : Option (Int32) :=
    f_X4_scanTop_c5 200 T p1 p2 0 1
set_option maxHeartbeats 4000000 in
set_option maxRecDepth 100000 in
theorem c_X4_scanTop (l : Launch) (g : pq_g) (a : Nat → Nat) (T : TreeS) (p1 : Int32) (p2 : Int32) (r : Int32) (hf : f_X4_scanTop T p1 p2 = some r) : pq_R l yX4_scanTop cX4_scanTop 5 .int 3 g (treeW g a T) [.ref (a 0), .int p1, .int p2] r := by
  rw [f_X4_scanTop] at hf
  refine pq_R.of (own := RX4) (by decide) rfl (Nat.le_of_ble_eq_true rfl) rfl ?_
  intro p e s m below meth c ls Q S hP hK hl hend
  obtain ⟨hx, hb, hml, hown, hts⟩ := id S
  have B5 : ∀ (n5 : Nat) (v1 : Int32) (v2 : Int32) (v3 : Int32) (v4 : Int32) (ls : Array Slot), lv_has ls 5 [(0, .ref (a 0)), (1, .int v1), (2, .int v2), (3, .int v3), (4, .int v4)] → f_X4_scanTop_c5 n5 T v1 v2 v3 v4 = some r → W p l e (pq_rm 3 0 0) s m ([.ref (a 0), .int p1, .int p2] : List Value).toArray below meth c s.heap [] 0 0 Q (F0 m 5 ls []) := by
    intro n5
    induction n5 with
    | zero =>
      intro v1 v2 v3 v4 ls hl hf
      exact absurd hf (by simp [f_X4_scanTop_c5])
    | succ n5 ih5 =>
      intro v1 v2 v3 v4 ls hl hf
      rw [f_X4_scanTop_c5] at hf
      refine lv_iload hx hb dX4_scanTop_5 (lv_at hl 4 rfl) ?_
      refine lv_bipush (v := 24) hx hb dX4_scanTop_7 (by decide) ?_
      refine lv_icmp_gt (tgt := 46) hx hb dX4_scanTop_9 (by decide) (fun h1 => ?_) (fun h1 => ?_)
      · replace hf := pq_ifp h1 hf
        refine lv_iload_n hx hb dX4_scanTop_46 rfl (lv_at hl 3 rfl) ?_
        exact hend _ _ _ dX4_scanTop_47 rfl hf
      · replace hf := pq_ifn h1 hf
        refine lv_aload_n hx hb dX4_scanTop_12 rfl (lv_at hl 0 rfl) ?_
        refine lv_iload hx hb dX4_scanTop_13 (lv_at hl 4 rfl) ?_
        refine lv_iload_n hx hb dX4_scanTop_15 rfl (lv_at hl 1 rfl) ?_
        refine lv_iload_n hx hb dX4_scanTop_16 rfl (lv_at hl 2 rfl) ?_
        obtain ⟨q3, e2, hf⟩ := pq_bind hf
        refine pq_cV S (c_X4_isInRange l g a T v4 v1 v2 q3 e2) vv_X4_72 hK hP rfl rfl rfl rfl rfl hl.1 (Nat.le_of_ble_eq_true rfl) dX4_scanTop_17 (by decide) (by decide) ⟨Nat.le_refl _, Nat.le_refl _⟩ ?_
        refine lv_if_eq (tgt := 40) hx hb dX4_scanTop_20 (by decide) (fun h4 => ?_) (fun h4 => ?_)
        · replace hf := pq_ifp h4 hf
          refine lv_iinc (v := (v4 + 1)) (lv' := [(4, .int (v4 + 1)), (0, .ref (a 0)), (1, .int v1), (2, .int v2), (3, .int v3)]) hx hb dX4_scanTop_40 hl (k := 4) rfl rfl (by decide) rfl (fun ls hl => ?_)
          refine lv_goto (tgt := 5) hx hb dX4_scanTop_43 (by decide) ?_
          exact ih5 v1 v2 v3 (v4 + 1) ls (lv_sub hl [1, 2, 3, 4, 0] rfl) hf
        · replace hf := pq_ifn h4 hf
          refine lv_iload_n hx hb dX4_scanTop_23 rfl (lv_at hl 3 rfl) ?_
          refine lv_if_eq (tgt := 37) hx hb dX4_scanTop_24 (by decide) (fun h5 => ?_) (fun h5 => ?_)
          · replace hf := pq_ifp h5 hf
            refine lv_iload hx hb dX4_scanTop_37 (lv_at hl 4 rfl) ?_
            refine lv_istore_n (lv' := [(3, .int v4), (0, .ref (a 0)), (1, .int v1), (2, .int v2), (4, .int v4)]) hx hb dX4_scanTop_39 rfl hl (by decide) rfl (fun ls hl => ?_)
            refine lv_iinc (v := (v4 + 1)) (lv' := [(4, .int (v4 + 1)), (3, .int v4), (0, .ref (a 0)), (1, .int v1), (2, .int v2)]) hx hb dX4_scanTop_40 hl (k := 4) rfl rfl (by decide) rfl (fun ls hl => ?_)
            refine lv_goto (tgt := 5) hx hb dX4_scanTop_43 (by decide) ?_
            exact ih5 v1 v2 v4 (v4 + 1) ls (lv_sub hl [2, 3, 4, 1, 0] rfl) hf
          · replace hf := pq_ifn h5 hf
            refine lv_aload_n hx hb dX4_scanTop_27 rfl (lv_at hl 0 rfl) ?_
            refine lv_iload hx hb dX4_scanTop_28 (lv_at hl 4 rfl) ?_
            refine lv_iload_n hx hb dX4_scanTop_30 rfl (lv_at hl 3 rfl) ?_
            obtain ⟨q7, e6, hf⟩ := pq_bind hf
            refine pq_cV S (c_X4_belongsAbove l g a T v4 v3 q7 e6) vv_X4_54 hK hP rfl rfl rfl rfl rfl hl.1 (Nat.le_of_ble_eq_true rfl) dX4_scanTop_31 (by decide) (by decide) ⟨Nat.le_refl _, Nat.le_refl _⟩ ?_
            refine lv_if_eq (tgt := 40) hx hb dX4_scanTop_34 (by decide) (fun h8 => ?_) (fun h8 => ?_)
            · replace hf := pq_ifp h8 hf
              refine lv_iinc (v := (v4 + 1)) (lv' := [(4, .int (v4 + 1)), (0, .ref (a 0)), (1, .int v1), (2, .int v2), (3, .int v3)]) hx hb dX4_scanTop_40 hl (k := 4) rfl rfl (by decide) rfl (fun ls hl => ?_)
              refine lv_goto (tgt := 5) hx hb dX4_scanTop_43 (by decide) ?_
              exact ih5 v1 v2 v3 (v4 + 1) ls (lv_sub hl [1, 2, 3, 4, 0] rfl) hf
            · replace hf := pq_ifn h8 hf
              refine lv_iload hx hb dX4_scanTop_37 (lv_at hl 4 rfl) ?_
              refine lv_istore_n (lv' := [(3, .int v4), (0, .ref (a 0)), (1, .int v1), (2, .int v2), (4, .int v4)]) hx hb dX4_scanTop_39 rfl hl (by decide) rfl (fun ls hl => ?_)
              refine lv_iinc (v := (v4 + 1)) (lv' := [(4, .int (v4 + 1)), (3, .int v4), (0, .ref (a 0)), (1, .int v1), (2, .int v2)]) hx hb dX4_scanTop_40 hl (k := 4) rfl rfl (by decide) rfl (fun ls hl => ?_)
              refine lv_goto (tgt := 5) hx hb dX4_scanTop_43 (by decide) ?_
              exact ih5 v1 v2 v4 (v4 + 1) ls (lv_sub hl [2, 3, 4, 1, 0] rfl) hf
  refine lv_iconst (v := 0) hx hb dX4_scanTop_0 (by decide) ?_
  refine lv_istore_n (lv' := [(3, .int 0), (0, .ref (a 0)), (1, .int p1), (2, .int p2)]) hx hb dX4_scanTop_1 rfl hl (by decide) rfl (fun ls hl => ?_)
  refine lv_iconst (v := 1) hx hb dX4_scanTop_2 (by decide) ?_
  refine lv_istore (lv' := [(4, .int 1), (3, .int 0), (0, .ref (a 0)), (1, .int p1), (2, .int p2)]) hx hb dX4_scanTop_3 hl (by decide) rfl (fun ls hl => ?_)
  exact B5 200 p1 p2 0 1 ls (lv_sub hl [2, 3, 4, 1, 0] rfl) hf
def f_X4_sumBetween_c5 : Nat → TreeS → Int32 → Int32 → Int64 → Int32 → Option (Int64)
  | 0, _, _, _, _, _ => none
  | n + 1, T, v1, v2, v3, v5 =>
    if 24 < v5 then
      some v3
    else
      (f_X4_isInRange T v5 v1 v2).bind fun q3 =>
      if q3 = 0 then
        f_X4_sumBetween_c5 n T v1 v2 v3 (v5 + 1)
      else
        f_X4_sumBetween_c5 n T v1 v2 (v3 + (pq_rd 25 T.2.1 v5).toInt64) (v5 + 1)
def f_X4_sumBetween (T : TreeS) (p1 : Int32) (p2 : Int32) : Option (Int64) :=
    f_X4_sumBetween_c5 200 T p1 p2 0 1
set_option maxHeartbeats 4000000 in
set_option maxRecDepth 100000 in
theorem c_X4_sumBetween (l : Launch) (g : pq_g) (a : Nat → Nat) (T : TreeS) (p1 : Int32) (p2 : Int32) (r : Int64) (hf : f_X4_sumBetween T p1 p2 = some r) : pq_Rl l yX4_sumBetween cX4_sumBetween 6 3 g (treeW g a T) [.ref (a 0), .int p1, .int p2] r := by
  rw [f_X4_sumBetween] at hf
  refine pq_Rl.of (own := RX4) (by decide) rfl (Nat.le_of_ble_eq_true rfl) rfl ?_
  intro p e s m below meth c ls Q S hP hK hl hend
  obtain ⟨hx, hb, hml, hown, hts⟩ := id S
  have B5 : ∀ (n5 : Nat) (v1 : Int32) (v2 : Int32) (v3 : Int64) (v5 : Int32) (ls : Array Slot), lv_has ls 6 [(0, .ref (a 0)), (1, .int v1), (2, .int v2), (3, .long v3), (5, .int v5)] → f_X4_sumBetween_c5 n5 T v1 v2 v3 v5 = some r → W p l e (pq_rm 3 0 0) s m ([.ref (a 0), .int p1, .int p2] : List Value).toArray below meth c s.heap [] 0 0 Q (F0 m 5 ls []) := by
    intro n5
    induction n5 with
    | zero =>
      intro v1 v2 v3 v5 ls hl hf
      exact absurd hf (by simp [f_X4_sumBetween_c5])
    | succ n5 ih5 =>
      intro v1 v2 v3 v5 ls hl hf
      rw [f_X4_sumBetween_c5] at hf
      refine lv_iload hx hb dX4_sumBetween_5 (lv_at hl 4 rfl) ?_
      refine lv_bipush (v := 24) hx hb dX4_sumBetween_7 (by decide) ?_
      refine lv_icmp_gt (tgt := 42) hx hb dX4_sumBetween_9 (by decide) (fun h1 => ?_) (fun h1 => ?_)
      · replace hf := pq_ifp h1 hf
        refine lv_lload_n hx hb dX4_sumBetween_42 rfl (lv_at hl 3 rfl) ?_
        exact hend _ _ _ dX4_sumBetween_43 hf
      · replace hf := pq_ifn h1 hf
        refine lv_aload_n hx hb dX4_sumBetween_12 rfl (lv_at hl 0 rfl) ?_
        refine lv_iload hx hb dX4_sumBetween_13 (lv_at hl 4 rfl) ?_
        refine lv_iload_n hx hb dX4_sumBetween_15 rfl (lv_at hl 1 rfl) ?_
        refine lv_iload_n hx hb dX4_sumBetween_16 rfl (lv_at hl 2 rfl) ?_
        obtain ⟨q3, e2, hf⟩ := pq_bind hf
        refine pq_cV S (c_X4_isInRange l g a T v5 v1 v2 q3 e2) vv_X4_72 hK hP rfl rfl rfl rfl rfl hl.1 (Nat.le_of_ble_eq_true rfl) dX4_sumBetween_17 (by decide) (by decide) ⟨Nat.le_refl _, Nat.le_refl _⟩ ?_
        refine lv_if_eq (tgt := 36) hx hb dX4_sumBetween_20 (by decide) (fun h4 => ?_) (fun h4 => ?_)
        · replace hf := pq_ifp h4 hf
          refine lv_iinc (v := (v5 + 1)) (lv' := [(5, .int (v5 + 1)), (0, .ref (a 0)), (1, .int v1), (2, .int v2), (3, .long v3)]) hx hb dX4_sumBetween_36 hl (k := 4) rfl rfl (by decide) rfl (fun ls hl => ?_)
          refine lv_goto (tgt := 5) hx hb dX4_sumBetween_39 (by decide) ?_
          exact ih5 v1 v2 v3 (v5 + 1) ls (lv_sub hl [1, 2, 3, 4, 0] rfl) hf
        · replace hf := pq_ifn h4 hf
          refine lv_lload_n hx hb dX4_sumBetween_23 rfl (lv_at hl 3 rfl) ?_
          refine lv_aload_n hx hb dX4_sumBetween_24 rfl (lv_at hl 0 rfl) ?_
          refine pq_get S hK hP inX4 0 rfl rfl 1 (by decide) fl_X4_15 rfl (v := .ref (a 2)) rfl dX4_sumBetween_25 ?_
          refine lv_iload hx hb dX4_sumBetween_28 (lv_at hl 4 rfl) ?_
          refine pq_at S vn_X4_38 hK hP 2 rfl (by decide) hl.1 (Nat.le_of_ble_eq_true rfl) dX4_sumBetween_30 (by decide) ⟨Nat.le_refl _, Nat.le_refl _⟩ ?_
          refine lv_i2l hx hb dX4_sumBetween_33 rfl ?_
          refine lv_ladd hx hb dX4_sumBetween_34 ?_
          refine lv_lstore_n (lv' := [(3, .long (v3 + (pq_rd 25 T.2.1 v5).toInt64)), (0, .ref (a 0)), (1, .int v1), (2, .int v2), (5, .int v5)]) hx hb dX4_sumBetween_35 rfl hl (by decide) rfl (fun ls hl => ?_)
          refine lv_iinc (v := (v5 + 1)) (lv' := [(5, .int (v5 + 1)), (3, .long (v3 + (pq_rd 25 T.2.1 v5).toInt64)), (0, .ref (a 0)), (1, .int v1), (2, .int v2)]) hx hb dX4_sumBetween_36 hl (k := 4) rfl rfl (by decide) rfl (fun ls hl => ?_)
          refine lv_goto (tgt := 5) hx hb dX4_sumBetween_39 (by decide) ?_
          exact ih5 v1 v2 (v3 + (pq_rd 25 T.2.1 v5).toInt64) (v5 + 1) ls (lv_sub hl [2, 3, 4, 1, 0] rfl) hf
  refine lv_lconst (v := 0) hx hb dX4_sumBetween_0 (by decide) ?_
  refine lv_lstore_n (lv' := [(3, .long 0), (0, .ref (a 0)), (1, .int p1), (2, .int p2)]) hx hb dX4_sumBetween_1 rfl hl (by decide) rfl (fun ls hl => ?_)
  refine lv_iconst (v := 1) hx hb dX4_sumBetween_2 (by decide) ?_
  refine lv_istore (lv' := [(5, .int 1), (3, .long 0), (0, .ref (a 0)), (1, .int p1), (2, .int p2)]) hx hb dX4_sumBetween_3 hl (by decide) rfl (fun ls hl => ?_)
  exact B5 200 p1 p2 0 1 ls (lv_sub hl [2, 3, 4, 1, 0] rfl) hf
def f_X4_countAhead_c4 : Nat → TreeS → Int32 → Int32 → Int32 → Option (Int32)
  | 0, _, _, _, _ => none
  | n + 1, T, v1, v2, v3 =>
    if 24 < v3 then
      some v2
    else
      if (pq_rd 25 T.2.2.2.2.2.1 v3) ≤ 0 then
        f_X4_countAhead_c4 n T v1 v2 (v3 + 1)
      else
        (f_X4_belongsAbove T v3 v1).bind fun q4 =>
        if q4 = 0 then
          f_X4_countAhead_c4 n T v1 v2 (v3 + 1)
        else
          f_X4_countAhead_c4 n T v1 (v2 + 1) (v3 + 1)
def f_X4_countAhead (T : TreeS) (p1 : Int32) : Option (Int32) :=
    f_X4_countAhead_c4 200 T p1 0 1
set_option maxHeartbeats 4000000 in
set_option maxRecDepth 100000 in
theorem c_X4_countAhead (l : Launch) (g : pq_g) (a : Nat → Nat) (T : TreeS) (p1 : Int32) (r : Int32) (hf : f_X4_countAhead T p1 = some r) : pq_R l yX4_countAhead cX4_countAhead 4 .int 3 g (treeW g a T) [.ref (a 0), .int p1] r := by
  rw [f_X4_countAhead] at hf
  refine pq_R.of (own := RX4) (by decide) rfl (Nat.le_of_ble_eq_true rfl) rfl ?_
  intro p e s m below meth c ls Q S hP hK hl hend
  obtain ⟨hx, hb, hml, hown, hts⟩ := id S
  have B4 : ∀ (n4 : Nat) (v1 : Int32) (v2 : Int32) (v3 : Int32) (ls : Array Slot), lv_has ls 4 [(0, .ref (a 0)), (1, .int v1), (2, .int v2), (3, .int v3)] → f_X4_countAhead_c4 n4 T v1 v2 v3 = some r → W p l e (pq_rm 3 0 0) s m ([.ref (a 0), .int p1] : List Value).toArray below meth c s.heap [] 0 0 Q (F0 m 4 ls []) := by
    intro n4
    induction n4 with
    | zero =>
      intro v1 v2 v3 ls hl hf
      exact absurd hf (by simp [f_X4_countAhead_c4])
    | succ n4 ih4 =>
      intro v1 v2 v3 ls hl hf
      rw [f_X4_countAhead_c4] at hf
      refine lv_iload_n hx hb dX4_countAhead_4 rfl (lv_at hl 3 rfl) ?_
      refine lv_bipush (v := 24) hx hb dX4_countAhead_5 (by decide) ?_
      refine lv_icmp_gt (tgt := 39) hx hb dX4_countAhead_7 (by decide) (fun h1 => ?_) (fun h1 => ?_)
      · replace hf := pq_ifp h1 hf
        refine lv_iload_n hx hb dX4_countAhead_39 rfl (lv_at hl 2 rfl) ?_
        exact hend _ _ _ dX4_countAhead_40 rfl hf
      · replace hf := pq_ifn h1 hf
        refine lv_aload_n hx hb dX4_countAhead_10 rfl (lv_at hl 0 rfl) ?_
        refine pq_get S hK hP inX4 0 rfl rfl 5 (by decide) fl_X4_27 rfl (v := .ref (a 6)) rfl dX4_countAhead_11 ?_
        refine lv_iload_n hx hb dX4_countAhead_14 rfl (lv_at hl 3 rfl) ?_
        refine pq_at S vn_X4_38 hK hP 6 rfl (by decide) hl.1 (Nat.le_of_ble_eq_true rfl) dX4_countAhead_15 (by decide) ⟨Nat.le_refl _, Nat.le_refl _⟩ ?_
        refine lv_if_le (tgt := 33) hx hb dX4_countAhead_18 (by decide) (fun h2 => ?_) (fun h2 => ?_)
        · replace hf := pq_ifp h2 hf
          refine lv_iinc (v := (v3 + 1)) (lv' := [(3, .int (v3 + 1)), (0, .ref (a 0)), (1, .int v1), (2, .int v2)]) hx hb dX4_countAhead_33 hl (k := 3) rfl rfl (by decide) rfl (fun ls hl => ?_)
          refine lv_goto (tgt := 4) hx hb dX4_countAhead_36 (by decide) ?_
          exact ih4 v1 v2 (v3 + 1) ls (lv_sub hl [1, 2, 3, 0] rfl) hf
        · replace hf := pq_ifn h2 hf
          refine lv_aload_n hx hb dX4_countAhead_21 rfl (lv_at hl 0 rfl) ?_
          refine lv_iload_n hx hb dX4_countAhead_22 rfl (lv_at hl 3 rfl) ?_
          refine lv_iload_n hx hb dX4_countAhead_23 rfl (lv_at hl 1 rfl) ?_
          obtain ⟨q4, e3, hf⟩ := pq_bind hf
          refine pq_cV S (c_X4_belongsAbove l g a T v3 v1 q4 e3) vv_X4_54 hK hP rfl rfl rfl rfl rfl hl.1 (Nat.le_of_ble_eq_true rfl) dX4_countAhead_24 (by decide) (by decide) ⟨Nat.le_refl _, Nat.le_refl _⟩ ?_
          refine lv_if_eq (tgt := 33) hx hb dX4_countAhead_27 (by decide) (fun h5 => ?_) (fun h5 => ?_)
          · replace hf := pq_ifp h5 hf
            refine lv_iinc (v := (v3 + 1)) (lv' := [(3, .int (v3 + 1)), (0, .ref (a 0)), (1, .int v1), (2, .int v2)]) hx hb dX4_countAhead_33 hl (k := 3) rfl rfl (by decide) rfl (fun ls hl => ?_)
            refine lv_goto (tgt := 4) hx hb dX4_countAhead_36 (by decide) ?_
            exact ih4 v1 v2 (v3 + 1) ls (lv_sub hl [1, 2, 3, 0] rfl) hf
          · replace hf := pq_ifn h5 hf
            refine lv_iinc (v := (v2 + 1)) (lv' := [(2, .int (v2 + 1)), (0, .ref (a 0)), (1, .int v1), (3, .int v3)]) hx hb dX4_countAhead_30 hl (k := 2) rfl rfl (by decide) rfl (fun ls hl => ?_)
            refine lv_iinc (v := (v3 + 1)) (lv' := [(3, .int (v3 + 1)), (2, .int (v2 + 1)), (0, .ref (a 0)), (1, .int v1)]) hx hb dX4_countAhead_33 hl (k := 3) rfl rfl (by decide) rfl (fun ls hl => ?_)
            refine lv_goto (tgt := 4) hx hb dX4_countAhead_36 (by decide) ?_
            exact ih4 v1 (v2 + 1) (v3 + 1) ls (lv_sub hl [2, 3, 1, 0] rfl) hf
  refine lv_iconst (v := 0) hx hb dX4_countAhead_0 (by decide) ?_
  refine lv_istore_n (lv' := [(2, .int 0), (0, .ref (a 0)), (1, .int p1)]) hx hb dX4_countAhead_1 rfl hl (by decide) rfl (fun ls hl => ?_)
  refine lv_iconst (v := 1) hx hb dX4_countAhead_2 (by decide) ?_
  refine lv_istore_n (lv' := [(3, .int 1), (2, .int 0), (0, .ref (a 0)), (1, .int p1)]) hx hb dX4_countAhead_3 rfl hl (by decide) rfl (fun ls hl => ?_)
  exact B4 200 p1 0 1 ls (lv_sub hl [2, 3, 1, 0] rfl) hf
def f_X4_slotByPriority_c2 : Nat → TreeS → Int32 → Int32 → Option (Int32)
  | 0, _, _, _ => none
  | n + 1, T, v1, v2 =>
    if 24 < v2 then
      some 0
    else
      if (pq_rd 25 T.2.2.2.2.2.1 v2) ≤ 0 then
        f_X4_slotByPriority_c2 n T v1 (v2 + 1)
      else
        (f_X4_countAhead T v2).bind fun q4 =>
        if q4 = v1 then
          some v2
        else
          f_X4_slotByPriority_c2 n T v1 (v2 + 1)
def f_X4_slotByPriority (T : TreeS) (p1 : Int32) : Option (Int32) :=
    f_X4_slotByPriority_c2 200 T p1 1
set_option maxHeartbeats 4000000 in
set_option maxRecDepth 100000 in
theorem c_X4_slotByPriority (l : Launch) (g : pq_g) (a : Nat → Nat) (T : TreeS) (p1 : Int32) (r : Int32) (hf : f_X4_slotByPriority T p1 = some r) : pq_R l yX4_slotByPriority cX4_slotByPriority 3 .int 4 g (treeW g a T) [.ref (a 0), .int p1] r := by
  rw [f_X4_slotByPriority] at hf
  refine pq_R.of (own := RX4) (by decide) rfl (Nat.le_of_ble_eq_true rfl) rfl ?_
  intro p e s m below meth c ls Q S hP hK hl hend
  obtain ⟨hx, hb, hml, hown, hts⟩ := id S
  have B2 : ∀ (n2 : Nat) (v1 : Int32) (v2 : Int32) (ls : Array Slot), lv_has ls 3 [(0, .ref (a 0)), (1, .int v1), (2, .int v2)] → f_X4_slotByPriority_c2 n2 T v1 v2 = some r → W p l e (pq_rm 4 0 0) s m ([.ref (a 0), .int p1] : List Value).toArray below meth c s.heap [] 0 0 Q (F0 m 2 ls []) := by
    intro n2
    induction n2 with
    | zero =>
      intro v1 v2 ls hl hf
      exact absurd hf (by simp [f_X4_slotByPriority_c2])
    | succ n2 ih2 =>
      intro v1 v2 ls hl hf
      rw [f_X4_slotByPriority_c2] at hf
      refine lv_iload_n hx hb dX4_slotByPriority_2 rfl (lv_at hl 2 rfl) ?_
      refine lv_bipush (v := 24) hx hb dX4_slotByPriority_3 (by decide) ?_
      refine lv_icmp_gt (tgt := 36) hx hb dX4_slotByPriority_5 (by decide) (fun h1 => ?_) (fun h1 => ?_)
      · replace hf := pq_ifp h1 hf
        refine lv_iconst (v := 0) hx hb dX4_slotByPriority_36 (by decide) ?_
        exact hend _ _ _ dX4_slotByPriority_37 rfl hf
      · replace hf := pq_ifn h1 hf
        refine lv_aload_n hx hb dX4_slotByPriority_8 rfl (lv_at hl 0 rfl) ?_
        refine pq_get S hK hP inX4 0 rfl rfl 5 (by decide) fl_X4_27 rfl (v := .ref (a 6)) rfl dX4_slotByPriority_9 ?_
        refine lv_iload_n hx hb dX4_slotByPriority_12 rfl (lv_at hl 2 rfl) ?_
        refine pq_at S vn_X4_38 hK hP 6 rfl (by decide) hl.1 (Nat.le_of_ble_eq_true rfl) dX4_slotByPriority_13 (by decide) ⟨Nat.le_refl _, Nat.le_refl _⟩ ?_
        refine lv_if_le (tgt := 30) hx hb dX4_slotByPriority_16 (by decide) (fun h2 => ?_) (fun h2 => ?_)
        · replace hf := pq_ifp h2 hf
          refine lv_iinc (v := (v2 + 1)) (lv' := [(2, .int (v2 + 1)), (0, .ref (a 0)), (1, .int v1)]) hx hb dX4_slotByPriority_30 hl (k := 2) rfl rfl (by decide) rfl (fun ls hl => ?_)
          refine lv_goto (tgt := 2) hx hb dX4_slotByPriority_33 (by decide) ?_
          exact ih2 v1 (v2 + 1) ls (lv_sub hl [1, 2, 0] rfl) hf
        · replace hf := pq_ifn h2 hf
          refine lv_aload_n hx hb dX4_slotByPriority_19 rfl (lv_at hl 0 rfl) ?_
          refine lv_iload_n hx hb dX4_slotByPriority_20 rfl (lv_at hl 2 rfl) ?_
          obtain ⟨q4, e3, hf⟩ := pq_bind hf
          refine pq_cV S (c_X4_countAhead l g a T v2 q4 e3) vv_X4_102 hK hP rfl rfl rfl rfl rfl hl.1 (Nat.le_of_ble_eq_true rfl) dX4_slotByPriority_21 (by decide) (by decide) ⟨Nat.le_refl _, Nat.le_refl _⟩ ?_
          refine lv_iload_n hx hb dX4_slotByPriority_24 rfl (lv_at hl 1 rfl) ?_
          refine lv_icmp_ne (tgt := 30) hx hb dX4_slotByPriority_25 (by decide) (fun h5 => ?_) (fun h5 => ?_)
          · replace hf := pq_ifn h5 hf
            refine lv_iinc (v := (v2 + 1)) (lv' := [(2, .int (v2 + 1)), (0, .ref (a 0)), (1, .int v1)]) hx hb dX4_slotByPriority_30 hl (k := 2) rfl rfl (by decide) rfl (fun ls hl => ?_)
            refine lv_goto (tgt := 2) hx hb dX4_slotByPriority_33 (by decide) ?_
            exact ih2 v1 (v2 + 1) ls (lv_sub hl [1, 2, 0] rfl) hf
          · replace hf := pq_ifp h5 hf
            refine lv_iload_n hx hb dX4_slotByPriority_28 rfl (lv_at hl 2 rfl) ?_
            exact hend _ _ _ dX4_slotByPriority_29 rfl hf
  refine lv_iconst (v := 1) hx hb dX4_slotByPriority_0 (by decide) ?_
  refine lv_istore_n (lv' := [(2, .int 1), (0, .ref (a 0)), (1, .int p1)]) hx hb dX4_slotByPriority_1 rfl hl (by decide) rfl (fun ls hl => ?_)
  exact B2 200 p1 1 ls (lv_sub hl [1, 2, 0] rfl) hf
def f_X4_depthIn_c11 : Nat → TreeS → Int32 → Int32 → Option (Int32)
  | 0, _, _, _ => none
  | n + 1, T, v2, v3 =>
    if 24 ≤ v2 then
      some v2
    else
      if v3 = 0 then
        some v2
      else
        f_X4_depthIn_c11 n T (v2 + 1) (pq_rd 25 T.2.2.1 v3)
def f_X4_depthIn (T : TreeS) (p1 : Int32) : Option (Int32) :=
    f_X4_depthIn_c11 200 T 0 (pq_rd 25 T.2.2.1 p1)
set_option maxHeartbeats 4000000 in
set_option maxRecDepth 100000 in
theorem c_X4_depthIn (l : Launch) (g : pq_g) (a : Nat → Nat) (T : TreeS) (p1 : Int32) (r : Int32) (hf : f_X4_depthIn T p1 = some r) : pq_R l yX4_depthIn cX4_depthIn 4 .int 2 g (treeW g a T) [.ref (a 0), .int p1] r := by
  rw [f_X4_depthIn] at hf
  refine pq_R.of (own := RX4) (by decide) rfl (Nat.le_of_ble_eq_true rfl) rfl ?_
  intro p e s m below meth c ls Q S hP hK hl hend
  obtain ⟨hx, hb, hml, hown, hts⟩ := id S
  have B11 : ∀ (n11 : Nat) (v2 : Int32) (v3 : Int32) (ls : Array Slot), lv_has ls 4 [(0, .ref (a 0)), (2, .int v2), (3, .int v3)] → f_X4_depthIn_c11 n11 T v2 v3 = some r → W p l e (pq_rm 2 0 0) s m ([.ref (a 0), .int p1] : List Value).toArray below meth c s.heap [] 0 0 Q (F0 m 11 ls []) := by
    intro n11
    induction n11 with
    | zero =>
      intro v2 v3 ls hl hf
      exact absurd hf (by simp [f_X4_depthIn_c11])
    | succ n11 ih11 =>
      intro v2 v3 ls hl hf
      rw [f_X4_depthIn_c11] at hf
      refine lv_iload_n hx hb dX4_depthIn_11 rfl (lv_at hl 1 rfl) ?_
      refine lv_bipush (v := 24) hx hb dX4_depthIn_12 (by decide) ?_
      refine lv_icmp_ge (tgt := 36) hx hb dX4_depthIn_14 (by decide) (fun h1 => ?_) (fun h1 => ?_)
      · replace hf := pq_ifp h1 hf
        refine lv_iload_n hx hb dX4_depthIn_36 rfl (lv_at hl 1 rfl) ?_
        exact hend _ _ _ dX4_depthIn_37 rfl hf
      · replace hf := pq_ifn h1 hf
        refine lv_iload_n hx hb dX4_depthIn_17 rfl (lv_at hl 2 rfl) ?_
        refine lv_if_eq (tgt := 36) hx hb dX4_depthIn_18 (by decide) (fun h2 => ?_) (fun h2 => ?_)
        · replace hf := pq_ifp h2 hf
          refine lv_iload_n hx hb dX4_depthIn_36 rfl (lv_at hl 1 rfl) ?_
          exact hend _ _ _ dX4_depthIn_37 rfl hf
        · replace hf := pq_ifn h2 hf
          refine lv_iinc (v := (v2 + 1)) (lv' := [(2, .int (v2 + 1)), (0, .ref (a 0)), (3, .int v3)]) hx hb dX4_depthIn_21 hl (k := 1) rfl rfl (by decide) rfl (fun ls hl => ?_)
          refine lv_aload_n hx hb dX4_depthIn_24 rfl (lv_at hl 1 rfl) ?_
          refine pq_get S hK hP inX4 0 rfl rfl 2 (by decide) fl_X4_18 rfl (v := .ref (a 3)) rfl dX4_depthIn_25 ?_
          refine lv_iload_n hx hb dX4_depthIn_28 rfl (lv_at hl 2 rfl) ?_
          refine pq_at S vn_X4_38 hK hP 3 rfl (by decide) hl.1 (Nat.le_of_ble_eq_true rfl) dX4_depthIn_29 (by decide) ⟨Nat.le_refl _, Nat.le_refl _⟩ ?_
          refine lv_istore_n (lv' := [(3, .int (pq_rd 25 T.2.2.1 v3)), (2, .int (v2 + 1)), (0, .ref (a 0))]) hx hb dX4_depthIn_32 rfl hl (by decide) rfl (fun ls hl => ?_)
          refine lv_goto (tgt := 11) hx hb dX4_depthIn_33 (by decide) ?_
          exact ih11 (v2 + 1) (pq_rd 25 T.2.2.1 v3) ls (lv_sub hl [2, 1, 0] rfl) hf
  refine lv_iconst (v := 0) hx hb dX4_depthIn_0 (by decide) ?_
  refine lv_istore_n (lv' := [(2, .int 0), (0, .ref (a 0)), (1, .int p1)]) hx hb dX4_depthIn_1 rfl hl (by decide) rfl (fun ls hl => ?_)
  refine lv_aload_n hx hb dX4_depthIn_2 rfl (lv_at hl 1 rfl) ?_
  refine pq_get S hK hP inX4 0 rfl rfl 2 (by decide) fl_X4_18 rfl (v := .ref (a 3)) rfl dX4_depthIn_3 ?_
  refine lv_iload_n hx hb dX4_depthIn_6 rfl (lv_at hl 2 rfl) ?_
  refine pq_at S vn_X4_38 hK hP 3 rfl (by decide) hl.1 (Nat.le_of_ble_eq_true rfl) dX4_depthIn_7 (by decide) ⟨Nat.le_refl _, Nat.le_refl _⟩ ?_
  refine lv_istore_n (lv' := [(3, .int (pq_rd 25 T.2.2.1 p1)), (2, .int 0), (0, .ref (a 0)), (1, .int p1)]) hx hb dX4_depthIn_10 rfl hl (by decide) rfl (fun ls hl => ?_)
  exact B11 200 0 (pq_rd 25 T.2.2.1 p1) ls (lv_sub hl [2, 1, 0] rfl) hf
def f_X4_greatestDepth_c4 : Nat → TreeS → Int32 → Int32 → Option (Int32)
  | 0, _, _, _ => none
  | n + 1, T, v1, v2 =>
    if 24 < v2 then
      some v1
    else
      if (pq_rd 25 T.2.2.2.2.2.1 v2) ≤ 0 then
        f_X4_greatestDepth_c4 n T v1 (v2 + 1)
      else
        (f_X4_depthIn T v2).bind fun q4 =>
        f_X4_greatestDepth_c4 n T (if v1 < q4 then q4 else v1) (v2 + 1)
def f_X4_greatestDepth (T : TreeS) : Option (Int32) :=
    f_X4_greatestDepth_c4 200 T (-1) 1
set_option maxHeartbeats 4000000 in
set_option maxRecDepth 100000 in
theorem c_X4_greatestDepth (l : Launch) (g : pq_g) (a : Nat → Nat) (T : TreeS) (r : Int32) (hf : f_X4_greatestDepth T = some r) : pq_R l yX4_greatestDepth cX4_greatestDepth 3 .int 3 g (treeW g a T) [.ref (a 0)] r := by
  rw [f_X4_greatestDepth] at hf
  refine pq_R.of (own := RX4) (by decide) rfl (Nat.le_of_ble_eq_true rfl) rfl ?_
  intro p e s m below meth c ls Q S hP hK hl hend
  obtain ⟨hx, hb, hml, hown, hts⟩ := id S
  have B4 : ∀ (n4 : Nat) (v1 : Int32) (v2 : Int32) (ls : Array Slot), lv_has ls 3 [(0, .ref (a 0)), (1, .int v1), (2, .int v2)] → f_X4_greatestDepth_c4 n4 T v1 v2 = some r → W p l e (pq_rm 3 0 0) s m ([.ref (a 0)] : List Value).toArray below meth c s.heap [] 0 0 Q (F0 m 4 ls []) := by
    intro n4
    induction n4 with
    | zero =>
      intro v1 v2 ls hl hf
      exact absurd hf (by simp [f_X4_greatestDepth_c4])
    | succ n4 ih4 =>
      intro v1 v2 ls hl hf
      rw [f_X4_greatestDepth_c4] at hf
      refine lv_iload_n hx hb dX4_greatestDepth_4 rfl (lv_at hl 2 rfl) ?_
      refine lv_bipush (v := 24) hx hb dX4_greatestDepth_5 (by decide) ?_
      refine lv_icmp_gt (tgt := 37) hx hb dX4_greatestDepth_7 (by decide) (fun h1 => ?_) (fun h1 => ?_)
      · replace hf := pq_ifp h1 hf
        refine lv_iload_n hx hb dX4_greatestDepth_37 rfl (lv_at hl 1 rfl) ?_
        exact hend _ _ _ dX4_greatestDepth_38 rfl hf
      · replace hf := pq_ifn h1 hf
        refine lv_aload_n hx hb dX4_greatestDepth_10 rfl (lv_at hl 0 rfl) ?_
        refine pq_get S hK hP inX4 0 rfl rfl 5 (by decide) fl_X4_27 rfl (v := .ref (a 6)) rfl dX4_greatestDepth_11 ?_
        refine lv_iload_n hx hb dX4_greatestDepth_14 rfl (lv_at hl 2 rfl) ?_
        refine pq_at S vn_X4_38 hK hP 6 rfl (by decide) hl.1 (Nat.le_of_ble_eq_true rfl) dX4_greatestDepth_15 (by decide) ⟨Nat.le_refl _, Nat.le_refl _⟩ ?_
        refine lv_if_le (tgt := 31) hx hb dX4_greatestDepth_18 (by decide) (fun h2 => ?_) (fun h2 => ?_)
        · replace hf := pq_ifp h2 hf
          refine lv_iinc (v := (v2 + 1)) (lv' := [(2, .int (v2 + 1)), (0, .ref (a 0)), (1, .int v1)]) hx hb dX4_greatestDepth_31 hl (k := 2) rfl rfl (by decide) rfl (fun ls hl => ?_)
          refine lv_goto (tgt := 4) hx hb dX4_greatestDepth_34 (by decide) ?_
          exact ih4 v1 (v2 + 1) ls (lv_sub hl [1, 2, 0] rfl) hf
        · replace hf := pq_ifn h2 hf
          refine lv_iload_n hx hb dX4_greatestDepth_21 rfl (lv_at hl 1 rfl) ?_
          refine lv_aload_n hx hb dX4_greatestDepth_22 rfl (lv_at hl 0 rfl) ?_
          refine lv_iload_n hx hb dX4_greatestDepth_23 rfl (lv_at hl 2 rfl) ?_
          obtain ⟨q4, e3, hf⟩ := pq_bind hf
          refine pq_cV S (c_X4_depthIn l g a T v2 q4 e3) vv_X4_105 hK hP rfl rfl rfl rfl rfl hl.1 (Nat.le_of_ble_eq_true rfl) dX4_greatestDepth_24 (by decide) (by decide) ⟨Nat.le_refl _, Nat.le_refl _⟩ ?_
          refine pq_max S vm_X4_108 hl.1 (Nat.le_of_ble_eq_true rfl) dX4_greatestDepth_27 (by decide) ⟨Nat.le_refl _, Nat.le_refl _⟩ ?_
          refine lv_istore_n (lv' := [(1, .int (if v1 < q4 then q4 else v1)), (0, .ref (a 0)), (2, .int v2)]) hx hb dX4_greatestDepth_30 rfl hl (by decide) rfl (fun ls hl => ?_)
          refine lv_iinc (v := (v2 + 1)) (lv' := [(2, .int (v2 + 1)), (1, .int (if v1 < q4 then q4 else v1)), (0, .ref (a 0))]) hx hb dX4_greatestDepth_31 hl (k := 2) rfl rfl (by decide) rfl (fun ls hl => ?_)
          refine lv_goto (tgt := 4) hx hb dX4_greatestDepth_34 (by decide) ?_
          exact ih4 (if v1 < q4 then q4 else v1) (v2 + 1) ls (lv_sub hl [2, 1, 0] rfl) hf
  refine lv_iconst (v := (-1)) hx hb dX4_greatestDepth_0 (by decide) ?_
  refine lv_istore_n (lv' := [(1, .int (-1)), (0, .ref (a 0))]) hx hb dX4_greatestDepth_1 rfl hl (by decide) rfl (fun ls hl => ?_)
  refine lv_iconst (v := 1) hx hb dX4_greatestDepth_2 (by decide) ?_
  refine lv_istore_n (lv' := [(2, .int 1), (1, .int (-1)), (0, .ref (a 0))]) hx hb dX4_greatestDepth_3 rfl hl (by decide) rfl (fun ls hl => ?_)
  exact B4 200 (-1) 1 ls (lv_sub hl [2, 1, 0] rfl) hf
def f_X4_sumOfDepths_c4 : Nat → TreeS → Int32 → Int32 → Option (Int32)
  | 0, _, _, _ => none
  | n + 1, T, v1, v2 =>
    if 24 < v2 then
      some v1
    else
      if (pq_rd 25 T.2.2.2.2.2.1 v2) ≤ 0 then
        f_X4_sumOfDepths_c4 n T v1 (v2 + 1)
      else
        (f_X4_depthIn T v2).bind fun q4 =>
        f_X4_sumOfDepths_c4 n T (v1 + q4) (v2 + 1)
def f_X4_sumOfDepths (T : TreeS) : Option (Int32) :=
    f_X4_sumOfDepths_c4 200 T 0 1
set_option maxHeartbeats 4000000 in
set_option maxRecDepth 100000 in
theorem c_X4_sumOfDepths (l : Launch) (g : pq_g) (a : Nat → Nat) (T : TreeS) (r : Int32) (hf : f_X4_sumOfDepths T = some r) : pq_R l yX4_sumOfDepths cX4_sumOfDepths 3 .int 3 g (treeW g a T) [.ref (a 0)] r := by
  rw [f_X4_sumOfDepths] at hf
  refine pq_R.of (own := RX4) (by decide) rfl (Nat.le_of_ble_eq_true rfl) rfl ?_
  intro p e s m below meth c ls Q S hP hK hl hend
  obtain ⟨hx, hb, hml, hown, hts⟩ := id S
  have B4 : ∀ (n4 : Nat) (v1 : Int32) (v2 : Int32) (ls : Array Slot), lv_has ls 3 [(0, .ref (a 0)), (1, .int v1), (2, .int v2)] → f_X4_sumOfDepths_c4 n4 T v1 v2 = some r → W p l e (pq_rm 3 0 0) s m ([.ref (a 0)] : List Value).toArray below meth c s.heap [] 0 0 Q (F0 m 4 ls []) := by
    intro n4
    induction n4 with
    | zero =>
      intro v1 v2 ls hl hf
      exact absurd hf (by simp [f_X4_sumOfDepths_c4])
    | succ n4 ih4 =>
      intro v1 v2 ls hl hf
      rw [f_X4_sumOfDepths_c4] at hf
      refine lv_iload_n hx hb dX4_sumOfDepths_4 rfl (lv_at hl 2 rfl) ?_
      refine lv_bipush (v := 24) hx hb dX4_sumOfDepths_5 (by decide) ?_
      refine lv_icmp_gt (tgt := 35) hx hb dX4_sumOfDepths_7 (by decide) (fun h1 => ?_) (fun h1 => ?_)
      · replace hf := pq_ifp h1 hf
        refine lv_iload_n hx hb dX4_sumOfDepths_35 rfl (lv_at hl 1 rfl) ?_
        exact hend _ _ _ dX4_sumOfDepths_36 rfl hf
      · replace hf := pq_ifn h1 hf
        refine lv_aload_n hx hb dX4_sumOfDepths_10 rfl (lv_at hl 0 rfl) ?_
        refine pq_get S hK hP inX4 0 rfl rfl 5 (by decide) fl_X4_27 rfl (v := .ref (a 6)) rfl dX4_sumOfDepths_11 ?_
        refine lv_iload_n hx hb dX4_sumOfDepths_14 rfl (lv_at hl 2 rfl) ?_
        refine pq_at S vn_X4_38 hK hP 6 rfl (by decide) hl.1 (Nat.le_of_ble_eq_true rfl) dX4_sumOfDepths_15 (by decide) ⟨Nat.le_refl _, Nat.le_refl _⟩ ?_
        refine lv_if_le (tgt := 29) hx hb dX4_sumOfDepths_18 (by decide) (fun h2 => ?_) (fun h2 => ?_)
        · replace hf := pq_ifp h2 hf
          refine lv_iinc (v := (v2 + 1)) (lv' := [(2, .int (v2 + 1)), (0, .ref (a 0)), (1, .int v1)]) hx hb dX4_sumOfDepths_29 hl (k := 2) rfl rfl (by decide) rfl (fun ls hl => ?_)
          refine lv_goto (tgt := 4) hx hb dX4_sumOfDepths_32 (by decide) ?_
          exact ih4 v1 (v2 + 1) ls (lv_sub hl [1, 2, 0] rfl) hf
        · replace hf := pq_ifn h2 hf
          refine lv_iload_n hx hb dX4_sumOfDepths_21 rfl (lv_at hl 1 rfl) ?_
          refine lv_aload_n hx hb dX4_sumOfDepths_22 rfl (lv_at hl 0 rfl) ?_
          refine lv_iload_n hx hb dX4_sumOfDepths_23 rfl (lv_at hl 2 rfl) ?_
          obtain ⟨q4, e3, hf⟩ := pq_bind hf
          refine pq_cV S (c_X4_depthIn l g a T v2 q4 e3) vv_X4_105 hK hP rfl rfl rfl rfl rfl hl.1 (Nat.le_of_ble_eq_true rfl) dX4_sumOfDepths_24 (by decide) (by decide) ⟨Nat.le_refl _, Nat.le_refl _⟩ ?_
          refine lv_iadd hx hb dX4_sumOfDepths_27 ?_
          refine lv_istore_n (lv' := [(1, .int (v1 + q4)), (0, .ref (a 0)), (2, .int v2)]) hx hb dX4_sumOfDepths_28 rfl hl (by decide) rfl (fun ls hl => ?_)
          refine lv_iinc (v := (v2 + 1)) (lv' := [(2, .int (v2 + 1)), (1, .int (v1 + q4)), (0, .ref (a 0))]) hx hb dX4_sumOfDepths_29 hl (k := 2) rfl rfl (by decide) rfl (fun ls hl => ?_)
          refine lv_goto (tgt := 4) hx hb dX4_sumOfDepths_32 (by decide) ?_
          exact ih4 (v1 + q4) (v2 + 1) ls (lv_sub hl [2, 1, 0] rfl) hf
  refine lv_iconst (v := 0) hx hb dX4_sumOfDepths_0 (by decide) ?_
  refine lv_istore_n (lv' := [(1, .int 0), (0, .ref (a 0))]) hx hb dX4_sumOfDepths_1 rfl hl (by decide) rfl (fun ls hl => ?_)
  refine lv_iconst (v := 1) hx hb dX4_sumOfDepths_2 (by decide) ?_
  refine lv_istore_n (lv' := [(2, .int 1), (1, .int 0), (0, .ref (a 0))]) hx hb dX4_sumOfDepths_3 rfl hl (by decide) rfl (fun ls hl => ?_)
  exact B4 200 0 1 ls (lv_sub hl [2, 1, 0] rfl) hf
def f_X4_countLeaves_c4 : Nat → TreeS → Int32 → Int32 → Option (Int32)
  | 0, _, _, _ => none
  | n + 1, T, v1, v2 =>
    if 24 < v2 then
      some v1
    else
      if (pq_rd 25 T.2.2.2.2.2.1 v2) = 1 then
        f_X4_countLeaves_c4 n T (v1 + 1) (v2 + 1)
      else
        f_X4_countLeaves_c4 n T v1 (v2 + 1)
def f_X4_countLeaves (T : TreeS) : Option (Int32) :=
    f_X4_countLeaves_c4 200 T 0 1
set_option maxHeartbeats 4000000 in
set_option maxRecDepth 100000 in
theorem c_X4_countLeaves (l : Launch) (g : pq_g) (a : Nat → Nat) (T : TreeS) (r : Int32) (hf : f_X4_countLeaves T = some r) : pq_R l yX4_countLeaves cX4_countLeaves 3 .int 2 g (treeW g a T) [.ref (a 0)] r := by
  rw [f_X4_countLeaves] at hf
  refine pq_R.of (own := RX4) (by decide) rfl (Nat.le_of_ble_eq_true rfl) rfl ?_
  intro p e s m below meth c ls Q S hP hK hl hend
  obtain ⟨hx, hb, hml, hown, hts⟩ := id S
  have B4 : ∀ (n4 : Nat) (v1 : Int32) (v2 : Int32) (ls : Array Slot), lv_has ls 3 [(0, .ref (a 0)), (1, .int v1), (2, .int v2)] → f_X4_countLeaves_c4 n4 T v1 v2 = some r → W p l e (pq_rm 2 0 0) s m ([.ref (a 0)] : List Value).toArray below meth c s.heap [] 0 0 Q (F0 m 4 ls []) := by
    intro n4
    induction n4 with
    | zero =>
      intro v1 v2 ls hl hf
      exact absurd hf (by simp [f_X4_countLeaves_c4])
    | succ n4 ih4 =>
      intro v1 v2 ls hl hf
      rw [f_X4_countLeaves_c4] at hf
      refine lv_iload_n hx hb dX4_countLeaves_4 rfl (lv_at hl 2 rfl) ?_
      refine lv_bipush (v := 24) hx hb dX4_countLeaves_5 (by decide) ?_
      refine lv_icmp_gt (tgt := 31) hx hb dX4_countLeaves_7 (by decide) (fun h1 => ?_) (fun h1 => ?_)
      · replace hf := pq_ifp h1 hf
        refine lv_iload_n hx hb dX4_countLeaves_31 rfl (lv_at hl 1 rfl) ?_
        exact hend _ _ _ dX4_countLeaves_32 rfl hf
      · replace hf := pq_ifn h1 hf
        refine lv_aload_n hx hb dX4_countLeaves_10 rfl (lv_at hl 0 rfl) ?_
        refine pq_get S hK hP inX4 0 rfl rfl 5 (by decide) fl_X4_27 rfl (v := .ref (a 6)) rfl dX4_countLeaves_11 ?_
        refine lv_iload_n hx hb dX4_countLeaves_14 rfl (lv_at hl 2 rfl) ?_
        refine pq_at S vn_X4_38 hK hP 6 rfl (by decide) hl.1 (Nat.le_of_ble_eq_true rfl) dX4_countLeaves_15 (by decide) ⟨Nat.le_refl _, Nat.le_refl _⟩ ?_
        refine lv_iconst (v := 1) hx hb dX4_countLeaves_18 (by decide) ?_
        refine lv_icmp_ne (tgt := 25) hx hb dX4_countLeaves_19 (by decide) (fun h2 => ?_) (fun h2 => ?_)
        · replace hf := pq_ifn h2 hf
          refine lv_iinc (v := (v2 + 1)) (lv' := [(2, .int (v2 + 1)), (0, .ref (a 0)), (1, .int v1)]) hx hb dX4_countLeaves_25 hl (k := 2) rfl rfl (by decide) rfl (fun ls hl => ?_)
          refine lv_goto (tgt := 4) hx hb dX4_countLeaves_28 (by decide) ?_
          exact ih4 v1 (v2 + 1) ls (lv_sub hl [1, 2, 0] rfl) hf
        · replace hf := pq_ifp h2 hf
          refine lv_iinc (v := (v1 + 1)) (lv' := [(1, .int (v1 + 1)), (0, .ref (a 0)), (2, .int v2)]) hx hb dX4_countLeaves_22 hl (k := 1) rfl rfl (by decide) rfl (fun ls hl => ?_)
          refine lv_iinc (v := (v2 + 1)) (lv' := [(2, .int (v2 + 1)), (1, .int (v1 + 1)), (0, .ref (a 0))]) hx hb dX4_countLeaves_25 hl (k := 2) rfl rfl (by decide) rfl (fun ls hl => ?_)
          refine lv_goto (tgt := 4) hx hb dX4_countLeaves_28 (by decide) ?_
          exact ih4 (v1 + 1) (v2 + 1) ls (lv_sub hl [2, 1, 0] rfl) hf
  refine lv_iconst (v := 0) hx hb dX4_countLeaves_0 (by decide) ?_
  refine lv_istore_n (lv' := [(1, .int 0), (0, .ref (a 0))]) hx hb dX4_countLeaves_1 rfl hl (by decide) rfl (fun ls hl => ?_)
  refine lv_iconst (v := 1) hx hb dX4_countLeaves_2 (by decide) ?_
  refine lv_istore_n (lv' := [(2, .int 1), (1, .int 0), (0, .ref (a 0))]) hx hb dX4_countLeaves_3 rfl hl (by decide) rfl (fun ls hl => ?_)
  exact B4 200 0 1 ls (lv_sub hl [2, 1, 0] rfl) hf
def f_X4_isSoundFrom_c84 (fr : TreeS → Int32 → Int32 → Int32 → Int32 → Option (Int32)) (T : TreeS) (v1 : Int32) (v2 : Int32) (v3 : Int32) (v4 : Int32) (v5 : Int32) (v6 : Int32) (v7 : Int32) : Option (Int32) :=
    (f_X4_countIn T v1).bind fun q2 =>
    (f_X4_countIn T v6).bind fun q4 =>
    (f_X4_countIn T v7).bind fun q6 =>
    if q2 = ((1 + q4) + q6) then
      (fr T v6 v2 v5 (v4 + 1)).bind fun q9 =>
      if q9 = 0 then
        some 0
      else
        (fr T v7 v5 v3 (v4 + 1)).bind fun q12 =>
        if q12 = 0 then
          some 0
        else
          some 1
    else
      some 0
def f_X4_isSoundFrom_c67 (fr : TreeS → Int32 → Int32 → Int32 → Int32 → Option (Int32)) (T : TreeS) (v1 : Int32) (v2 : Int32) (v3 : Int32) (v4 : Int32) (v5 : Int32) (v6 : Int32) (v7 : Int32) : Option (Int32) :=
    if v7 = 0 then
      f_X4_isSoundFrom_c84 fr T v1 v2 v3 v4 v5 v6 v7
    else
      (f_X4_belongsAbove T v7 v1).bind fun q16 =>
      if q16 = 0 then
        f_X4_isSoundFrom_c84 fr T v1 v2 v3 v4 v5 v6 v7
      else
        some 0
def f_X4_isSoundFrom : Nat → TreeS → Int32 → Int32 → Int32 → Int32 → Option (Int32)
  | 0, _, _, _, _, _ => none
  | d + 1, T, p2, p3, p4, p5 =>
    if p2 = 0 then
      some 1
    else
      (f_X4_keyIn T p2).bind fun q20 =>
      (f_X4_leftIn T p2).bind fun q22 =>
      (f_X4_rightIn T p2).bind fun q24 =>
      if 24 ≤ p5 then
        some 0
      else
        if q20 ≤ p3 then
          some 0
        else
          if q20 < p4 then
            if q22 = 0 then
              f_X4_isSoundFrom_c67 (f_X4_isSoundFrom d) T p2 p3 p4 p5 q20 q22 q24
            else
              (f_X4_belongsAbove T q22 p2).bind fun q30 =>
              if q30 = 0 then
                f_X4_isSoundFrom_c67 (f_X4_isSoundFrom d) T p2 p3 p4 p5 q20 q22 q24
              else
                some 0
          else
            some 0
set_option maxHeartbeats 4000000 in
set_option maxRecDepth 100000 in
theorem c_X4_isSoundFrom (l : Launch) (g : pq_g) (a : Nat → Nat) : ∀ (d : Nat) (T : TreeS) (p2 : Int32) (p3 : Int32) (p4 : Int32) (p5 : Int32) (r : Int32), f_X4_isSoundFrom d T p2 p3 p4 p5 = some r → pq_R l yX4_isSoundFrom cX4_isSoundFrom 8 .boolean (3 + d) g (treeW g a T) [.ref (a 0), .int p2, .int p3, .int p4, .int p5] r := by
  intro d
  induction d with
  | zero =>
    intro T p2 p3 p4 p5 r hf
    exact absurd hf (by simp [f_X4_isSoundFrom])
  | succ d ihd =>
    intro T p2 p3 p4 p5 r hf
    rw [f_X4_isSoundFrom] at hf
    refine pq_R.of (own := RX4) (by decide) rfl (Nat.le_of_ble_eq_true rfl) rfl ?_
    intro p e s m below meth c ls Q S hP hK hl hend
    obtain ⟨hx, hb, hml, hown, hts⟩ := id S
    have B84 : ∀ (v1 : Int32) (v2 : Int32) (v3 : Int32) (v4 : Int32) (v5 : Int32) (v6 : Int32) (v7 : Int32) (ls : Array Slot), lv_has ls 8 [(0, .ref (a 0)), (1, .int v1), (2, .int v2), (3, .int v3), (4, .int v4), (5, .int v5), (6, .int v6), (7, .int v7)] → f_X4_isSoundFrom_c84 (f_X4_isSoundFrom d) T v1 v2 v3 v4 v5 v6 v7 = some r → W p l e (pq_rm (3 + (d + 1)) 0 0) s m ([.ref (a 0), .int p2, .int p3, .int p4, .int p5] : List Value).toArray below meth c s.heap [] 0 0 Q (F0 m 84 ls []) := by
      intro v1 v2 v3 v4 v5 v6 v7 ls hl hf
      rw [f_X4_isSoundFrom_c84] at hf
      refine lv_aload_n hx hb dX4_isSoundFrom_84 rfl (lv_at hl 0 rfl) ?_
      refine lv_iload_n hx hb dX4_isSoundFrom_85 rfl (lv_at hl 1 rfl) ?_
      obtain ⟨q2, e1, hf⟩ := pq_bind hf
      refine pq_cV S (c_X4_countIn l g a T v1 q2 e1) vv_X4_118 hK hP rfl rfl rfl rfl rfl hl.1 (Nat.le_of_ble_eq_true rfl) dX4_isSoundFrom_86 (by omega) (by decide) ⟨Nat.le_refl _, Nat.le_refl _⟩ ?_
      refine lv_iconst (v := 1) hx hb dX4_isSoundFrom_89 (by decide) ?_
      refine lv_aload_n hx hb dX4_isSoundFrom_90 rfl (lv_at hl 0 rfl) ?_
      refine lv_iload hx hb dX4_isSoundFrom_91 (lv_at hl 6 rfl) ?_
      obtain ⟨q4, e3, hf⟩ := pq_bind hf
      refine pq_cV S (c_X4_countIn l g a T v6 q4 e3) vv_X4_118 hK hP rfl rfl rfl rfl rfl hl.1 (Nat.le_of_ble_eq_true rfl) dX4_isSoundFrom_93 (by omega) (by decide) ⟨Nat.le_refl _, Nat.le_refl _⟩ ?_
      refine lv_iadd hx hb dX4_isSoundFrom_96 ?_
      refine lv_aload_n hx hb dX4_isSoundFrom_97 rfl (lv_at hl 0 rfl) ?_
      refine lv_iload hx hb dX4_isSoundFrom_98 (lv_at hl 7 rfl) ?_
      obtain ⟨q6, e5, hf⟩ := pq_bind hf
      refine pq_cV S (c_X4_countIn l g a T v7 q6 e5) vv_X4_118 hK hP rfl rfl rfl rfl rfl hl.1 (Nat.le_of_ble_eq_true rfl) dX4_isSoundFrom_100 (by omega) (by decide) ⟨Nat.le_refl _, Nat.le_refl _⟩ ?_
      refine lv_iadd hx hb dX4_isSoundFrom_103 ?_
      refine lv_icmp_eq (tgt := 109) hx hb dX4_isSoundFrom_104 (by decide) (fun h7 => ?_) (fun h7 => ?_)
      · replace hf := pq_ifp h7 hf
        refine lv_aload_n hx hb dX4_isSoundFrom_109 rfl (lv_at hl 0 rfl) ?_
        refine lv_iload hx hb dX4_isSoundFrom_110 (lv_at hl 6 rfl) ?_
        refine lv_iload_n hx hb dX4_isSoundFrom_112 rfl (lv_at hl 2 rfl) ?_
        refine lv_iload hx hb dX4_isSoundFrom_113 (lv_at hl 5 rfl) ?_
        refine lv_iload hx hb dX4_isSoundFrom_115 (lv_at hl 4 rfl) ?_
        refine lv_iconst (v := 1) hx hb dX4_isSoundFrom_117 (by decide) ?_
        refine lv_iadd hx hb dX4_isSoundFrom_118 ?_
        obtain ⟨q9, e8, hf⟩ := pq_bind hf
        refine pq_cS S (ihd T v6 v2 v5 (v4 + 1) q9 e8) vs_X4_114 hK hP rfl rfl hl.1 (Nat.le_of_ble_eq_true rfl) dX4_isSoundFrom_119 (by omega) (by decide) ⟨Nat.le_refl _, Nat.le_refl _⟩ ?_
        refine lv_if_eq (tgt := 145) hx hb dX4_isSoundFrom_122 (by decide) (fun h10 => ?_) (fun h10 => ?_)
        · replace hf := pq_ifp h10 hf
          refine lv_iconst (v := 0) hx hb dX4_isSoundFrom_145 (by decide) ?_
          exact hend _ _ _ dX4_isSoundFrom_146 rfl hf
        · replace hf := pq_ifn h10 hf
          refine lv_aload_n hx hb dX4_isSoundFrom_125 rfl (lv_at hl 0 rfl) ?_
          refine lv_iload hx hb dX4_isSoundFrom_126 (lv_at hl 7 rfl) ?_
          refine lv_iload hx hb dX4_isSoundFrom_128 (lv_at hl 5 rfl) ?_
          refine lv_iload_n hx hb dX4_isSoundFrom_130 rfl (lv_at hl 3 rfl) ?_
          refine lv_iload hx hb dX4_isSoundFrom_131 (lv_at hl 4 rfl) ?_
          refine lv_iconst (v := 1) hx hb dX4_isSoundFrom_133 (by decide) ?_
          refine lv_iadd hx hb dX4_isSoundFrom_134 ?_
          obtain ⟨q12, e11, hf⟩ := pq_bind hf
          refine pq_cS S (ihd T v7 v5 v3 (v4 + 1) q12 e11) vs_X4_114 hK hP rfl rfl hl.1 (Nat.le_of_ble_eq_true rfl) dX4_isSoundFrom_135 (by omega) (by decide) ⟨Nat.le_refl _, Nat.le_refl _⟩ ?_
          refine lv_if_eq (tgt := 145) hx hb dX4_isSoundFrom_138 (by decide) (fun h13 => ?_) (fun h13 => ?_)
          · replace hf := pq_ifp h13 hf
            refine lv_iconst (v := 0) hx hb dX4_isSoundFrom_145 (by decide) ?_
            exact hend _ _ _ dX4_isSoundFrom_146 rfl hf
          · replace hf := pq_ifn h13 hf
            refine lv_iconst (v := 1) hx hb dX4_isSoundFrom_141 (by decide) ?_
            refine lv_goto (tgt := 146) hx hb dX4_isSoundFrom_142 (by decide) ?_
            exact hend _ _ _ dX4_isSoundFrom_146 rfl hf
      · replace hf := pq_ifn h7 hf
        refine lv_iconst (v := 0) hx hb dX4_isSoundFrom_107 (by decide) ?_
        exact hend _ _ _ dX4_isSoundFrom_108 rfl hf
    have B67 : ∀ (v1 : Int32) (v2 : Int32) (v3 : Int32) (v4 : Int32) (v5 : Int32) (v6 : Int32) (v7 : Int32) (ls : Array Slot), lv_has ls 8 [(0, .ref (a 0)), (1, .int v1), (2, .int v2), (3, .int v3), (4, .int v4), (5, .int v5), (6, .int v6), (7, .int v7)] → f_X4_isSoundFrom_c67 (f_X4_isSoundFrom d) T v1 v2 v3 v4 v5 v6 v7 = some r → W p l e (pq_rm (3 + (d + 1)) 0 0) s m ([.ref (a 0), .int p2, .int p3, .int p4, .int p5] : List Value).toArray below meth c s.heap [] 0 0 Q (F0 m 67 ls []) := by
      intro v1 v2 v3 v4 v5 v6 v7 ls hl hf
      rw [f_X4_isSoundFrom_c67] at hf
      refine lv_iload hx hb dX4_isSoundFrom_67 (lv_at hl 7 rfl) ?_
      refine lv_if_eq (tgt := 84) hx hb dX4_isSoundFrom_69 (by decide) (fun h14 => ?_) (fun h14 => ?_)
      · replace hf := pq_ifp h14 hf
        exact B84 v1 v2 v3 v4 v5 v6 v7 ls (lv_sub hl [0, 1, 2, 3, 4, 5, 6, 7] rfl) hf
      · replace hf := pq_ifn h14 hf
        refine lv_aload_n hx hb dX4_isSoundFrom_72 rfl (lv_at hl 0 rfl) ?_
        refine lv_iload hx hb dX4_isSoundFrom_73 (lv_at hl 7 rfl) ?_
        refine lv_iload_n hx hb dX4_isSoundFrom_75 rfl (lv_at hl 1 rfl) ?_
        obtain ⟨q16, e15, hf⟩ := pq_bind hf
        refine pq_cV S (c_X4_belongsAbove l g a T v7 v1 q16 e15) vv_X4_54 hK hP rfl rfl rfl rfl rfl hl.1 (Nat.le_of_ble_eq_true rfl) dX4_isSoundFrom_76 (by omega) (by decide) ⟨Nat.le_refl _, Nat.le_refl _⟩ ?_
        refine lv_if_eq (tgt := 84) hx hb dX4_isSoundFrom_79 (by decide) (fun h17 => ?_) (fun h17 => ?_)
        · replace hf := pq_ifp h17 hf
          exact B84 v1 v2 v3 v4 v5 v6 v7 ls (lv_sub hl [0, 1, 2, 3, 4, 5, 6, 7] rfl) hf
        · replace hf := pq_ifn h17 hf
          refine lv_iconst (v := 0) hx hb dX4_isSoundFrom_82 (by decide) ?_
          exact hend _ _ _ dX4_isSoundFrom_83 rfl hf
    refine lv_aload_n hx hb dX4_isSoundFrom_0 rfl (lv_at hl 0 rfl) ?_
    refine lv_ifnull hx hb dX4_isSoundFrom_1 ?_
    refine lv_iload_n hx hb dX4_isSoundFrom_4 rfl (lv_at hl 1 rfl) ?_
    refine lv_if_ne (tgt := 10) hx hb dX4_isSoundFrom_5 (by decide) (fun h18 => ?_) (fun h18 => ?_)
    · replace hf := pq_ifn h18 hf
      refine lv_aload_n hx hb dX4_isSoundFrom_10 rfl (lv_at hl 0 rfl) ?_
      refine lv_iload_n hx hb dX4_isSoundFrom_11 rfl (lv_at hl 1 rfl) ?_
      obtain ⟨q20, e19, hf⟩ := pq_bind hf
      refine pq_cV S (c_X4_keyIn l g a T p2 q20 e19) vv_X4_93 hK hP rfl rfl rfl rfl rfl hl.1 (Nat.le_of_ble_eq_true rfl) dX4_isSoundFrom_12 (by omega) (by decide) ⟨Nat.le_refl _, Nat.le_refl _⟩ ?_
      refine lv_istore (lv' := [(5, .int q20), (0, .ref (a 0)), (1, .int p2), (2, .int p3), (3, .int p4), (4, .int p5)]) hx hb dX4_isSoundFrom_15 hl (by decide) rfl (fun ls hl => ?_)
      refine lv_aload_n hx hb dX4_isSoundFrom_17 rfl (lv_at hl 1 rfl) ?_
      refine lv_iload_n hx hb dX4_isSoundFrom_18 rfl (lv_at hl 2 rfl) ?_
      obtain ⟨q22, e21, hf⟩ := pq_bind hf
      refine pq_cV S (c_X4_leftIn l g a T p2 q22 e21) vv_X4_96 hK hP rfl rfl rfl rfl rfl hl.1 (Nat.le_of_ble_eq_true rfl) dX4_isSoundFrom_19 (by omega) (by decide) ⟨Nat.le_refl _, Nat.le_refl _⟩ ?_
      refine lv_istore (lv' := [(6, .int q22), (5, .int q20), (0, .ref (a 0)), (1, .int p2), (2, .int p3), (3, .int p4), (4, .int p5)]) hx hb dX4_isSoundFrom_22 hl (by decide) rfl (fun ls hl => ?_)
      refine lv_aload_n hx hb dX4_isSoundFrom_24 rfl (lv_at hl 2 rfl) ?_
      refine lv_iload_n hx hb dX4_isSoundFrom_25 rfl (lv_at hl 3 rfl) ?_
      obtain ⟨q24, e23, hf⟩ := pq_bind hf
      refine pq_cV S (c_X4_rightIn l g a T p2 q24 e23) vv_X4_99 hK hP rfl rfl rfl rfl rfl hl.1 (Nat.le_of_ble_eq_true rfl) dX4_isSoundFrom_26 (by omega) (by decide) ⟨Nat.le_refl _, Nat.le_refl _⟩ ?_
      refine lv_istore (lv' := [(7, .int q24), (6, .int q22), (5, .int q20), (0, .ref (a 0)), (1, .int p2), (2, .int p3), (3, .int p4), (4, .int p5)]) hx hb dX4_isSoundFrom_29 hl (by decide) rfl (fun ls hl => ?_)
      refine lv_iload hx hb dX4_isSoundFrom_31 (lv_at hl 7 rfl) ?_
      refine lv_bipush (v := 24) hx hb dX4_isSoundFrom_33 (by decide) ?_
      refine lv_icmp_ge (tgt := 50) hx hb dX4_isSoundFrom_35 (by decide) (fun h25 => ?_) (fun h25 => ?_)
      · replace hf := pq_ifp h25 hf
        refine lv_iconst (v := 0) hx hb dX4_isSoundFrom_50 (by decide) ?_
        exact hend _ _ _ dX4_isSoundFrom_51 rfl hf
      · replace hf := pq_ifn h25 hf
        refine lv_iload hx hb dX4_isSoundFrom_38 (lv_at hl 2 rfl) ?_
        refine lv_iload_n hx hb dX4_isSoundFrom_40 rfl (lv_at hl 5 rfl) ?_
        refine lv_icmp_le (tgt := 50) hx hb dX4_isSoundFrom_41 (by decide) (fun h26 => ?_) (fun h26 => ?_)
        · replace hf := pq_ifp h26 hf
          refine lv_iconst (v := 0) hx hb dX4_isSoundFrom_50 (by decide) ?_
          exact hend _ _ _ dX4_isSoundFrom_51 rfl hf
        · replace hf := pq_ifn h26 hf
          refine lv_iload hx hb dX4_isSoundFrom_44 (lv_at hl 2 rfl) ?_
          refine lv_iload_n hx hb dX4_isSoundFrom_46 rfl (lv_at hl 6 rfl) ?_
          refine lv_icmp_lt (tgt := 52) hx hb dX4_isSoundFrom_47 (by decide) (fun h27 => ?_) (fun h27 => ?_)
          · replace hf := pq_ifp h27 hf
            refine lv_iload hx hb dX4_isSoundFrom_52 (lv_at hl 1 rfl) ?_
            refine lv_if_eq (tgt := 67) hx hb dX4_isSoundFrom_54 (by decide) (fun h28 => ?_) (fun h28 => ?_)
            · replace hf := pq_ifp h28 hf
              exact B67 p2 p3 p4 p5 q20 q22 q24 ls (lv_sub hl [3, 4, 5, 6, 7, 2, 1, 0] rfl) hf
            · replace hf := pq_ifn h28 hf
              refine lv_aload_n hx hb dX4_isSoundFrom_57 rfl (lv_at hl 3 rfl) ?_
              refine lv_iload hx hb dX4_isSoundFrom_58 (lv_at hl 1 rfl) ?_
              refine lv_iload_n hx hb dX4_isSoundFrom_60 rfl (lv_at hl 4 rfl) ?_
              obtain ⟨q30, e29, hf⟩ := pq_bind hf
              refine pq_cV S (c_X4_belongsAbove l g a T q22 p2 q30 e29) vv_X4_54 hK hP rfl rfl rfl rfl rfl hl.1 (Nat.le_of_ble_eq_true rfl) dX4_isSoundFrom_61 (by omega) (by decide) ⟨Nat.le_refl _, Nat.le_refl _⟩ ?_
              refine lv_if_ne (tgt := 82) hx hb dX4_isSoundFrom_64 (by decide) (fun h31 => ?_) (fun h31 => ?_)
              · replace hf := pq_ifn h31 hf
                refine lv_iconst (v := 0) hx hb dX4_isSoundFrom_82 (by decide) ?_
                exact hend _ _ _ dX4_isSoundFrom_83 rfl hf
              · replace hf := pq_ifp h31 hf
                exact B67 p2 p3 p4 p5 q20 q22 q24 ls (lv_sub hl [3, 4, 5, 6, 7, 2, 1, 0] rfl) hf
          · replace hf := pq_ifn h27 hf
            refine lv_iconst (v := 0) hx hb dX4_isSoundFrom_50 (by decide) ?_
            exact hend _ _ _ dX4_isSoundFrom_51 rfl hf
    · replace hf := pq_ifp h18 hf
      refine lv_iconst (v := 1) hx hb dX4_isSoundFrom_8 (by decide) ?_
      exact hend _ _ _ dX4_isSoundFrom_9 rfl hf
def f_X4_isSound (T : TreeS) : Option (Int32) :=
    (f_X4_isSoundFrom 40 T T.2.2.2.2.2.2 (-1) 100 0).bind fun q2 =>
    if q2 = 0 ∨ q2 = 1 then
      some q2
    else none
set_option maxHeartbeats 4000000 in
set_option maxRecDepth 100000 in
theorem c_X4_isSound (l : Launch) (g : pq_g) (a : Nat → Nat) (T : TreeS) (r : Int32) (hf : f_X4_isSound T = some r) : pq_R l yX4_isSound cX4_isSound 1 .boolean 44 g (treeW g a T) [.ref (a 0)] r := by
  rw [f_X4_isSound] at hf
  refine pq_R.of (own := RX4) (by decide) rfl (Nat.le_of_ble_eq_true rfl) rfl ?_
  intro p e s m below meth c ls Q S hP hK hl hend
  obtain ⟨hx, hb, hml, hown, hts⟩ := id S
  refine lv_aload_n hx hb dX4_isSound_0 rfl (lv_at hl 0 rfl) ?_
  refine lv_aload_n hx hb dX4_isSound_1 rfl (lv_at hl 0 rfl) ?_
  refine pq_get S hK hP inX4 0 rfl rfl 6 (by decide) fl_X4_30 rfl (v := .int T.2.2.2.2.2.2) rfl dX4_isSound_2 ?_
  refine lv_iconst (v := (-1)) hx hb dX4_isSound_5 (by decide) ?_
  refine lv_bipush (v := 100) hx hb dX4_isSound_6 (by decide) ?_
  refine lv_iconst (v := 0) hx hb dX4_isSound_8 (by decide) ?_
  obtain ⟨q2, e1, hf⟩ := pq_bind hf
  refine pq_cS S (c_X4_isSoundFrom l g a 40 T T.2.2.2.2.2.2 (-1) 100 0 q2 e1) vs_X4_114 hK hP rfl rfl hl.1 (Nat.le_of_ble_eq_true rfl) dX4_isSound_9 (by decide) (by decide) ⟨Nat.le_refl _, Nat.le_refl _⟩ ?_
  by_cases h3 : q2 = 0 ∨ q2 = 1
  case neg => exact absurd (pq_ifn h3 hf) (fun h9 => by cases h9)
  replace hf := pq_ifp h3 hf
  exact hend _ _ _ dX4_isSound_12 (pq_nb h3) hf
def f_X4_bothWaysAgree_c2 : Nat → TreeS → Int32 → Option (Int32)
  | 0, _, _ => none
  | n + 1, T, v1 =>
    if 99 < v1 then
      some 1
    else
      (f_X4_countBetween T 0 v1).bind fun q3 =>
      (f_X4_scanAbove T 0 v1 0).bind fun q5 =>
      if q3 = q5 then
        (f_X4_topSlot T 0 v1).bind fun q8 =>
        (f_X4_scanTop T 0 v1).bind fun q10 =>
        if q8 = q10 then
          f_X4_bothWaysAgree_c2 n T (v1 + 1)
        else
          some 0
      else
        some 0
def f_X4_bothWaysAgree (T : TreeS) : Option (Int32) :=
    f_X4_bothWaysAgree_c2 200 T 0
set_option maxHeartbeats 4000000 in
set_option maxRecDepth 100000 in
theorem c_X4_bothWaysAgree (l : Launch) (g : pq_g) (a : Nat → Nat) (T : TreeS) (r : Int32) (hf : f_X4_bothWaysAgree T = some r) : pq_R l yX4_bothWaysAgree cX4_bothWaysAgree 2 .boolean 4 g (treeW g a T) [.ref (a 0)] r := by
  rw [f_X4_bothWaysAgree] at hf
  refine pq_R.of (own := RX4) (by decide) rfl (Nat.le_of_ble_eq_true rfl) rfl ?_
  intro p e s m below meth c ls Q S hP hK hl hend
  obtain ⟨hx, hb, hml, hown, hts⟩ := id S
  have B2 : ∀ (n2 : Nat) (v1 : Int32) (ls : Array Slot), lv_has ls 2 [(0, .ref (a 0)), (1, .int v1)] → f_X4_bothWaysAgree_c2 n2 T v1 = some r → W p l e (pq_rm 4 0 0) s m ([.ref (a 0)] : List Value).toArray below meth c s.heap [] 0 0 Q (F0 m 2 ls []) := by
    intro n2
    induction n2 with
    | zero =>
      intro v1 ls hl hf
      exact absurd hf (by simp [f_X4_bothWaysAgree_c2])
    | succ n2 ih2 =>
      intro v1 ls hl hf
      rw [f_X4_bothWaysAgree_c2] at hf
      refine lv_iload_n hx hb dX4_bothWaysAgree_2 rfl (lv_at hl 1 rfl) ?_
      refine lv_bipush (v := 99) hx hb dX4_bothWaysAgree_3 (by decide) ?_
      refine lv_icmp_gt (tgt := 47) hx hb dX4_bothWaysAgree_5 (by decide) (fun h1 => ?_) (fun h1 => ?_)
      · replace hf := pq_ifp h1 hf
        refine lv_iconst (v := 1) hx hb dX4_bothWaysAgree_47 (by decide) ?_
        exact hend _ _ _ dX4_bothWaysAgree_48 rfl hf
      · replace hf := pq_ifn h1 hf
        refine lv_aload_n hx hb dX4_bothWaysAgree_8 rfl (lv_at hl 0 rfl) ?_
        refine lv_iconst (v := 0) hx hb dX4_bothWaysAgree_9 (by decide) ?_
        refine lv_iload_n hx hb dX4_bothWaysAgree_10 rfl (lv_at hl 1 rfl) ?_
        obtain ⟨q3, e2, hf⟩ := pq_bind hf
        refine pq_cV S (c_X4_countBetween l g a T 0 v1 q3 e2) vv_X4_121 hK hP rfl rfl rfl rfl rfl hl.1 (Nat.le_of_ble_eq_true rfl) dX4_bothWaysAgree_11 (by decide) (by decide) ⟨Nat.le_refl _, Nat.le_refl _⟩ ?_
        refine lv_aload_n hx hb dX4_bothWaysAgree_14 rfl (lv_at hl 0 rfl) ?_
        refine lv_iconst (v := 0) hx hb dX4_bothWaysAgree_15 (by decide) ?_
        refine lv_iload_n hx hb dX4_bothWaysAgree_16 rfl (lv_at hl 1 rfl) ?_
        refine lv_iconst (v := 0) hx hb dX4_bothWaysAgree_17 (by decide) ?_
        obtain ⟨q5, e4, hf⟩ := pq_bind hf
        refine pq_cV S (c_X4_scanAbove l g a T 0 v1 0 q5 e4) vv_X4_124 hK hP rfl rfl rfl rfl rfl hl.1 (Nat.le_of_ble_eq_true rfl) dX4_bothWaysAgree_18 (by decide) (by decide) ⟨Nat.le_refl _, Nat.le_refl _⟩ ?_
        refine lv_icmp_ne (tgt := 39) hx hb dX4_bothWaysAgree_21 (by decide) (fun h6 => ?_) (fun h6 => ?_)
        · replace hf := pq_ifn h6 hf
          refine lv_iconst (v := 0) hx hb dX4_bothWaysAgree_39 (by decide) ?_
          exact hend _ _ _ dX4_bothWaysAgree_40 rfl hf
        · replace hf := pq_ifp h6 hf
          refine lv_aload_n hx hb dX4_bothWaysAgree_24 rfl (lv_at hl 0 rfl) ?_
          refine lv_iconst (v := 0) hx hb dX4_bothWaysAgree_25 (by decide) ?_
          refine lv_iload_n hx hb dX4_bothWaysAgree_26 rfl (lv_at hl 1 rfl) ?_
          obtain ⟨q8, e7, hf⟩ := pq_bind hf
          refine pq_cV S (c_X4_topSlot l g a T 0 v1 q8 e7) vv_X4_128 hK hP rfl rfl rfl rfl rfl hl.1 (Nat.le_of_ble_eq_true rfl) dX4_bothWaysAgree_27 (by decide) (by decide) ⟨Nat.le_refl _, Nat.le_refl _⟩ ?_
          refine lv_aload_n hx hb dX4_bothWaysAgree_30 rfl (lv_at hl 0 rfl) ?_
          refine lv_iconst (v := 0) hx hb dX4_bothWaysAgree_31 (by decide) ?_
          refine lv_iload_n hx hb dX4_bothWaysAgree_32 rfl (lv_at hl 1 rfl) ?_
          obtain ⟨q10, e9, hf⟩ := pq_bind hf
          refine pq_cV S (c_X4_scanTop l g a T 0 v1 q10 e9) vv_X4_131 hK hP rfl rfl rfl rfl rfl hl.1 (Nat.le_of_ble_eq_true rfl) dX4_bothWaysAgree_33 (by decide) (by decide) ⟨Nat.le_refl _, Nat.le_refl _⟩ ?_
          refine lv_icmp_eq (tgt := 41) hx hb dX4_bothWaysAgree_36 (by decide) (fun h11 => ?_) (fun h11 => ?_)
          · replace hf := pq_ifp h11 hf
            refine lv_iinc (v := (v1 + 1)) (lv' := [(1, .int (v1 + 1)), (0, .ref (a 0))]) hx hb dX4_bothWaysAgree_41 hl (k := 1) rfl rfl (by decide) rfl (fun ls hl => ?_)
            refine lv_goto (tgt := 2) hx hb dX4_bothWaysAgree_44 (by decide) ?_
            exact ih2 (v1 + 1) ls (lv_sub hl [1, 0] rfl) hf
          · replace hf := pq_ifn h11 hf
            refine lv_iconst (v := 0) hx hb dX4_bothWaysAgree_39 (by decide) ?_
            exact hend _ _ _ dX4_bothWaysAgree_40 rfl hf
  refine lv_iconst (v := 0) hx hb dX4_bothWaysAgree_0 (by decide) ?_
  refine lv_istore_n (lv' := [(1, .int 0), (0, .ref (a 0))]) hx hb dX4_bothWaysAgree_1 rfl hl (by decide) rfl (fun ls hl => ?_)
  exact B2 200 0 ls (lv_sub hl [1, 0] rfl) hf
