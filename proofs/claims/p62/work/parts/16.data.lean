def f_X1_copyFrom (T : DataS) (O : DataS) : Option (DataS) :=
    (f_X4_copyFrom T.1 O.1).bind fun q2 =>
    (f_X5_copyFrom T.2.1 O.2.1).bind fun q4 =>
    some (q2, q4, O.2.2)
set_option maxHeartbeats 4000000 in
set_option maxRecDepth 100000 in
theorem c_X1_copyFrom (l : Launch) (g : pq_g) (a : Nat → Nat) (b : Nat → Nat) (T : DataS) (O : DataS) (T1 : DataS) (hf : f_X1_copyFrom T O = some T1) : pq_Mv l yX1_copyFrom cX1_copyFrom 2 3 g (dataW g a T ++ dataW g b O) [.ref (a 0), .ref (b 0)] (dataW g a T1 ++ dataW g b O) := by
  rw [f_X1_copyFrom] at hf
  refine pq_Mv.of (own := RX1) (by decide) rfl (Nat.le_of_ble_eq_true rfl) rfl ?_
  intro p e s m below meth c ls Q A S hP hK hD hS hA hl hend
  obtain ⟨hx, hb, hml, hown, hts⟩ := id S
  refine lv_aload_n hx hb dX1_copyFrom_0 rfl (lv_at hl 1 rfl) ?_
  refine lv_ifnonnull (tgt := 5) hx hb dX1_copyFrom_1 (by decide) ?_
  refine lv_aload_n hx hb dX1_copyFrom_5 rfl (lv_at hl 0 rfl) ?_
  refine pq_get S hK (pq_P1 hP) inX1 0 rfl rfl 0 (by decide) fl_X1_12 rfl (v := .ref (a 1)) rfl dX1_copyFrom_6 ?_
  refine lv_aload_n hx hb dX1_copyFrom_9 rfl (lv_at hl 1 rfl) ?_
  refine pq_get S hK (pq_P2 hP) inX1 0 rfl rfl 0 (by decide) fl_X1_12 rfl (v := .ref (b 1)) rfl dX1_copyFrom_10 ?_
  obtain ⟨q2, e1, hf⟩ := pq_bind hf
  refine pq_cVv S (c_X4_copyFrom l g (pq_sh a 1) (pq_sh b 1) T.1 O.1 q2 e1) vv_X1_25 hK (va_P.app (pq_P1 (pq_P2 (pq_P1 hP))) (pq_P1 (pq_P2 (pq_P2 hP)))) (pq_Da (pq_D1 (pq_D2 (pq_D1 hD))) (pq_D1 (pq_D2 (pq_D2 hD))) (pq_ap1 (pq_ap2 (pq_apl1 (pq_apl2 (pq_Dx hD)))))) hS hA rfl rfl rfl rfl rfl hl.1 (Nat.le_of_ble_eq_true rfl) dX1_copyFrom_13 (by decide) (by decide) ⟨Nat.le_refl _, Nat.le_refl _⟩ (fun H9 locs hk hP1 hS => ?_)
  replace hP := (va_P.app (va_P.app (pq_kp (pq_P1 (pq_P1 hP)) (pq_apA (pq_ap1 (pq_Dx (pq_D1 hD))) (pq_ap1 (pq_ap2 (pq_apl1 (pq_Dx hD))))) hk) (va_P.app (pq_P1 hP1) (pq_kp (pq_P2 (pq_P2 (pq_P1 hP))) (pq_apA (pq_aps (pq_Dx (pq_D2 (pq_D1 hD)))) (pq_ap1 (pq_ap2 (pq_apl2 (pq_apl2 (pq_Dx hD)))))) hk))) (va_P.app (pq_kp (pq_P1 (pq_P2 hP)) (pq_apA (pq_aps (pq_ap1 (pq_apl1 (pq_apl2 (pq_Dx hD))))) (pq_ap1 (pq_Dx (pq_D2 hD)))) hk) (va_P.app (pq_P2 hP1) (pq_kp (pq_P2 (pq_P2 (pq_P2 hP))) (pq_apA (pq_aps (pq_ap2 (pq_ap2 (pq_apl1 (pq_apl2 (pq_Dx hD)))))) (pq_aps (pq_Dx (pq_D2 (pq_D2 hD))))) hk))))
  replace hP : va_P g.1 pq_cl (dataW g a (q2, T.2.1, T.2.2) ++ dataW g b O) H9 := hP
  replace hD : va_D A (dataW g a (q2, T.2.1, T.2.2) ++ dataW g b O) := pq_adr hD (ad_app (ad_X1 _ _) (ad_X1 _ _))
  clear hk
  generalize H9 = H at hP hS ⊢
  refine lv_aload_n hx hb dX1_copyFrom_16 rfl (lv_at hl 0 rfl) ?_
  refine pq_get S hK (pq_P1 hP) inX1 0 rfl rfl 1 (by decide) fl_X1_21 rfl (v := .ref (a 8)) rfl dX1_copyFrom_17 ?_
  refine lv_aload_n hx hb dX1_copyFrom_20 rfl (lv_at hl 1 rfl) ?_
  refine pq_get S hK (pq_P2 hP) inX1 0 rfl rfl 1 (by decide) fl_X1_21 rfl (v := .ref (b 8)) rfl dX1_copyFrom_21 ?_
  obtain ⟨q4, e3, hf⟩ := pq_bind hf
  refine pq_cVv S (c_X5_copyFrom l g (pq_sh a 8) (pq_sh b 8) T.2.1 O.2.1 q4 e3) vv_X1_29 hK (va_P.app (pq_P2 (pq_P2 (pq_P1 hP))) (pq_P2 (pq_P2 (pq_P2 hP)))) (pq_Da (pq_D2 (pq_D2 (pq_D1 hD))) (pq_D2 (pq_D2 (pq_D2 hD))) (pq_ap2 (pq_ap2 (pq_apl2 (pq_apl2 (pq_Dx hD)))))) hS hA rfl rfl rfl rfl rfl hl.1 (Nat.le_of_ble_eq_true rfl) dX1_copyFrom_24 (by decide) (by decide) ⟨Nat.le_refl _, Nat.le_refl _⟩ (fun H9 locs hk hP1 hS => ?_)
  replace hP := (va_P.app (va_P.app (pq_kp (pq_P1 (pq_P1 hP)) (pq_apA (pq_ap2 (pq_Dx (pq_D1 hD))) (pq_ap2 (pq_ap2 (pq_apl1 (pq_Dx hD))))) hk) (va_P.app (pq_kp (pq_P1 (pq_P2 (pq_P1 hP))) (pq_apA (pq_Dx (pq_D2 (pq_D1 hD))) (pq_ap2 (pq_ap2 (pq_apl1 (pq_apl2 (pq_Dx hD)))))) hk) (pq_P1 hP1))) (va_P.app (pq_kp (pq_P1 (pq_P2 hP)) (pq_apA (pq_aps (pq_ap1 (pq_apl2 (pq_apl2 (pq_Dx hD))))) (pq_ap2 (pq_Dx (pq_D2 hD)))) hk) (va_P.app (pq_kp (pq_P1 (pq_P2 (pq_P2 hP))) (pq_apA (pq_aps (pq_ap1 (pq_ap2 (pq_apl2 (pq_apl2 (pq_Dx hD)))))) (pq_Dx (pq_D2 (pq_D2 hD)))) hk) (pq_P2 hP1))))
  replace hP : va_P g.1 pq_cl (dataW g a (q2, q4, T.2.2) ++ dataW g b O) H9 := hP
  replace hD : va_D A (dataW g a (q2, q4, T.2.2) ++ dataW g b O) := pq_adr hD (ad_app (ad_X1 _ _) (ad_X1 _ _))
  clear hk
  generalize H9 = H at hP hS ⊢
  refine lv_aload_n hx hb dX1_copyFrom_27 rfl (lv_at hl 0 rfl) ?_
  refine lv_aload_n hx hb dX1_copyFrom_28 rfl (lv_at hl 1 rfl) ?_
  refine pq_get S hK (pq_P2 hP) inX1 0 rfl rfl 2 (by decide) fl_X1_32 rfl (v := .int O.2.2) rfl dX1_copyFrom_29 ?_
  refine pq_putf S hK hP hD hS inX1 tyX1_ok nmX1 0 rfl rfl 2 (by decide) fl_X1_32 rfl rfl (ty := .int) rfl rfl rfl (Nat.le_of_ble_eq_true rfl) dX1_copyFrom_32 (fun H locs hP hS => ?_)
  replace hP : va_P g.1 pq_cl (dataW g a (q2, q4, O.2.2) ++ dataW g b O) H := hP
  replace hD : va_D A (dataW g a (q2, q4, O.2.2) ++ dataW g b O) := pq_adr hD (ad_app (ad_X1 _ _) (ad_X1 _ _))
  exact hend _ _ _ _ dX1_copyFrom_35 (by rw [← Option.some.inj hf]; exact hP) hS
def f_X1_countInWindow (T : DataS) (p1 : Int32) : Option (Int32) :=
    (f_X4_scanAbove T.1 (pq_rd 4 T.2.1.1 p1) (pq_rd 4 T.2.1.2.1 p1) (pq_rd 4 T.2.1.2.2.1 p1)).bind fun q2 =>
    some q2
set_option maxHeartbeats 4000000 in
set_option maxRecDepth 100000 in
theorem c_X1_countInWindow (l : Launch) (g : pq_g) (a : Nat → Nat) (T : DataS) (p1 : Int32) (r : Int32) (hf : f_X1_countInWindow T p1 = some r) : pq_R l yX1_countInWindow cX1_countInWindow 2 .int 3 g (dataW g a T) [.ref (a 0), .int p1] r := by
  rw [f_X1_countInWindow] at hf
  refine pq_R.of (own := RX1) (by decide) rfl (Nat.le_of_ble_eq_true rfl) rfl ?_
  intro p e s m below meth c ls Q S hP hK hl hend
  obtain ⟨hx, hb, hml, hown, hts⟩ := id S
  refine lv_aload_n hx hb dX1_countInWindow_0 rfl (lv_at hl 0 rfl) ?_
  refine pq_get S hK hP inX1 0 rfl rfl 0 (by decide) fl_X1_12 rfl (v := .ref (a 1)) rfl dX1_countInWindow_1 ?_
  refine lv_aload_n hx hb dX1_countInWindow_4 rfl (lv_at hl 0 rfl) ?_
  refine pq_get S hK hP inX1 0 rfl rfl 1 (by decide) fl_X1_21 rfl (v := .ref (a 8)) rfl dX1_countInWindow_5 ?_
  refine pq_getN S hK (pq_P2 (pq_P2 hP)) inX5 0 rfl rfl 0 (by decide) (List.mem_of_getElem? (i := 0) rfl) rfl (v := .ref (a 9)) rfl dX1_countInWindow_8 ?_
  refine lv_iload_n hx hb dX1_countInWindow_11 rfl (lv_at hl 1 rfl) ?_
  refine pq_at S vn_X1_40 hK hP 9 rfl (by decide) hl.1 (Nat.le_of_ble_eq_true rfl) dX1_countInWindow_12 (by decide) ⟨Nat.le_refl _, Nat.le_refl _⟩ ?_
  refine lv_aload_n hx hb dX1_countInWindow_15 rfl (lv_at hl 0 rfl) ?_
  refine pq_get S hK hP inX1 0 rfl rfl 1 (by decide) fl_X1_21 rfl (v := .ref (a 8)) rfl dX1_countInWindow_16 ?_
  refine pq_getN S hK (pq_P2 (pq_P2 hP)) inX5 0 rfl rfl 1 (by decide) (List.mem_of_getElem? (i := 1) rfl) rfl (v := .ref (a 10)) rfl dX1_countInWindow_19 ?_
  refine lv_iload_n hx hb dX1_countInWindow_22 rfl (lv_at hl 1 rfl) ?_
  refine pq_at S vn_X1_40 hK hP 10 rfl (by decide) hl.1 (Nat.le_of_ble_eq_true rfl) dX1_countInWindow_23 (by decide) ⟨Nat.le_refl _, Nat.le_refl _⟩ ?_
  refine lv_aload_n hx hb dX1_countInWindow_26 rfl (lv_at hl 0 rfl) ?_
  refine pq_get S hK hP inX1 0 rfl rfl 1 (by decide) fl_X1_21 rfl (v := .ref (a 8)) rfl dX1_countInWindow_27 ?_
  refine pq_getN S hK (pq_P2 (pq_P2 hP)) inX5 0 rfl rfl 2 (by decide) (List.mem_of_getElem? (i := 2) rfl) rfl (v := .ref (a 11)) rfl dX1_countInWindow_30 ?_
  refine lv_iload_n hx hb dX1_countInWindow_33 rfl (lv_at hl 1 rfl) ?_
  refine pq_at S vn_X1_40 hK hP 11 rfl (by decide) hl.1 (Nat.le_of_ble_eq_true rfl) dX1_countInWindow_34 (by decide) ⟨Nat.le_refl _, Nat.le_refl _⟩ ?_
  obtain ⟨q2, e1, hf⟩ := pq_bind hf
  refine pq_cV S (c_X4_scanAbove l g (pq_sh a 1) T.1 (pq_rd 4 T.2.1.1 p1) (pq_rd 4 T.2.1.2.1 p1) (pq_rd 4 T.2.1.2.2.1 p1) q2 e1) vv_X1_50 hK (pq_P1 (pq_P2 hP)) rfl rfl rfl rfl rfl hl.1 (Nat.le_of_ble_eq_true rfl) dX1_countInWindow_37 (by decide) (by decide) ⟨Nat.le_refl _, Nat.le_refl _⟩ ?_
  exact hend _ _ _ dX1_countInWindow_40 rfl hf
def f_X1_slotInWindow_c14 : Nat → DataS → Int32 → Int32 → Int32 → Int32 → Int32 → Option (Int32)
  | 0, _, _, _, _, _, _ => none
  | n + 1, T, v1, v2, v3, v4, v5 =>
    if v4 ≤ v5 then
      some 0
    else
      if 24 ≤ v5 then
        some 0
      else
        (f_X4_slotAtPosition T.1 v5).bind fun q4 =>
        (f_X4_keyIn T.1 q4).bind fun q6 =>
        (f_X4_priorityIn T.1 q4).bind fun q8 =>
        (f_X5_covers T.2.1 v1 q6 q8).bind fun q10 =>
        if q10 = 0 then
          f_X1_slotInWindow_c14 n T v1 v2 v3 v4 (v5 + 1)
        else
          if v3 = v2 then
            some q4
          else
            f_X1_slotInWindow_c14 n T v1 v2 (v3 + 1) v4 (v5 + 1)
def f_X1_slotInWindow (T : DataS) (p1 : Int32) (p2 : Int32) : Option (Int32) :=
    (f_X4_pointCount T.1).bind fun q14 =>
    f_X1_slotInWindow_c14 200 T p1 p2 0 q14 0
set_option maxHeartbeats 4000000 in
set_option maxRecDepth 100000 in
theorem c_X1_slotInWindow (l : Launch) (g : pq_g) (a : Nat → Nat) (T : DataS) (p1 : Int32) (p2 : Int32) (r : Int32) (hf : f_X1_slotInWindow T p1 p2 = some r) : pq_R l yX1_slotInWindow cX1_slotInWindow 7 .int 3 g (dataW g a T) [.ref (a 0), .int p1, .int p2] r := by
  rw [f_X1_slotInWindow] at hf
  refine pq_R.of (own := RX1) (by decide) rfl (Nat.le_of_ble_eq_true rfl) rfl ?_
  intro p e s m below meth c ls Q S hP hK hl hend
  obtain ⟨hx, hb, hml, hown, hts⟩ := id S
  have B14 : ∀ (n14 : Nat) (v1 : Int32) (v2 : Int32) (v3 : Int32) (v4 : Int32) (v5 : Int32) (ls : Array Slot), lv_has ls 7 [(0, .ref (a 0)), (1, .int v1), (2, .int v2), (3, .int v3), (4, .int v4), (5, .int v5)] → f_X1_slotInWindow_c14 n14 T v1 v2 v3 v4 v5 = some r → W p l e (pq_rm 3 0 0) s m ([.ref (a 0), .int p1, .int p2] : List Value).toArray below meth c s.heap [] 0 0 Q (F0 m 14 ls []) := by
    intro n14
    induction n14 with
    | zero =>
      intro v1 v2 v3 v4 v5 ls hl hf
      exact absurd hf (by simp [f_X1_slotInWindow_c14])
    | succ n14 ih14 =>
      intro v1 v2 v3 v4 v5 ls hl hf
      rw [f_X1_slotInWindow_c14] at hf
      refine lv_iload hx hb dX1_slotInWindow_14 (lv_at hl 5 rfl) ?_
      refine lv_iload hx hb dX1_slotInWindow_16 (lv_at hl 4 rfl) ?_
      refine lv_icmp_ge (tgt := 85) hx hb dX1_slotInWindow_18 (by decide) (fun h1 => ?_) (fun h1 => ?_)
      · replace hf := pq_ifp h1 hf
        refine lv_iconst (v := 0) hx hb dX1_slotInWindow_85 (by decide) ?_
        exact hend _ _ _ dX1_slotInWindow_86 rfl hf
      · replace hf := pq_ifn h1 hf
        refine lv_iload hx hb dX1_slotInWindow_21 (lv_at hl 5 rfl) ?_
        refine lv_bipush (v := 24) hx hb dX1_slotInWindow_23 (by decide) ?_
        refine lv_icmp_ge (tgt := 85) hx hb dX1_slotInWindow_25 (by decide) (fun h2 => ?_) (fun h2 => ?_)
        · replace hf := pq_ifp h2 hf
          refine lv_iconst (v := 0) hx hb dX1_slotInWindow_85 (by decide) ?_
          exact hend _ _ _ dX1_slotInWindow_86 rfl hf
        · replace hf := pq_ifn h2 hf
          refine lv_aload_n hx hb dX1_slotInWindow_28 rfl (lv_at hl 0 rfl) ?_
          refine pq_get S hK hP inX1 0 rfl rfl 0 (by decide) fl_X1_12 rfl (v := .ref (a 1)) rfl dX1_slotInWindow_29 ?_
          refine lv_iload hx hb dX1_slotInWindow_32 (lv_at hl 5 rfl) ?_
          obtain ⟨q4, e3, hf⟩ := pq_bind hf
          refine pq_cV S (c_X4_slotAtPosition l g (pq_sh a 1) T.1 v5 q4 e3) vv_X1_58 hK (pq_P1 (pq_P2 hP)) rfl rfl rfl rfl rfl hl.1 (Nat.le_of_ble_eq_true rfl) dX1_slotInWindow_34 (by decide) (by decide) ⟨Nat.le_refl _, Nat.le_refl _⟩ ?_
          refine lv_istore (lv' := [(6, .int q4), (0, .ref (a 0)), (1, .int v1), (2, .int v2), (3, .int v3), (4, .int v4), (5, .int v5)]) hx hb dX1_slotInWindow_37 hl (by decide) rfl (fun ls hl => ?_)
          refine lv_aload_n hx hb dX1_slotInWindow_39 rfl (lv_at hl 1 rfl) ?_
          refine pq_get S hK hP inX1 0 rfl rfl 1 (by decide) fl_X1_21 rfl (v := .ref (a 8)) rfl dX1_slotInWindow_40 ?_
          refine lv_iload_n hx hb dX1_slotInWindow_43 rfl (lv_at hl 2 rfl) ?_
          refine lv_aload_n hx hb dX1_slotInWindow_44 rfl (lv_at hl 1 rfl) ?_
          refine pq_get S hK hP inX1 0 rfl rfl 0 (by decide) fl_X1_12 rfl (v := .ref (a 1)) rfl dX1_slotInWindow_45 ?_
          refine lv_iload hx hb dX1_slotInWindow_48 (lv_at hl 0 rfl) ?_
          obtain ⟨q6, e5, hf⟩ := pq_bind hf
          refine pq_cV S (c_X4_keyIn l g (pq_sh a 1) T.1 q4 q6 e5) vv_X1_62 hK (pq_P1 (pq_P2 hP)) rfl rfl rfl rfl rfl hl.1 (Nat.le_of_ble_eq_true rfl) dX1_slotInWindow_50 (by decide) (by decide) ⟨Nat.le_refl _, Nat.le_refl _⟩ ?_
          refine lv_aload_n hx hb dX1_slotInWindow_53 rfl (lv_at hl 1 rfl) ?_
          refine pq_get S hK hP inX1 0 rfl rfl 0 (by decide) fl_X1_12 rfl (v := .ref (a 1)) rfl dX1_slotInWindow_54 ?_
          refine lv_iload hx hb dX1_slotInWindow_57 (lv_at hl 0 rfl) ?_
          obtain ⟨q8, e7, hf⟩ := pq_bind hf
          refine pq_cV S (c_X4_priorityIn l g (pq_sh a 1) T.1 q4 q8 e7) vv_X1_65 hK (pq_P1 (pq_P2 hP)) rfl rfl rfl rfl rfl hl.1 (Nat.le_of_ble_eq_true rfl) dX1_slotInWindow_59 (by decide) (by decide) ⟨Nat.le_refl _, Nat.le_refl _⟩ ?_
          obtain ⟨q10, e9, hf⟩ := pq_bind hf
          refine pq_cV S (c_X5_covers l g (pq_sh a 8) T.2.1 v1 q6 q8 q10 e9) vv_X1_68 hK (pq_P2 (pq_P2 hP)) rfl rfl rfl rfl rfl hl.1 (Nat.le_of_ble_eq_true rfl) dX1_slotInWindow_62 (by decide) (by decide) ⟨Nat.le_refl _, Nat.le_refl _⟩ ?_
          refine lv_if_eq (tgt := 79) hx hb dX1_slotInWindow_65 (by decide) (fun h11 => ?_) (fun h11 => ?_)
          · replace hf := pq_ifp h11 hf
            refine lv_iinc (v := (v5 + 1)) (lv' := [(5, .int (v5 + 1)), (6, .int q4), (0, .ref (a 0)), (1, .int v1), (2, .int v2), (3, .int v3), (4, .int v4)]) hx hb dX1_slotInWindow_79 hl (k := 6) rfl rfl (by decide) rfl (fun ls hl => ?_)
            refine lv_goto (tgt := 14) hx hb dX1_slotInWindow_82 (by decide) ?_
            exact ih14 v1 v2 v3 v4 (v5 + 1) ls (lv_sub hl [2, 3, 4, 5, 6, 0] rfl) hf
          · replace hf := pq_ifn h11 hf
            refine lv_iload_n hx hb dX1_slotInWindow_68 rfl (lv_at hl 4 rfl) ?_
            refine lv_iload_n hx hb dX1_slotInWindow_69 rfl (lv_at hl 3 rfl) ?_
            refine lv_icmp_ne (tgt := 76) hx hb dX1_slotInWindow_70 (by decide) (fun h12 => ?_) (fun h12 => ?_)
            · replace hf := pq_ifn h12 hf
              refine lv_iinc (v := (v3 + 1)) (lv' := [(3, .int (v3 + 1)), (6, .int q4), (0, .ref (a 0)), (1, .int v1), (2, .int v2), (4, .int v4), (5, .int v5)]) hx hb dX1_slotInWindow_76 hl (k := 4) rfl rfl (by decide) rfl (fun ls hl => ?_)
              refine lv_iinc (v := (v5 + 1)) (lv' := [(5, .int (v5 + 1)), (3, .int (v3 + 1)), (6, .int q4), (0, .ref (a 0)), (1, .int v1), (2, .int v2), (4, .int v4)]) hx hb dX1_slotInWindow_79 hl (k := 6) rfl rfl (by decide) rfl (fun ls hl => ?_)
              refine lv_goto (tgt := 14) hx hb dX1_slotInWindow_82 (by decide) ?_
              exact ih14 v1 v2 (v3 + 1) v4 (v5 + 1) ls (lv_sub hl [3, 4, 5, 1, 6, 0] rfl) hf
            · replace hf := pq_ifp h12 hf
              refine lv_iload hx hb dX1_slotInWindow_73 (lv_at hl 0 rfl) ?_
              exact hend _ _ _ dX1_slotInWindow_75 rfl hf
  refine lv_iconst (v := 0) hx hb dX1_slotInWindow_0 (by decide) ?_
  refine lv_istore_n (lv' := [(3, .int 0), (0, .ref (a 0)), (1, .int p1), (2, .int p2)]) hx hb dX1_slotInWindow_1 rfl hl (by decide) rfl (fun ls hl => ?_)
  refine lv_aload_n hx hb dX1_slotInWindow_2 rfl (lv_at hl 1 rfl) ?_
  refine pq_get S hK hP inX1 0 rfl rfl 0 (by decide) fl_X1_12 rfl (v := .ref (a 1)) rfl dX1_slotInWindow_3 ?_
  obtain ⟨q14, e13, hf⟩ := pq_bind hf
  refine pq_cV S (c_X4_pointCount l g (pq_sh a 1) T.1 q14 e13) vv_X1_54 hK (pq_P1 (pq_P2 hP)) rfl rfl rfl rfl rfl hl.1 (Nat.le_of_ble_eq_true rfl) dX1_slotInWindow_6 (by decide) (by decide) ⟨Nat.le_refl _, Nat.le_refl _⟩ ?_
  refine lv_istore (lv' := [(4, .int q14), (3, .int 0), (0, .ref (a 0)), (1, .int p1), (2, .int p2)]) hx hb dX1_slotInWindow_9 hl (by decide) rfl (fun ls hl => ?_)
  refine lv_iconst (v := 0) hx hb dX1_slotInWindow_11 (by decide) ?_
  refine lv_istore (lv' := [(5, .int 0), (4, .int q14), (3, .int 0), (0, .ref (a 0)), (1, .int p1), (2, .int p2)]) hx hb dX1_slotInWindow_12 hl (by decide) rfl (fun ls hl => ?_)
  exact B14 200 p1 p2 0 q14 0 ls (lv_sub hl [3, 4, 5, 2, 1, 0] rfl) hf
def f_X1_firstFullWindow_c69 (k3 : DataS → Int32 → Int32 → Int32 → Int32 → Option (Int32)) (T : DataS) (v1 : Int32) (v2 : Int32) (v3 : Int32) (v4 : Int32) (v5 : Int32) : Option (Int32) :=
    (f_X5_isOpen T.2.1 v4).bind fun q2 =>
    if q2 = 0 then
      k3 T v1 v2 v3 (v4 + 1)
    else
      (f_X5_limitIn T.2.1 v4).bind fun q5 =>
      if v5 ≤ q5 then
        k3 T v1 v2 v3 (v4 + 1)
      else
        some v4
def f_X1_firstFullWindow_c52 (k3 : DataS → Int32 → Int32 → Int32 → Int32 → Option (Int32)) (T : DataS) (v1 : Int32) (v2 : Int32) (v3 : Int32) (v4 : Int32) (v5 : Int32) : Option (Int32) :=
    (f_X5_covers T.2.1 v4 v2 v3).bind fun q8 =>
    if q8 = 0 then
      f_X1_firstFullWindow_c69 k3 T v1 v2 v3 v4 v5
    else
      f_X1_firstFullWindow_c69 k3 T v1 v2 v3 v4 (v5 + 1)
def f_X1_firstFullWindow_c3 : Nat → DataS → Int32 → Int32 → Int32 → Int32 → Option (Int32)
  | 0, _, _, _, _, _ => none
  | n + 1, T, v1, v2, v3, v4 =>
    if 4 ≤ v4 then
      some (-1)
    else
      (f_X1_countInWindow T v4).bind fun q12 =>
      if v1 = 0 then
        f_X1_firstFullWindow_c52 (f_X1_firstFullWindow_c3 n) T v1 v2 v3 v4 q12
      else
        (f_X4_keyIn T.1 v1).bind fun q15 =>
        (f_X4_priorityIn T.1 v1).bind fun q17 =>
        (f_X5_covers T.2.1 v4 q15 q17).bind fun q19 =>
        if q19 = 0 then
          f_X1_firstFullWindow_c52 (f_X1_firstFullWindow_c3 n) T v1 v2 v3 v4 q12
        else
          f_X1_firstFullWindow_c52 (f_X1_firstFullWindow_c3 n) T v1 v2 v3 v4 (q12 + (-1))
def f_X1_firstFullWindow (T : DataS) (p1 : Int32) (p2 : Int32) (p3 : Int32) : Option (Int32) :=
    f_X1_firstFullWindow_c3 200 T p1 p2 p3 0
set_option maxHeartbeats 4000000 in
set_option maxRecDepth 100000 in
theorem c_X1_firstFullWindow (l : Launch) (g : pq_g) (a : Nat → Nat) (T : DataS) (p1 : Int32) (p2 : Int32) (p3 : Int32) (r : Int32) (hf : f_X1_firstFullWindow T p1 p2 p3 = some r) : pq_R l yX1_firstFullWindow cX1_firstFullWindow 6 .int 4 g (dataW g a T) [.ref (a 0), .int p1, .int p2, .int p3] r := by
  rw [f_X1_firstFullWindow] at hf
  refine pq_R.of (own := RX1) (by decide) rfl (Nat.le_of_ble_eq_true rfl) rfl ?_
  intro p e s m below meth c ls Q S hP hK hl hend
  obtain ⟨hx, hb, hml, hown, hts⟩ := id S
  have B3 : ∀ (n3 : Nat) (v1 : Int32) (v2 : Int32) (v3 : Int32) (v4 : Int32) (ls : Array Slot), lv_has ls 6 [(0, .ref (a 0)), (1, .int v1), (2, .int v2), (3, .int v3), (4, .int v4)] → f_X1_firstFullWindow_c3 n3 T v1 v2 v3 v4 = some r → W p l e (pq_rm 4 0 0) s m ([.ref (a 0), .int p1, .int p2, .int p3] : List Value).toArray below meth c s.heap [] 0 0 Q (F0 m 3 ls []) := by
    intro n3
    induction n3 with
    | zero =>
      intro v1 v2 v3 v4 ls hl hf
      exact absurd hf (by simp [f_X1_firstFullWindow_c3])
    | succ n3 ih3 =>
      have B69 : ∀ (v1 : Int32) (v2 : Int32) (v3 : Int32) (v4 : Int32) (v5 : Int32) (ls : Array Slot), lv_has ls 6 [(0, .ref (a 0)), (1, .int v1), (2, .int v2), (3, .int v3), (4, .int v4), (5, .int v5)] → f_X1_firstFullWindow_c69 (f_X1_firstFullWindow_c3 n3) T v1 v2 v3 v4 v5 = some r → W p l e (pq_rm 4 0 0) s m ([.ref (a 0), .int p1, .int p2, .int p3] : List Value).toArray below meth c s.heap [] 0 0 Q (F0 m 69 ls []) := by
        intro v1 v2 v3 v4 v5 ls hl hf
        rw [f_X1_firstFullWindow_c69] at hf
        refine lv_aload_n hx hb dX1_firstFullWindow_69 rfl (lv_at hl 0 rfl) ?_
        refine pq_get S hK hP inX1 0 rfl rfl 1 (by decide) fl_X1_21 rfl (v := .ref (a 8)) rfl dX1_firstFullWindow_70 ?_
        refine lv_iload hx hb dX1_firstFullWindow_73 (lv_at hl 4 rfl) ?_
        obtain ⟨q2, e1, hf⟩ := pq_bind hf
        refine pq_cV S (c_X5_isOpen l g (pq_sh a 8) T.2.1 v4 q2 e1) vv_X1_75 hK (pq_P2 (pq_P2 hP)) rfl rfl rfl rfl rfl hl.1 (Nat.le_of_ble_eq_true rfl) dX1_firstFullWindow_75 (by decide) (by decide) ⟨Nat.le_refl _, Nat.le_refl _⟩ ?_
        refine lv_if_eq (tgt := 98) hx hb dX1_firstFullWindow_78 (by decide) (fun h3 => ?_) (fun h3 => ?_)
        · replace hf := pq_ifp h3 hf
          refine lv_iinc (v := (v4 + 1)) (lv' := [(4, .int (v4 + 1)), (0, .ref (a 0)), (1, .int v1), (2, .int v2), (3, .int v3), (5, .int v5)]) hx hb dX1_firstFullWindow_98 hl (k := 4) rfl rfl (by decide) rfl (fun ls hl => ?_)
          refine lv_goto (tgt := 3) hx hb dX1_firstFullWindow_101 (by decide) ?_
          exact ih3 v1 v2 v3 (v4 + 1) ls (lv_sub hl [1, 2, 3, 4, 0] rfl) hf
        · replace hf := pq_ifn h3 hf
          refine lv_iload hx hb dX1_firstFullWindow_81 (lv_at hl 5 rfl) ?_
          refine lv_aload_n hx hb dX1_firstFullWindow_83 rfl (lv_at hl 0 rfl) ?_
          refine pq_get S hK hP inX1 0 rfl rfl 1 (by decide) fl_X1_21 rfl (v := .ref (a 8)) rfl dX1_firstFullWindow_84 ?_
          refine lv_iload hx hb dX1_firstFullWindow_87 (lv_at hl 4 rfl) ?_
          obtain ⟨q5, e4, hf⟩ := pq_bind hf
          refine pq_cV S (c_X5_limitIn l g (pq_sh a 8) T.2.1 v4 q5 e4) vv_X1_79 hK (pq_P2 (pq_P2 hP)) rfl rfl rfl rfl rfl hl.1 (Nat.le_of_ble_eq_true rfl) dX1_firstFullWindow_89 (by decide) (by decide) ⟨Nat.le_refl _, Nat.le_refl _⟩ ?_
          refine lv_icmp_le (tgt := 98) hx hb dX1_firstFullWindow_92 (by decide) (fun h6 => ?_) (fun h6 => ?_)
          · replace hf := pq_ifp h6 hf
            refine lv_iinc (v := (v4 + 1)) (lv' := [(4, .int (v4 + 1)), (0, .ref (a 0)), (1, .int v1), (2, .int v2), (3, .int v3), (5, .int v5)]) hx hb dX1_firstFullWindow_98 hl (k := 4) rfl rfl (by decide) rfl (fun ls hl => ?_)
            refine lv_goto (tgt := 3) hx hb dX1_firstFullWindow_101 (by decide) ?_
            exact ih3 v1 v2 v3 (v4 + 1) ls (lv_sub hl [1, 2, 3, 4, 0] rfl) hf
          · replace hf := pq_ifn h6 hf
            refine lv_iload hx hb dX1_firstFullWindow_95 (lv_at hl 4 rfl) ?_
            exact hend _ _ _ dX1_firstFullWindow_97 rfl hf
      have B52 : ∀ (v1 : Int32) (v2 : Int32) (v3 : Int32) (v4 : Int32) (v5 : Int32) (ls : Array Slot), lv_has ls 6 [(0, .ref (a 0)), (1, .int v1), (2, .int v2), (3, .int v3), (4, .int v4), (5, .int v5)] → f_X1_firstFullWindow_c52 (f_X1_firstFullWindow_c3 n3) T v1 v2 v3 v4 v5 = some r → W p l e (pq_rm 4 0 0) s m ([.ref (a 0), .int p1, .int p2, .int p3] : List Value).toArray below meth c s.heap [] 0 0 Q (F0 m 52 ls []) := by
        intro v1 v2 v3 v4 v5 ls hl hf
        rw [f_X1_firstFullWindow_c52] at hf
        refine lv_aload_n hx hb dX1_firstFullWindow_52 rfl (lv_at hl 0 rfl) ?_
        refine pq_get S hK hP inX1 0 rfl rfl 1 (by decide) fl_X1_21 rfl (v := .ref (a 8)) rfl dX1_firstFullWindow_53 ?_
        refine lv_iload hx hb dX1_firstFullWindow_56 (lv_at hl 4 rfl) ?_
        refine lv_iload_n hx hb dX1_firstFullWindow_58 rfl (lv_at hl 2 rfl) ?_
        refine lv_iload_n hx hb dX1_firstFullWindow_59 rfl (lv_at hl 3 rfl) ?_
        obtain ⟨q8, e7, hf⟩ := pq_bind hf
        refine pq_cV S (c_X5_covers l g (pq_sh a 8) T.2.1 v4 v2 v3 q8 e7) vv_X1_68 hK (pq_P2 (pq_P2 hP)) rfl rfl rfl rfl rfl hl.1 (Nat.le_of_ble_eq_true rfl) dX1_firstFullWindow_60 (by decide) (by decide) ⟨Nat.le_refl _, Nat.le_refl _⟩ ?_
        refine lv_if_eq (tgt := 69) hx hb dX1_firstFullWindow_63 (by decide) (fun h9 => ?_) (fun h9 => ?_)
        · replace hf := pq_ifp h9 hf
          exact B69 v1 v2 v3 v4 v5 ls (lv_sub hl [0, 1, 2, 3, 4, 5] rfl) hf
        · replace hf := pq_ifn h9 hf
          refine lv_iinc (v := (v5 + 1)) (lv' := [(5, .int (v5 + 1)), (0, .ref (a 0)), (1, .int v1), (2, .int v2), (3, .int v3), (4, .int v4)]) hx hb dX1_firstFullWindow_66 hl (k := 5) rfl rfl (by decide) rfl (fun ls hl => ?_)
          exact B69 v1 v2 v3 v4 (v5 + 1) ls (lv_sub hl [1, 2, 3, 4, 5, 0] rfl) hf
      intro v1 v2 v3 v4 ls hl hf
      rw [f_X1_firstFullWindow_c3] at hf
      refine lv_iload hx hb dX1_firstFullWindow_3 (lv_at hl 4 rfl) ?_
      refine lv_iconst (v := 4) hx hb dX1_firstFullWindow_5 (by decide) ?_
      refine lv_icmp_ge (tgt := 104) hx hb dX1_firstFullWindow_6 (by decide) (fun h10 => ?_) (fun h10 => ?_)
      · replace hf := pq_ifp h10 hf
        refine lv_iconst (v := (-1)) hx hb dX1_firstFullWindow_104 (by decide) ?_
        exact hend _ _ _ dX1_firstFullWindow_105 rfl hf
      · replace hf := pq_ifn h10 hf
        refine lv_aload_n hx hb dX1_firstFullWindow_9 rfl (lv_at hl 0 rfl) ?_
        refine lv_iload hx hb dX1_firstFullWindow_10 (lv_at hl 4 rfl) ?_
        obtain ⟨q12, e11, hf⟩ := pq_bind hf
        refine pq_cV S (c_X1_countInWindow l g a T v4 q12 e11) vv_X1_72 hK hP rfl rfl rfl rfl rfl hl.1 (Nat.le_of_ble_eq_true rfl) dX1_firstFullWindow_12 (by decide) (by decide) ⟨Nat.le_refl _, Nat.le_refl _⟩ ?_
        refine lv_istore (lv' := [(5, .int q12), (0, .ref (a 0)), (1, .int v1), (2, .int v2), (3, .int v3), (4, .int v4)]) hx hb dX1_firstFullWindow_15 hl (by decide) rfl (fun ls hl => ?_)
        refine lv_iload_n hx hb dX1_firstFullWindow_17 rfl (lv_at hl 2 rfl) ?_
        refine lv_if_eq (tgt := 52) hx hb dX1_firstFullWindow_18 (by decide) (fun h13 => ?_) (fun h13 => ?_)
        · replace hf := pq_ifp h13 hf
          exact B52 v1 v2 v3 v4 q12 ls (lv_sub hl [1, 2, 3, 4, 5, 0] rfl) hf
        · replace hf := pq_ifn h13 hf
          refine lv_aload_n hx hb dX1_firstFullWindow_21 rfl (lv_at hl 1 rfl) ?_
          refine pq_get S hK hP inX1 0 rfl rfl 1 (by decide) fl_X1_21 rfl (v := .ref (a 8)) rfl dX1_firstFullWindow_22 ?_
          refine lv_iload hx hb dX1_firstFullWindow_25 (lv_at hl 5 rfl) ?_
          refine lv_aload_n hx hb dX1_firstFullWindow_27 rfl (lv_at hl 1 rfl) ?_
          refine pq_get S hK hP inX1 0 rfl rfl 0 (by decide) fl_X1_12 rfl (v := .ref (a 1)) rfl dX1_firstFullWindow_28 ?_
          refine lv_iload_n hx hb dX1_firstFullWindow_31 rfl (lv_at hl 2 rfl) ?_
          obtain ⟨q15, e14, hf⟩ := pq_bind hf
          refine pq_cV S (c_X4_keyIn l g (pq_sh a 1) T.1 v1 q15 e14) vv_X1_62 hK (pq_P1 (pq_P2 hP)) rfl rfl rfl rfl rfl hl.1 (Nat.le_of_ble_eq_true rfl) dX1_firstFullWindow_32 (by decide) (by decide) ⟨Nat.le_refl _, Nat.le_refl _⟩ ?_
          refine lv_aload_n hx hb dX1_firstFullWindow_35 rfl (lv_at hl 1 rfl) ?_
          refine pq_get S hK hP inX1 0 rfl rfl 0 (by decide) fl_X1_12 rfl (v := .ref (a 1)) rfl dX1_firstFullWindow_36 ?_
          refine lv_iload_n hx hb dX1_firstFullWindow_39 rfl (lv_at hl 2 rfl) ?_
          obtain ⟨q17, e16, hf⟩ := pq_bind hf
          refine pq_cV S (c_X4_priorityIn l g (pq_sh a 1) T.1 v1 q17 e16) vv_X1_65 hK (pq_P1 (pq_P2 hP)) rfl rfl rfl rfl rfl hl.1 (Nat.le_of_ble_eq_true rfl) dX1_firstFullWindow_40 (by decide) (by decide) ⟨Nat.le_refl _, Nat.le_refl _⟩ ?_
          obtain ⟨q19, e18, hf⟩ := pq_bind hf
          refine pq_cV S (c_X5_covers l g (pq_sh a 8) T.2.1 v4 q15 q17 q19 e18) vv_X1_68 hK (pq_P2 (pq_P2 hP)) rfl rfl rfl rfl rfl hl.1 (Nat.le_of_ble_eq_true rfl) dX1_firstFullWindow_43 (by decide) (by decide) ⟨Nat.le_refl _, Nat.le_refl _⟩ ?_
          refine lv_if_eq (tgt := 52) hx hb dX1_firstFullWindow_46 (by decide) (fun h20 => ?_) (fun h20 => ?_)
          · replace hf := pq_ifp h20 hf
            exact B52 v1 v2 v3 v4 q12 ls (lv_sub hl [1, 2, 3, 4, 5, 0] rfl) hf
          · replace hf := pq_ifn h20 hf
            refine lv_iinc (v := (q12 + (-1))) (lv' := [(5, .int (q12 + (-1))), (0, .ref (a 0)), (1, .int v1), (2, .int v2), (3, .int v3), (4, .int v4)]) hx hb dX1_firstFullWindow_49 hl (k := 0) rfl rfl (by decide) rfl (fun ls hl => ?_)
            exact B52 v1 v2 v3 v4 (q12 + (-1)) ls (lv_sub hl [1, 2, 3, 4, 5, 0] rfl) hf
  refine lv_iconst (v := 0) hx hb dX1_firstFullWindow_0 (by decide) ?_
  refine lv_istore (lv' := [(4, .int 0), (0, .ref (a 0)), (1, .int p1), (2, .int p2), (3, .int p3)]) hx hb dX1_firstFullWindow_1 hl (by decide) rfl (fun ls hl => ?_)
  exact B3 200 p1 p2 p3 0 ls (lv_sub hl [1, 2, 3, 4, 0] rfl) hf
def f_X1_keepsLimits_c2 : Nat → DataS → Int32 → Option (Int32)
  | 0, _, _ => none
  | n + 1, T, v1 =>
    if 4 ≤ v1 then
      some 1
    else
      (f_X5_isOpen T.2.1 v1).bind fun q3 =>
      if q3 = 0 then
        f_X1_keepsLimits_c2 n T (v1 + 1)
      else
        (f_X1_countInWindow T v1).bind fun q6 =>
        (f_X5_limitIn T.2.1 v1).bind fun q8 =>
        if q6 ≤ q8 then
          f_X1_keepsLimits_c2 n T (v1 + 1)
        else
          some 0
def f_X1_keepsLimits (T : DataS) : Option (Int32) :=
    f_X1_keepsLimits_c2 200 T 0
set_option maxHeartbeats 4000000 in
set_option maxRecDepth 100000 in
theorem c_X1_keepsLimits (l : Launch) (g : pq_g) (a : Nat → Nat) (T : DataS) (r : Int32) (hf : f_X1_keepsLimits T = some r) : pq_R l yX1_keepsLimits cX1_keepsLimits 2 .boolean 4 g (dataW g a T) [.ref (a 0)] r := by
  rw [f_X1_keepsLimits] at hf
  refine pq_R.of (own := RX1) (by decide) rfl (Nat.le_of_ble_eq_true rfl) rfl ?_
  intro p e s m below meth c ls Q S hP hK hl hend
  obtain ⟨hx, hb, hml, hown, hts⟩ := id S
  have B2 : ∀ (n2 : Nat) (v1 : Int32) (ls : Array Slot), lv_has ls 2 [(0, .ref (a 0)), (1, .int v1)] → f_X1_keepsLimits_c2 n2 T v1 = some r → W p l e (pq_rm 4 0 0) s m ([.ref (a 0)] : List Value).toArray below meth c s.heap [] 0 0 Q (F0 m 2 ls []) := by
    intro n2
    induction n2 with
    | zero =>
      intro v1 ls hl hf
      exact absurd hf (by simp [f_X1_keepsLimits_c2])
    | succ n2 ih2 =>
      intro v1 ls hl hf
      rw [f_X1_keepsLimits_c2] at hf
      refine lv_iload_n hx hb dX1_keepsLimits_2 rfl (lv_at hl 1 rfl) ?_
      refine lv_iconst (v := 4) hx hb dX1_keepsLimits_3 (by decide) ?_
      refine lv_icmp_ge (tgt := 42) hx hb dX1_keepsLimits_4 (by decide) (fun h1 => ?_) (fun h1 => ?_)
      · replace hf := pq_ifp h1 hf
        refine lv_iconst (v := 1) hx hb dX1_keepsLimits_42 (by decide) ?_
        exact hend _ _ _ dX1_keepsLimits_43 rfl hf
      · replace hf := pq_ifn h1 hf
        refine lv_aload_n hx hb dX1_keepsLimits_7 rfl (lv_at hl 0 rfl) ?_
        refine pq_get S hK hP inX1 0 rfl rfl 1 (by decide) fl_X1_21 rfl (v := .ref (a 8)) rfl dX1_keepsLimits_8 ?_
        refine lv_iload_n hx hb dX1_keepsLimits_11 rfl (lv_at hl 1 rfl) ?_
        obtain ⟨q3, e2, hf⟩ := pq_bind hf
        refine pq_cV S (c_X5_isOpen l g (pq_sh a 8) T.2.1 v1 q3 e2) vv_X1_75 hK (pq_P2 (pq_P2 hP)) rfl rfl rfl rfl rfl hl.1 (Nat.le_of_ble_eq_true rfl) dX1_keepsLimits_12 (by decide) (by decide) ⟨Nat.le_refl _, Nat.le_refl _⟩ ?_
        refine lv_if_eq (tgt := 36) hx hb dX1_keepsLimits_15 (by decide) (fun h4 => ?_) (fun h4 => ?_)
        · replace hf := pq_ifp h4 hf
          refine lv_iinc (v := (v1 + 1)) (lv' := [(1, .int (v1 + 1)), (0, .ref (a 0))]) hx hb dX1_keepsLimits_36 hl (k := 1) rfl rfl (by decide) rfl (fun ls hl => ?_)
          refine lv_goto (tgt := 2) hx hb dX1_keepsLimits_39 (by decide) ?_
          exact ih2 (v1 + 1) ls (lv_sub hl [1, 0] rfl) hf
        · replace hf := pq_ifn h4 hf
          refine lv_aload_n hx hb dX1_keepsLimits_18 rfl (lv_at hl 0 rfl) ?_
          refine lv_iload_n hx hb dX1_keepsLimits_19 rfl (lv_at hl 1 rfl) ?_
          obtain ⟨q6, e5, hf⟩ := pq_bind hf
          refine pq_cV S (c_X1_countInWindow l g a T v1 q6 e5) vv_X1_72 hK hP rfl rfl rfl rfl rfl hl.1 (Nat.le_of_ble_eq_true rfl) dX1_keepsLimits_20 (by decide) (by decide) ⟨Nat.le_refl _, Nat.le_refl _⟩ ?_
          refine lv_aload_n hx hb dX1_keepsLimits_23 rfl (lv_at hl 0 rfl) ?_
          refine pq_get S hK hP inX1 0 rfl rfl 1 (by decide) fl_X1_21 rfl (v := .ref (a 8)) rfl dX1_keepsLimits_24 ?_
          refine lv_iload_n hx hb dX1_keepsLimits_27 rfl (lv_at hl 1 rfl) ?_
          obtain ⟨q8, e7, hf⟩ := pq_bind hf
          refine pq_cV S (c_X5_limitIn l g (pq_sh a 8) T.2.1 v1 q8 e7) vv_X1_79 hK (pq_P2 (pq_P2 hP)) rfl rfl rfl rfl rfl hl.1 (Nat.le_of_ble_eq_true rfl) dX1_keepsLimits_28 (by decide) (by decide) ⟨Nat.le_refl _, Nat.le_refl _⟩ ?_
          refine lv_icmp_le (tgt := 36) hx hb dX1_keepsLimits_31 (by decide) (fun h9 => ?_) (fun h9 => ?_)
          · replace hf := pq_ifp h9 hf
            refine lv_iinc (v := (v1 + 1)) (lv' := [(1, .int (v1 + 1)), (0, .ref (a 0))]) hx hb dX1_keepsLimits_36 hl (k := 1) rfl rfl (by decide) rfl (fun ls hl => ?_)
            refine lv_goto (tgt := 2) hx hb dX1_keepsLimits_39 (by decide) ?_
            exact ih2 (v1 + 1) ls (lv_sub hl [1, 0] rfl) hf
          · replace hf := pq_ifn h9 hf
            refine lv_iconst (v := 0) hx hb dX1_keepsLimits_34 (by decide) ?_
            exact hend _ _ _ dX1_keepsLimits_35 rfl hf
  refine lv_iconst (v := 0) hx hb dX1_keepsLimits_0 (by decide) ?_
  refine lv_istore_n (lv' := [(1, .int 0), (0, .ref (a 0))]) hx hb dX1_keepsLimits_1 rfl hl (by decide) rfl (fun ls hl => ?_)
  exact B2 200 0 ls (lv_sub hl [1, 0] rfl) hf
def f_X1_reasonAgainstInsert (T : DataS) (p1 : Int32) (p2 : Int32) : Option (Int32) :=
    (f_X4_pointCount T.1).bind fun q2 =>
    if q2 < 24 then
      (f_X4_slotOf T.1 p1).bind fun q5 =>
      if q5 = 0 then
        (f_X1_firstFullWindow T 0 p1 p2).bind fun q8 =>
        if q8 = (-1) then
          some 0
        else
          some 3
      else
        some 2
    else
      some 1
set_option maxHeartbeats 4000000 in
set_option maxRecDepth 100000 in
theorem c_X1_reasonAgainstInsert (l : Launch) (g : pq_g) (a : Nat → Nat) (T : DataS) (p1 : Int32) (p2 : Int32) (r : Int32) (hf : f_X1_reasonAgainstInsert T p1 p2 = some r) : pq_R l yX1_reasonAgainstInsert cX1_reasonAgainstInsert 3 .int 5 g (dataW g a T) [.ref (a 0), .int p1, .int p2] r := by
  rw [f_X1_reasonAgainstInsert] at hf
  refine pq_R.of (own := RX1) (by decide) rfl (Nat.le_of_ble_eq_true rfl) rfl ?_
  intro p e s m below meth c ls Q S hP hK hl hend
  obtain ⟨hx, hb, hml, hown, hts⟩ := id S
  refine lv_aload_n hx hb dX1_reasonAgainstInsert_0 rfl (lv_at hl 0 rfl) ?_
  refine pq_get S hK hP inX1 0 rfl rfl 0 (by decide) fl_X1_12 rfl (v := .ref (a 1)) rfl dX1_reasonAgainstInsert_1 ?_
  obtain ⟨q2, e1, hf⟩ := pq_bind hf
  refine pq_cV S (c_X4_pointCount l g (pq_sh a 1) T.1 q2 e1) vv_X1_54 hK (pq_P1 (pq_P2 hP)) rfl rfl rfl rfl rfl hl.1 (Nat.le_of_ble_eq_true rfl) dX1_reasonAgainstInsert_4 (by decide) (by decide) ⟨Nat.le_refl _, Nat.le_refl _⟩ ?_
  refine lv_bipush (v := 24) hx hb dX1_reasonAgainstInsert_7 (by decide) ?_
  refine lv_icmp_lt (tgt := 14) hx hb dX1_reasonAgainstInsert_9 (by decide) (fun h3 => ?_) (fun h3 => ?_)
  · replace hf := pq_ifp h3 hf
    refine lv_aload_n hx hb dX1_reasonAgainstInsert_14 rfl (lv_at hl 0 rfl) ?_
    refine pq_get S hK hP inX1 0 rfl rfl 0 (by decide) fl_X1_12 rfl (v := .ref (a 1)) rfl dX1_reasonAgainstInsert_15 ?_
    refine lv_iload_n hx hb dX1_reasonAgainstInsert_18 rfl (lv_at hl 1 rfl) ?_
    obtain ⟨q5, e4, hf⟩ := pq_bind hf
    refine pq_cV S (c_X4_slotOf l g (pq_sh a 1) T.1 p1 q5 e4) vv_X1_82 hK (pq_P1 (pq_P2 hP)) rfl rfl rfl rfl rfl hl.1 (Nat.le_of_ble_eq_true rfl) dX1_reasonAgainstInsert_19 (by decide) (by decide) ⟨Nat.le_refl _, Nat.le_refl _⟩ ?_
    refine lv_if_eq (tgt := 27) hx hb dX1_reasonAgainstInsert_22 (by decide) (fun h6 => ?_) (fun h6 => ?_)
    · replace hf := pq_ifp h6 hf
      refine lv_aload_n hx hb dX1_reasonAgainstInsert_27 rfl (lv_at hl 0 rfl) ?_
      refine lv_iconst (v := 0) hx hb dX1_reasonAgainstInsert_28 (by decide) ?_
      refine lv_iload_n hx hb dX1_reasonAgainstInsert_29 rfl (lv_at hl 1 rfl) ?_
      refine lv_iload_n hx hb dX1_reasonAgainstInsert_30 rfl (lv_at hl 2 rfl) ?_
      obtain ⟨q8, e7, hf⟩ := pq_bind hf
      refine pq_cV S (c_X1_firstFullWindow l g a T 0 p1 p2 q8 e7) vv_X1_85 hK hP rfl rfl rfl rfl rfl hl.1 (Nat.le_of_ble_eq_true rfl) dX1_reasonAgainstInsert_31 (by decide) (by decide) ⟨Nat.le_refl _, Nat.le_refl _⟩ ?_
      refine lv_iconst (v := (-1)) hx hb dX1_reasonAgainstInsert_34 (by decide) ?_
      refine lv_icmp_ne (tgt := 42) hx hb dX1_reasonAgainstInsert_35 (by decide) (fun h9 => ?_) (fun h9 => ?_)
      · replace hf := pq_ifn h9 hf
        refine lv_iconst (v := 3) hx hb dX1_reasonAgainstInsert_42 (by decide) ?_
        exact hend _ _ _ dX1_reasonAgainstInsert_43 rfl hf
      · replace hf := pq_ifp h9 hf
        refine lv_iconst (v := 0) hx hb dX1_reasonAgainstInsert_38 (by decide) ?_
        refine lv_goto (tgt := 43) hx hb dX1_reasonAgainstInsert_39 (by decide) ?_
        exact hend _ _ _ dX1_reasonAgainstInsert_43 rfl hf
    · replace hf := pq_ifn h6 hf
      refine lv_iconst (v := 2) hx hb dX1_reasonAgainstInsert_25 (by decide) ?_
      exact hend _ _ _ dX1_reasonAgainstInsert_26 rfl hf
  · replace hf := pq_ifn h3 hf
    refine lv_iconst (v := 1) hx hb dX1_reasonAgainstInsert_12 (by decide) ?_
    exact hend _ _ _ dX1_reasonAgainstInsert_13 rfl hf
def f_X1_reasonAgainstPriority (T : DataS) (p1 : Int32) (p2 : Int32) : Option (Int32) :=
    (f_X4_keyIn T.1 p1).bind fun q2 =>
    (f_X1_firstFullWindow T p1 q2 p2).bind fun q4 =>
    if q4 = (-1) then
      some 0
    else
      some 3
set_option maxHeartbeats 4000000 in
set_option maxRecDepth 100000 in
theorem c_X1_reasonAgainstPriority (l : Launch) (g : pq_g) (a : Nat → Nat) (T : DataS) (p1 : Int32) (p2 : Int32) (r : Int32) (hf : f_X1_reasonAgainstPriority T p1 p2 = some r) : pq_R l yX1_reasonAgainstPriority cX1_reasonAgainstPriority 3 .int 5 g (dataW g a T) [.ref (a 0), .int p1, .int p2] r := by
  rw [f_X1_reasonAgainstPriority] at hf
  refine pq_R.of (own := RX1) (by decide) rfl (Nat.le_of_ble_eq_true rfl) rfl ?_
  intro p e s m below meth c ls Q S hP hK hl hend
  obtain ⟨hx, hb, hml, hown, hts⟩ := id S
  refine lv_aload_n hx hb dX1_reasonAgainstPriority_0 rfl (lv_at hl 0 rfl) ?_
  refine lv_iload_n hx hb dX1_reasonAgainstPriority_1 rfl (lv_at hl 1 rfl) ?_
  refine lv_aload_n hx hb dX1_reasonAgainstPriority_2 rfl (lv_at hl 0 rfl) ?_
  refine pq_get S hK hP inX1 0 rfl rfl 0 (by decide) fl_X1_12 rfl (v := .ref (a 1)) rfl dX1_reasonAgainstPriority_3 ?_
  refine lv_iload_n hx hb dX1_reasonAgainstPriority_6 rfl (lv_at hl 1 rfl) ?_
  obtain ⟨q2, e1, hf⟩ := pq_bind hf
  refine pq_cV S (c_X4_keyIn l g (pq_sh a 1) T.1 p1 q2 e1) vv_X1_62 hK (pq_P1 (pq_P2 hP)) rfl rfl rfl rfl rfl hl.1 (Nat.le_of_ble_eq_true rfl) dX1_reasonAgainstPriority_7 (by decide) (by decide) ⟨Nat.le_refl _, Nat.le_refl _⟩ ?_
  refine lv_iload_n hx hb dX1_reasonAgainstPriority_10 rfl (lv_at hl 2 rfl) ?_
  obtain ⟨q4, e3, hf⟩ := pq_bind hf
  refine pq_cV S (c_X1_firstFullWindow l g a T p1 q2 p2 q4 e3) vv_X1_85 hK hP rfl rfl rfl rfl rfl hl.1 (Nat.le_of_ble_eq_true rfl) dX1_reasonAgainstPriority_11 (by decide) (by decide) ⟨Nat.le_refl _, Nat.le_refl _⟩ ?_
  refine lv_iconst (v := (-1)) hx hb dX1_reasonAgainstPriority_14 (by decide) ?_
  refine lv_icmp_ne (tgt := 22) hx hb dX1_reasonAgainstPriority_15 (by decide) (fun h5 => ?_) (fun h5 => ?_)
  · replace hf := pq_ifn h5 hf
    refine lv_iconst (v := 3) hx hb dX1_reasonAgainstPriority_22 (by decide) ?_
    exact hend _ _ _ dX1_reasonAgainstPriority_23 rfl hf
  · replace hf := pq_ifp h5 hf
    refine lv_iconst (v := 0) hx hb dX1_reasonAgainstPriority_18 (by decide) ?_
    refine lv_goto (tgt := 23) hx hb dX1_reasonAgainstPriority_19 (by decide) ?_
    exact hend _ _ _ dX1_reasonAgainstPriority_23 rfl hf
def f_X1_reasonAgainstMove (T : DataS) (p1 : Int32) (p2 : Int32) : Option (Int32) :=
    (f_X4_slotOf T.1 p2).bind fun q2 =>
    if q2 = 0 then
      (f_X4_priorityIn T.1 p1).bind fun q5 =>
      (f_X1_firstFullWindow T p1 p2 q5).bind fun q7 =>
      if q7 = (-1) then
        some 0
      else
        some 3
    else
      some 2
set_option maxHeartbeats 4000000 in
set_option maxRecDepth 100000 in
theorem c_X1_reasonAgainstMove (l : Launch) (g : pq_g) (a : Nat → Nat) (T : DataS) (p1 : Int32) (p2 : Int32) (r : Int32) (hf : f_X1_reasonAgainstMove T p1 p2 = some r) : pq_R l yX1_reasonAgainstMove cX1_reasonAgainstMove 3 .int 5 g (dataW g a T) [.ref (a 0), .int p1, .int p2] r := by
  rw [f_X1_reasonAgainstMove] at hf
  refine pq_R.of (own := RX1) (by decide) rfl (Nat.le_of_ble_eq_true rfl) rfl ?_
  intro p e s m below meth c ls Q S hP hK hl hend
  obtain ⟨hx, hb, hml, hown, hts⟩ := id S
  refine lv_aload_n hx hb dX1_reasonAgainstMove_0 rfl (lv_at hl 0 rfl) ?_
  refine pq_get S hK hP inX1 0 rfl rfl 0 (by decide) fl_X1_12 rfl (v := .ref (a 1)) rfl dX1_reasonAgainstMove_1 ?_
  refine lv_iload_n hx hb dX1_reasonAgainstMove_4 rfl (lv_at hl 2 rfl) ?_
  obtain ⟨q2, e1, hf⟩ := pq_bind hf
  refine pq_cV S (c_X4_slotOf l g (pq_sh a 1) T.1 p2 q2 e1) vv_X1_82 hK (pq_P1 (pq_P2 hP)) rfl rfl rfl rfl rfl hl.1 (Nat.le_of_ble_eq_true rfl) dX1_reasonAgainstMove_5 (by decide) (by decide) ⟨Nat.le_refl _, Nat.le_refl _⟩ ?_
  refine lv_if_eq (tgt := 13) hx hb dX1_reasonAgainstMove_8 (by decide) (fun h3 => ?_) (fun h3 => ?_)
  · replace hf := pq_ifp h3 hf
    refine lv_aload_n hx hb dX1_reasonAgainstMove_13 rfl (lv_at hl 0 rfl) ?_
    refine lv_iload_n hx hb dX1_reasonAgainstMove_14 rfl (lv_at hl 1 rfl) ?_
    refine lv_iload_n hx hb dX1_reasonAgainstMove_15 rfl (lv_at hl 2 rfl) ?_
    refine lv_aload_n hx hb dX1_reasonAgainstMove_16 rfl (lv_at hl 0 rfl) ?_
    refine pq_get S hK hP inX1 0 rfl rfl 0 (by decide) fl_X1_12 rfl (v := .ref (a 1)) rfl dX1_reasonAgainstMove_17 ?_
    refine lv_iload_n hx hb dX1_reasonAgainstMove_20 rfl (lv_at hl 1 rfl) ?_
    obtain ⟨q5, e4, hf⟩ := pq_bind hf
    refine pq_cV S (c_X4_priorityIn l g (pq_sh a 1) T.1 p1 q5 e4) vv_X1_65 hK (pq_P1 (pq_P2 hP)) rfl rfl rfl rfl rfl hl.1 (Nat.le_of_ble_eq_true rfl) dX1_reasonAgainstMove_21 (by decide) (by decide) ⟨Nat.le_refl _, Nat.le_refl _⟩ ?_
    obtain ⟨q7, e6, hf⟩ := pq_bind hf
    refine pq_cV S (c_X1_firstFullWindow l g a T p1 p2 q5 q7 e6) vv_X1_85 hK hP rfl rfl rfl rfl rfl hl.1 (Nat.le_of_ble_eq_true rfl) dX1_reasonAgainstMove_24 (by decide) (by decide) ⟨Nat.le_refl _, Nat.le_refl _⟩ ?_
    refine lv_iconst (v := (-1)) hx hb dX1_reasonAgainstMove_27 (by decide) ?_
    refine lv_icmp_ne (tgt := 35) hx hb dX1_reasonAgainstMove_28 (by decide) (fun h8 => ?_) (fun h8 => ?_)
    · replace hf := pq_ifn h8 hf
      refine lv_iconst (v := 3) hx hb dX1_reasonAgainstMove_35 (by decide) ?_
      exact hend _ _ _ dX1_reasonAgainstMove_36 rfl hf
    · replace hf := pq_ifp h8 hf
      refine lv_iconst (v := 0) hx hb dX1_reasonAgainstMove_31 (by decide) ?_
      refine lv_goto (tgt := 36) hx hb dX1_reasonAgainstMove_32 (by decide) ?_
      exact hend _ _ _ dX1_reasonAgainstMove_36 rfl hf
  · replace hf := pq_ifn h3 hf
    refine lv_iconst (v := 2) hx hb dX1_reasonAgainstMove_11 (by decide) ?_
    exact hend _ _ _ dX1_reasonAgainstMove_12 rfl hf
def f_X1_reasonAgainstWindow (T : DataS) (p1 : Int32) (p2 : Int32) (p3 : Int32) (p4 : Int32) : Option (Int32) :=
    (f_X4_scanAbove T.1 p1 p2 p3).bind fun q2 =>
    if q2 ≤ p4 then
      some 0
    else
      some 3
set_option maxHeartbeats 4000000 in
set_option maxRecDepth 100000 in
theorem c_X1_reasonAgainstWindow (l : Launch) (g : pq_g) (a : Nat → Nat) (T : DataS) (p1 : Int32) (p2 : Int32) (p3 : Int32) (p4 : Int32) (r : Int32) (hf : f_X1_reasonAgainstWindow T p1 p2 p3 p4 = some r) : pq_R l yX1_reasonAgainstWindow cX1_reasonAgainstWindow 5 .int 3 g (dataW g a T) [.ref (a 0), .int p1, .int p2, .int p3, .int p4] r := by
  rw [f_X1_reasonAgainstWindow] at hf
  refine pq_R.of (own := RX1) (by decide) rfl (Nat.le_of_ble_eq_true rfl) rfl ?_
  intro p e s m below meth c ls Q S hP hK hl hend
  obtain ⟨hx, hb, hml, hown, hts⟩ := id S
  refine lv_aload_n hx hb dX1_reasonAgainstWindow_0 rfl (lv_at hl 0 rfl) ?_
  refine pq_get S hK hP inX1 0 rfl rfl 0 (by decide) fl_X1_12 rfl (v := .ref (a 1)) rfl dX1_reasonAgainstWindow_1 ?_
  refine lv_iload_n hx hb dX1_reasonAgainstWindow_4 rfl (lv_at hl 1 rfl) ?_
  refine lv_iload_n hx hb dX1_reasonAgainstWindow_5 rfl (lv_at hl 2 rfl) ?_
  refine lv_iload_n hx hb dX1_reasonAgainstWindow_6 rfl (lv_at hl 3 rfl) ?_
  obtain ⟨q2, e1, hf⟩ := pq_bind hf
  refine pq_cV S (c_X4_scanAbove l g (pq_sh a 1) T.1 p1 p2 p3 q2 e1) vv_X1_50 hK (pq_P1 (pq_P2 hP)) rfl rfl rfl rfl rfl hl.1 (Nat.le_of_ble_eq_true rfl) dX1_reasonAgainstWindow_7 (by decide) (by decide) ⟨Nat.le_refl _, Nat.le_refl _⟩ ?_
  refine lv_iload hx hb dX1_reasonAgainstWindow_10 (lv_at hl 4 rfl) ?_
  refine lv_icmp_le (tgt := 19) hx hb dX1_reasonAgainstWindow_12 (by decide) (fun h3 => ?_) (fun h3 => ?_)
  · replace hf := pq_ifp h3 hf
    refine lv_iconst (v := 0) hx hb dX1_reasonAgainstWindow_19 (by decide) ?_
    exact hend _ _ _ dX1_reasonAgainstWindow_20 rfl hf
  · replace hf := pq_ifn h3 hf
    refine lv_iconst (v := 3) hx hb dX1_reasonAgainstWindow_15 (by decide) ?_
    refine lv_goto (tgt := 20) hx hb dX1_reasonAgainstWindow_16 (by decide) ?_
    exact hend _ _ _ dX1_reasonAgainstWindow_20 rfl hf
def f_X1_detailOf (T : DataS) (p1 : Int32) (p2 : Int32) (p3 : Int32) (p4 : Int32) : Option (Int32) :=
    if p1 = 1 then
      some 24
    else
      if p1 = 2 then
        (f_X4_slotOf T.1 p3).bind fun q6 =>
        (f_X4_priorityIn T.1 q6).bind fun q8 =>
        some q8
      else
        (f_X1_firstFullWindow T p2 p3 p4).bind fun q4 =>
        some q4
set_option maxHeartbeats 4000000 in
set_option maxRecDepth 100000 in
theorem c_X1_detailOf (l : Launch) (g : pq_g) (a : Nat → Nat) (T : DataS) (p1 : Int32) (p2 : Int32) (p3 : Int32) (p4 : Int32) (r : Int32) (hf : f_X1_detailOf T p1 p2 p3 p4 = some r) : pq_R l yX1_detailOf cX1_detailOf 5 .int 5 g (dataW g a T) [.ref (a 0), .int p1, .int p2, .int p3, .int p4] r := by
  rw [f_X1_detailOf] at hf
  refine pq_R.of (own := RX1) (by decide) rfl (Nat.le_of_ble_eq_true rfl) rfl ?_
  intro p e s m below meth c ls Q S hP hK hl hend
  obtain ⟨hx, hb, hml, hown, hts⟩ := id S
  refine lv_iload_n hx hb dX1_detailOf_0 rfl (lv_at hl 1 rfl) ?_
  refine lv_iconst (v := 1) hx hb dX1_detailOf_1 (by decide) ?_
  refine lv_icmp_ne (tgt := 8) hx hb dX1_detailOf_2 (by decide) (fun h1 => ?_) (fun h1 => ?_)
  · replace hf := pq_ifn h1 hf
    refine lv_iload_n hx hb dX1_detailOf_8 rfl (lv_at hl 1 rfl) ?_
    refine lv_iconst (v := 2) hx hb dX1_detailOf_9 (by decide) ?_
    refine lv_icmp_ne (tgt := 29) hx hb dX1_detailOf_10 (by decide) (fun h2 => ?_) (fun h2 => ?_)
    · replace hf := pq_ifn h2 hf
      refine lv_aload_n hx hb dX1_detailOf_29 rfl (lv_at hl 0 rfl) ?_
      refine lv_iload_n hx hb dX1_detailOf_30 rfl (lv_at hl 2 rfl) ?_
      refine lv_iload_n hx hb dX1_detailOf_31 rfl (lv_at hl 3 rfl) ?_
      refine lv_iload hx hb dX1_detailOf_32 (lv_at hl 4 rfl) ?_
      obtain ⟨q4, e3, hf⟩ := pq_bind hf
      refine pq_cV S (c_X1_firstFullWindow l g a T p2 p3 p4 q4 e3) vv_X1_85 hK hP rfl rfl rfl rfl rfl hl.1 (Nat.le_of_ble_eq_true rfl) dX1_detailOf_34 (by decide) (by decide) ⟨Nat.le_refl _, Nat.le_refl _⟩ ?_
      exact hend _ _ _ dX1_detailOf_37 rfl hf
    · replace hf := pq_ifp h2 hf
      refine lv_aload_n hx hb dX1_detailOf_13 rfl (lv_at hl 0 rfl) ?_
      refine pq_get S hK hP inX1 0 rfl rfl 0 (by decide) fl_X1_12 rfl (v := .ref (a 1)) rfl dX1_detailOf_14 ?_
      refine lv_aload_n hx hb dX1_detailOf_17 rfl (lv_at hl 0 rfl) ?_
      refine pq_get S hK hP inX1 0 rfl rfl 0 (by decide) fl_X1_12 rfl (v := .ref (a 1)) rfl dX1_detailOf_18 ?_
      refine lv_iload_n hx hb dX1_detailOf_21 rfl (lv_at hl 3 rfl) ?_
      obtain ⟨q6, e5, hf⟩ := pq_bind hf
      refine pq_cV S (c_X4_slotOf l g (pq_sh a 1) T.1 p3 q6 e5) vv_X1_82 hK (pq_P1 (pq_P2 hP)) rfl rfl rfl rfl rfl hl.1 (Nat.le_of_ble_eq_true rfl) dX1_detailOf_22 (by decide) (by decide) ⟨Nat.le_refl _, Nat.le_refl _⟩ ?_
      obtain ⟨q8, e7, hf⟩ := pq_bind hf
      refine pq_cV S (c_X4_priorityIn l g (pq_sh a 1) T.1 q6 q8 e7) vv_X1_65 hK (pq_P1 (pq_P2 hP)) rfl rfl rfl rfl rfl hl.1 (Nat.le_of_ble_eq_true rfl) dX1_detailOf_25 (by decide) (by decide) ⟨Nat.le_refl _, Nat.le_refl _⟩ ?_
      exact hend _ _ _ dX1_detailOf_28 rfl hf
  · replace hf := pq_ifp h1 hf
    refine lv_bipush (v := 24) hx hb dX1_detailOf_5 (by decide) ?_
    exact hend _ _ _ dX1_detailOf_7 rfl hf
def f_X1_insertPoint (T : DataS) (p1 : Int32) (p2 : Int32) : Option (Int32 × (DataS)) :=
    (f_X4_attach T.1 p1 p2).bind fun q2 =>
    (f_X4_rotateUp q2.2 q2.1).bind fun q4 =>
    some (q4.1, (q4.2, T.2.1, (T.2.2 + q4.1)))
set_option maxHeartbeats 4000000 in
set_option maxRecDepth 100000 in
theorem c_X1_insertPoint (l : Launch) (g : pq_g) (a : Nat → Nat) (T : DataS) (p1 : Int32) (p2 : Int32) (r : Int32) (T1 : DataS) (hf : f_X1_insertPoint T p1 p2 = some (r, T1)) : pq_Mi l yX1_insertPoint cX1_insertPoint 4 .int 5 g (dataW g a T) [.ref (a 0), .int p1, .int p2] r (dataW g a T1) := by
  rw [f_X1_insertPoint] at hf
  refine pq_Mi.of (own := RX1) (by decide) rfl (Nat.le_of_ble_eq_true rfl) rfl ?_
  intro p e s m below meth c ls Q A S hP hK hD hS hA hl hend
  obtain ⟨hx, hb, hml, hown, hts⟩ := id S
  refine lv_aload_n hx hb dX1_insertPoint_0 rfl (lv_at hl 0 rfl) ?_
  refine pq_get S hK hP inX1 0 rfl rfl 0 (by decide) fl_X1_12 rfl (v := .ref (a 1)) rfl dX1_insertPoint_1 ?_
  refine lv_aload_n hx hb dX1_insertPoint_4 rfl (lv_at hl 0 rfl) ?_
  refine pq_get S hK hP inX1 0 rfl rfl 0 (by decide) fl_X1_12 rfl (v := .ref (a 1)) rfl dX1_insertPoint_5 ?_
  refine lv_iload_n hx hb dX1_insertPoint_8 rfl (lv_at hl 1 rfl) ?_
  refine lv_iload_n hx hb dX1_insertPoint_9 rfl (lv_at hl 2 rfl) ?_
  obtain ⟨q2, e1, hf⟩ := pq_bind hf
  refine pq_cVi S (c_X4_attach l g (pq_sh a 1) T.1 p1 p2 q2.1 q2.2 e1) vv_X1_88 hK (pq_P1 (pq_P2 hP)) (pq_D1 (pq_D2 hD)) hS hA rfl rfl rfl rfl rfl hl.1 (Nat.le_of_ble_eq_true rfl) dX1_insertPoint_10 (by decide) (by decide) ⟨Nat.le_refl _, Nat.le_refl _⟩ (fun H9 locs hk hP1 hS => ?_)
  replace hP := (va_P.app (pq_kp (pq_P1 hP) (pq_ap1 (pq_Dx hD)) hk) (va_P.app hP1 (pq_kp (pq_P2 (pq_P2 hP)) (pq_aps (pq_Dx (pq_D2 hD))) hk)))
  replace hP : va_P g.1 pq_cl (dataW g a (q2.2, T.2.1, T.2.2)) H9 := hP
  replace hD : va_D A (dataW g a (q2.2, T.2.1, T.2.2)) := pq_adr hD (ad_X1 _ _)
  clear hk
  generalize H9 = H at hP hS ⊢
  obtain ⟨q4, e3, hf⟩ := pq_bind hf
  refine pq_cVi S (c_X4_rotateUp l g (pq_sh a 1) q2.2 q2.1 q4.1 q4.2 e3) vv_X1_92 hK (pq_P1 (pq_P2 hP)) (pq_D1 (pq_D2 hD)) hS hA rfl rfl rfl rfl rfl hl.1 (Nat.le_of_ble_eq_true rfl) dX1_insertPoint_13 (by decide) (by decide) ⟨Nat.le_refl _, Nat.le_refl _⟩ (fun H9 locs hk hP1 hS => ?_)
  replace hP := (va_P.app (pq_kp (pq_P1 hP) (pq_ap1 (pq_Dx hD)) hk) (va_P.app hP1 (pq_kp (pq_P2 (pq_P2 hP)) (pq_aps (pq_Dx (pq_D2 hD))) hk)))
  replace hP : va_P g.1 pq_cl (dataW g a (q4.2, T.2.1, T.2.2)) H9 := hP
  replace hD : va_D A (dataW g a (q4.2, T.2.1, T.2.2)) := pq_adr hD (ad_X1 _ _)
  clear hk
  generalize H9 = H at hP hS ⊢
  refine lv_istore_n (lv' := [(3, .int q4.1), (0, .ref (a 0)), (1, .int p1), (2, .int p2)]) hx hb dX1_insertPoint_16 rfl hl (by decide) rfl (fun ls hl => ?_)
  refine lv_aload_n hx hb dX1_insertPoint_17 rfl (lv_at hl 1 rfl) ?_
  refine lv_dup hx hb dX1_insertPoint_18 rfl ?_
  refine pq_get S hK hP inX1 0 rfl rfl 2 (by decide) fl_X1_32 rfl (v := .int T.2.2) rfl dX1_insertPoint_19 ?_
  refine lv_iload_n hx hb dX1_insertPoint_22 rfl (lv_at hl 0 rfl) ?_
  refine lv_iadd hx hb dX1_insertPoint_23 ?_
  refine pq_putf S hK hP hD hS inX1 tyX1_ok nmX1 0 rfl rfl 2 (by decide) fl_X1_32 rfl rfl (ty := .int) rfl rfl rfl (Nat.le_of_ble_eq_true rfl) dX1_insertPoint_24 (fun H locs hP hS => ?_)
  replace hP : va_P g.1 pq_cl (dataW g a (q4.2, T.2.1, (T.2.2 + q4.1))) H := hP
  replace hD : va_D A (dataW g a (q4.2, T.2.1, (T.2.2 + q4.1))) := pq_adr hD (ad_X1 _ _)
  refine lv_iload_n hx hb dX1_insertPoint_27 rfl (lv_at hl 0 rfl) ?_
  obtain ⟨h8, h9⟩ := pq_pair hf
  exact hend _ _ _ _ _ dX1_insertPoint_28 rfl h8 (by rw [← h9]; exact hP) hS
def f_X1_deletePoint (T : DataS) (p1 : Int32) : Option (Int32 × (DataS)) :=
    (f_X4_rotateDown T.1 p1 1).bind fun q2 =>
    (f_X4_detach q2.2 p1).bind fun q4 =>
    some (q2.1, (q4, T.2.1, (T.2.2 + q2.1)))
set_option maxHeartbeats 4000000 in
set_option maxRecDepth 100000 in
theorem c_X1_deletePoint (l : Launch) (g : pq_g) (a : Nat → Nat) (T : DataS) (p1 : Int32) (r : Int32) (T1 : DataS) (hf : f_X1_deletePoint T p1 = some (r, T1)) : pq_Mi l yX1_deletePoint cX1_deletePoint 3 .int 5 g (dataW g a T) [.ref (a 0), .int p1] r (dataW g a T1) := by
  rw [f_X1_deletePoint] at hf
  refine pq_Mi.of (own := RX1) (by decide) rfl (Nat.le_of_ble_eq_true rfl) rfl ?_
  intro p e s m below meth c ls Q A S hP hK hD hS hA hl hend
  obtain ⟨hx, hb, hml, hown, hts⟩ := id S
  refine lv_aload_n hx hb dX1_deletePoint_0 rfl (lv_at hl 0 rfl) ?_
  refine pq_get S hK hP inX1 0 rfl rfl 0 (by decide) fl_X1_12 rfl (v := .ref (a 1)) rfl dX1_deletePoint_1 ?_
  refine lv_iload_n hx hb dX1_deletePoint_4 rfl (lv_at hl 1 rfl) ?_
  refine lv_iconst (v := 1) hx hb dX1_deletePoint_5 (by decide) ?_
  obtain ⟨q2, e1, hf⟩ := pq_bind hf
  refine pq_cVi S (c_X4_rotateDown l g (pq_sh a 1) T.1 p1 1 q2.1 q2.2 e1) vv_X1_95 hK (pq_P1 (pq_P2 hP)) (pq_D1 (pq_D2 hD)) hS hA rfl rfl rfl rfl rfl hl.1 (Nat.le_of_ble_eq_true rfl) dX1_deletePoint_6 (by decide) (by decide) ⟨Nat.le_refl _, Nat.le_refl _⟩ (fun H9 locs hk hP1 hS => ?_)
  replace hP := (va_P.app (pq_kp (pq_P1 hP) (pq_ap1 (pq_Dx hD)) hk) (va_P.app hP1 (pq_kp (pq_P2 (pq_P2 hP)) (pq_aps (pq_Dx (pq_D2 hD))) hk)))
  replace hP : va_P g.1 pq_cl (dataW g a (q2.2, T.2.1, T.2.2)) H9 := hP
  replace hD : va_D A (dataW g a (q2.2, T.2.1, T.2.2)) := pq_adr hD (ad_X1 _ _)
  clear hk
  generalize H9 = H at hP hS ⊢
  refine lv_istore_n (lv' := [(2, .int q2.1), (0, .ref (a 0)), (1, .int p1)]) hx hb dX1_deletePoint_9 rfl hl (by decide) rfl (fun ls hl => ?_)
  refine lv_aload_n hx hb dX1_deletePoint_10 rfl (lv_at hl 1 rfl) ?_
  refine pq_get S hK hP inX1 0 rfl rfl 0 (by decide) fl_X1_12 rfl (v := .ref (a 1)) rfl dX1_deletePoint_11 ?_
  refine lv_iload_n hx hb dX1_deletePoint_14 rfl (lv_at hl 2 rfl) ?_
  obtain ⟨q4, e3, hf⟩ := pq_bind hf
  refine pq_cVv S (c_X4_detach l g (pq_sh a 1) q2.2 p1 q4 e3) vv_X1_99 hK (pq_P1 (pq_P2 hP)) (pq_D1 (pq_D2 hD)) hS hA rfl rfl rfl rfl rfl hl.1 (Nat.le_of_ble_eq_true rfl) dX1_deletePoint_15 (by decide) (by decide) ⟨Nat.le_refl _, Nat.le_refl _⟩ (fun H9 locs hk hP1 hS => ?_)
  replace hP := (va_P.app (pq_kp (pq_P1 hP) (pq_ap1 (pq_Dx hD)) hk) (va_P.app hP1 (pq_kp (pq_P2 (pq_P2 hP)) (pq_aps (pq_Dx (pq_D2 hD))) hk)))
  replace hP : va_P g.1 pq_cl (dataW g a (q4, T.2.1, T.2.2)) H9 := hP
  replace hD : va_D A (dataW g a (q4, T.2.1, T.2.2)) := pq_adr hD (ad_X1 _ _)
  clear hk
  generalize H9 = H at hP hS ⊢
  refine lv_aload_n hx hb dX1_deletePoint_18 rfl (lv_at hl 1 rfl) ?_
  refine lv_dup hx hb dX1_deletePoint_19 rfl ?_
  refine pq_get S hK hP inX1 0 rfl rfl 2 (by decide) fl_X1_32 rfl (v := .int T.2.2) rfl dX1_deletePoint_20 ?_
  refine lv_iload_n hx hb dX1_deletePoint_23 rfl (lv_at hl 0 rfl) ?_
  refine lv_iadd hx hb dX1_deletePoint_24 ?_
  refine pq_putf S hK hP hD hS inX1 tyX1_ok nmX1 0 rfl rfl 2 (by decide) fl_X1_32 rfl rfl (ty := .int) rfl rfl rfl (Nat.le_of_ble_eq_true rfl) dX1_deletePoint_25 (fun H locs hP hS => ?_)
  replace hP : va_P g.1 pq_cl (dataW g a (q4, T.2.1, (T.2.2 + q2.1))) H := hP
  replace hD : va_D A (dataW g a (q4, T.2.1, (T.2.2 + q2.1))) := pq_adr hD (ad_X1 _ _)
  refine lv_iload_n hx hb dX1_deletePoint_28 rfl (lv_at hl 0 rfl) ?_
  obtain ⟨h8, h9⟩ := pq_pair hf
  exact hend _ _ _ _ _ dX1_deletePoint_29 rfl h8 (by rw [← h9]; exact hP) hS
def f_X1_setPriority (T : DataS) (p1 : Int32) (p2 : Int32) : Option (Int32 × (DataS)) :=
    (f_X4_putPriority T.1 p1 p2).bind fun q2 =>
    (f_X4_rotateUp q2 p1).bind fun q4 =>
    (f_X4_rotateDown q4.2 p1 0).bind fun q6 =>
    some ((q4.1 + q6.1), (q6.2, T.2.1, (T.2.2 + (q4.1 + q6.1))))
set_option maxHeartbeats 4000000 in
set_option maxRecDepth 100000 in
theorem c_X1_setPriority (l : Launch) (g : pq_g) (a : Nat → Nat) (T : DataS) (p1 : Int32) (p2 : Int32) (r : Int32) (T1 : DataS) (hf : f_X1_setPriority T p1 p2 = some (r, T1)) : pq_Mi l yX1_setPriority cX1_setPriority 4 .int 5 g (dataW g a T) [.ref (a 0), .int p1, .int p2] r (dataW g a T1) := by
  rw [f_X1_setPriority] at hf
  refine pq_Mi.of (own := RX1) (by decide) rfl (Nat.le_of_ble_eq_true rfl) rfl ?_
  intro p e s m below meth c ls Q A S hP hK hD hS hA hl hend
  obtain ⟨hx, hb, hml, hown, hts⟩ := id S
  refine lv_aload_n hx hb dX1_setPriority_0 rfl (lv_at hl 0 rfl) ?_
  refine pq_get S hK hP inX1 0 rfl rfl 0 (by decide) fl_X1_12 rfl (v := .ref (a 1)) rfl dX1_setPriority_1 ?_
  refine lv_iload_n hx hb dX1_setPriority_4 rfl (lv_at hl 1 rfl) ?_
  refine lv_iload_n hx hb dX1_setPriority_5 rfl (lv_at hl 2 rfl) ?_
  obtain ⟨q2, e1, hf⟩ := pq_bind hf
  refine pq_cVv S (c_X4_putPriority l g (pq_sh a 1) T.1 p1 p2 q2 e1) vv_X1_103 hK (pq_P1 (pq_P2 hP)) (pq_D1 (pq_D2 hD)) hS hA rfl rfl rfl rfl rfl hl.1 (Nat.le_of_ble_eq_true rfl) dX1_setPriority_6 (by decide) (by decide) ⟨Nat.le_refl _, Nat.le_refl _⟩ (fun H9 locs hk hP1 hS => ?_)
  replace hP := (va_P.app (pq_kp (pq_P1 hP) (pq_ap1 (pq_Dx hD)) hk) (va_P.app hP1 (pq_kp (pq_P2 (pq_P2 hP)) (pq_aps (pq_Dx (pq_D2 hD))) hk)))
  replace hP : va_P g.1 pq_cl (dataW g a (q2, T.2.1, T.2.2)) H9 := hP
  replace hD : va_D A (dataW g a (q2, T.2.1, T.2.2)) := pq_adr hD (ad_X1 _ _)
  clear hk
  generalize H9 = H at hP hS ⊢
  refine lv_aload_n hx hb dX1_setPriority_9 rfl (lv_at hl 0 rfl) ?_
  refine pq_get S hK hP inX1 0 rfl rfl 0 (by decide) fl_X1_12 rfl (v := .ref (a 1)) rfl dX1_setPriority_10 ?_
  refine lv_iload_n hx hb dX1_setPriority_13 rfl (lv_at hl 1 rfl) ?_
  obtain ⟨q4, e3, hf⟩ := pq_bind hf
  refine pq_cVi S (c_X4_rotateUp l g (pq_sh a 1) q2 p1 q4.1 q4.2 e3) vv_X1_92 hK (pq_P1 (pq_P2 hP)) (pq_D1 (pq_D2 hD)) hS hA rfl rfl rfl rfl rfl hl.1 (Nat.le_of_ble_eq_true rfl) dX1_setPriority_14 (by decide) (by decide) ⟨Nat.le_refl _, Nat.le_refl _⟩ (fun H9 locs hk hP1 hS => ?_)
  replace hP := (va_P.app (pq_kp (pq_P1 hP) (pq_ap1 (pq_Dx hD)) hk) (va_P.app hP1 (pq_kp (pq_P2 (pq_P2 hP)) (pq_aps (pq_Dx (pq_D2 hD))) hk)))
  replace hP : va_P g.1 pq_cl (dataW g a (q4.2, T.2.1, T.2.2)) H9 := hP
  replace hD : va_D A (dataW g a (q4.2, T.2.1, T.2.2)) := pq_adr hD (ad_X1 _ _)
  clear hk
  generalize H9 = H at hP hS ⊢
  refine lv_aload_n hx hb dX1_setPriority_17 rfl (lv_at hl 0 rfl) ?_
  refine pq_get S hK hP inX1 0 rfl rfl 0 (by decide) fl_X1_12 rfl (v := .ref (a 1)) rfl dX1_setPriority_18 ?_
  refine lv_iload_n hx hb dX1_setPriority_21 rfl (lv_at hl 1 rfl) ?_
  refine lv_iconst (v := 0) hx hb dX1_setPriority_22 (by decide) ?_
  obtain ⟨q6, e5, hf⟩ := pq_bind hf
  refine pq_cVi S (c_X4_rotateDown l g (pq_sh a 1) q4.2 p1 0 q6.1 q6.2 e5) vv_X1_95 hK (pq_P1 (pq_P2 hP)) (pq_D1 (pq_D2 hD)) hS hA rfl rfl rfl rfl rfl hl.1 (Nat.le_of_ble_eq_true rfl) dX1_setPriority_23 (by decide) (by decide) ⟨Nat.le_refl _, Nat.le_refl _⟩ (fun H9 locs hk hP1 hS => ?_)
  replace hP := (va_P.app (pq_kp (pq_P1 hP) (pq_ap1 (pq_Dx hD)) hk) (va_P.app hP1 (pq_kp (pq_P2 (pq_P2 hP)) (pq_aps (pq_Dx (pq_D2 hD))) hk)))
  replace hP : va_P g.1 pq_cl (dataW g a (q6.2, T.2.1, T.2.2)) H9 := hP
  replace hD : va_D A (dataW g a (q6.2, T.2.1, T.2.2)) := pq_adr hD (ad_X1 _ _)
  clear hk
  generalize H9 = H at hP hS ⊢
  refine lv_iadd hx hb dX1_setPriority_26 ?_
  refine lv_istore_n (lv' := [(3, .int (q4.1 + q6.1)), (0, .ref (a 0)), (1, .int p1), (2, .int p2)]) hx hb dX1_setPriority_27 rfl hl (by decide) rfl (fun ls hl => ?_)
  refine lv_aload_n hx hb dX1_setPriority_28 rfl (lv_at hl 1 rfl) ?_
  refine lv_dup hx hb dX1_setPriority_29 rfl ?_
  refine pq_get S hK hP inX1 0 rfl rfl 2 (by decide) fl_X1_32 rfl (v := .int T.2.2) rfl dX1_setPriority_30 ?_
  refine lv_iload_n hx hb dX1_setPriority_33 rfl (lv_at hl 0 rfl) ?_
  refine lv_iadd hx hb dX1_setPriority_34 ?_
  refine pq_putf S hK hP hD hS inX1 tyX1_ok nmX1 0 rfl rfl 2 (by decide) fl_X1_32 rfl rfl (ty := .int) rfl rfl rfl (Nat.le_of_ble_eq_true rfl) dX1_setPriority_35 (fun H locs hP hS => ?_)
  replace hP : va_P g.1 pq_cl (dataW g a (q6.2, T.2.1, (T.2.2 + (q4.1 + q6.1)))) H := hP
  replace hD : va_D A (dataW g a (q6.2, T.2.1, (T.2.2 + (q4.1 + q6.1)))) := pq_adr hD (ad_X1 _ _)
  refine lv_iload_n hx hb dX1_setPriority_38 rfl (lv_at hl 0 rfl) ?_
  obtain ⟨h8, h9⟩ := pq_pair hf
  exact hend _ _ _ _ _ dX1_setPriority_39 rfl h8 (by rw [← h9]; exact hP) hS
def f_X1_movePoint (T : DataS) (p1 : Int32) (p2 : Int32) : Option (Int32 × (DataS)) :=
    (f_X4_priorityIn T.1 p1).bind fun q2 =>
    (f_X4_rotateDown T.1 p1 1).bind fun q4 =>
    (f_X4_detach q4.2 p1).bind fun q6 =>
    (f_X4_attach q6 p2 q2).bind fun q8 =>
    (f_X4_rotateUp q8.2 q8.1).bind fun q10 =>
    some ((q4.1 + q10.1), (q10.2, T.2.1, (T.2.2 + (q4.1 + q10.1))))
set_option maxHeartbeats 4000000 in
set_option maxRecDepth 100000 in
theorem c_X1_movePoint (l : Launch) (g : pq_g) (a : Nat → Nat) (T : DataS) (p1 : Int32) (p2 : Int32) (r : Int32) (T1 : DataS) (hf : f_X1_movePoint T p1 p2 = some (r, T1)) : pq_Mi l yX1_movePoint cX1_movePoint 5 .int 5 g (dataW g a T) [.ref (a 0), .int p1, .int p2] r (dataW g a T1) := by
  rw [f_X1_movePoint] at hf
  refine pq_Mi.of (own := RX1) (by decide) rfl (Nat.le_of_ble_eq_true rfl) rfl ?_
  intro p e s m below meth c ls Q A S hP hK hD hS hA hl hend
  obtain ⟨hx, hb, hml, hown, hts⟩ := id S
  refine lv_aload_n hx hb dX1_movePoint_0 rfl (lv_at hl 0 rfl) ?_
  refine pq_get S hK hP inX1 0 rfl rfl 0 (by decide) fl_X1_12 rfl (v := .ref (a 1)) rfl dX1_movePoint_1 ?_
  refine lv_iload_n hx hb dX1_movePoint_4 rfl (lv_at hl 1 rfl) ?_
  obtain ⟨q2, e1, hf⟩ := pq_bind hf
  refine pq_cV S (c_X4_priorityIn l g (pq_sh a 1) T.1 p1 q2 e1) vv_X1_65 hK (pq_P1 (pq_P2 hP)) rfl rfl rfl rfl rfl hl.1 (Nat.le_of_ble_eq_true rfl) dX1_movePoint_5 (by decide) (by decide) ⟨Nat.le_refl _, Nat.le_refl _⟩ ?_
  refine lv_istore_n (lv' := [(3, .int q2), (0, .ref (a 0)), (1, .int p1), (2, .int p2)]) hx hb dX1_movePoint_8 rfl hl (by decide) rfl (fun ls hl => ?_)
  refine lv_aload_n hx hb dX1_movePoint_9 rfl (lv_at hl 1 rfl) ?_
  refine pq_get S hK hP inX1 0 rfl rfl 0 (by decide) fl_X1_12 rfl (v := .ref (a 1)) rfl dX1_movePoint_10 ?_
  refine lv_iload_n hx hb dX1_movePoint_13 rfl (lv_at hl 2 rfl) ?_
  refine lv_iconst (v := 1) hx hb dX1_movePoint_14 (by decide) ?_
  obtain ⟨q4, e3, hf⟩ := pq_bind hf
  refine pq_cVi S (c_X4_rotateDown l g (pq_sh a 1) T.1 p1 1 q4.1 q4.2 e3) vv_X1_95 hK (pq_P1 (pq_P2 hP)) (pq_D1 (pq_D2 hD)) hS hA rfl rfl rfl rfl rfl hl.1 (Nat.le_of_ble_eq_true rfl) dX1_movePoint_15 (by decide) (by decide) ⟨Nat.le_refl _, Nat.le_refl _⟩ (fun H9 locs hk hP1 hS => ?_)
  replace hP := (va_P.app (pq_kp (pq_P1 hP) (pq_ap1 (pq_Dx hD)) hk) (va_P.app hP1 (pq_kp (pq_P2 (pq_P2 hP)) (pq_aps (pq_Dx (pq_D2 hD))) hk)))
  replace hP : va_P g.1 pq_cl (dataW g a (q4.2, T.2.1, T.2.2)) H9 := hP
  replace hD : va_D A (dataW g a (q4.2, T.2.1, T.2.2)) := pq_adr hD (ad_X1 _ _)
  clear hk
  generalize H9 = H at hP hS ⊢
  refine lv_istore (lv' := [(4, .int q4.1), (3, .int q2), (0, .ref (a 0)), (1, .int p1), (2, .int p2)]) hx hb dX1_movePoint_18 hl (by decide) rfl (fun ls hl => ?_)
  refine lv_aload_n hx hb dX1_movePoint_20 rfl (lv_at hl 2 rfl) ?_
  refine pq_get S hK hP inX1 0 rfl rfl 0 (by decide) fl_X1_12 rfl (v := .ref (a 1)) rfl dX1_movePoint_21 ?_
  refine lv_iload_n hx hb dX1_movePoint_24 rfl (lv_at hl 3 rfl) ?_
  obtain ⟨q6, e5, hf⟩ := pq_bind hf
  refine pq_cVv S (c_X4_detach l g (pq_sh a 1) q4.2 p1 q6 e5) vv_X1_99 hK (pq_P1 (pq_P2 hP)) (pq_D1 (pq_D2 hD)) hS hA rfl rfl rfl rfl rfl hl.1 (Nat.le_of_ble_eq_true rfl) dX1_movePoint_25 (by decide) (by decide) ⟨Nat.le_refl _, Nat.le_refl _⟩ (fun H9 locs hk hP1 hS => ?_)
  replace hP := (va_P.app (pq_kp (pq_P1 hP) (pq_ap1 (pq_Dx hD)) hk) (va_P.app hP1 (pq_kp (pq_P2 (pq_P2 hP)) (pq_aps (pq_Dx (pq_D2 hD))) hk)))
  replace hP : va_P g.1 pq_cl (dataW g a (q6, T.2.1, T.2.2)) H9 := hP
  replace hD : va_D A (dataW g a (q6, T.2.1, T.2.2)) := pq_adr hD (ad_X1 _ _)
  clear hk
  generalize H9 = H at hP hS ⊢
  refine lv_iload hx hb dX1_movePoint_28 (lv_at hl 0 rfl) ?_
  refine lv_aload_n hx hb dX1_movePoint_30 rfl (lv_at hl 2 rfl) ?_
  refine pq_get S hK hP inX1 0 rfl rfl 0 (by decide) fl_X1_12 rfl (v := .ref (a 1)) rfl dX1_movePoint_31 ?_
  refine lv_aload_n hx hb dX1_movePoint_34 rfl (lv_at hl 2 rfl) ?_
  refine pq_get S hK hP inX1 0 rfl rfl 0 (by decide) fl_X1_12 rfl (v := .ref (a 1)) rfl dX1_movePoint_35 ?_
  refine lv_iload_n hx hb dX1_movePoint_38 rfl (lv_at hl 4 rfl) ?_
  refine lv_iload_n hx hb dX1_movePoint_39 rfl (lv_at hl 1 rfl) ?_
  obtain ⟨q8, e7, hf⟩ := pq_bind hf
  refine pq_cVi S (c_X4_attach l g (pq_sh a 1) q6 p2 q2 q8.1 q8.2 e7) vv_X1_88 hK (pq_P1 (pq_P2 hP)) (pq_D1 (pq_D2 hD)) hS hA rfl rfl rfl rfl rfl hl.1 (Nat.le_of_ble_eq_true rfl) dX1_movePoint_40 (by decide) (by decide) ⟨Nat.le_refl _, Nat.le_refl _⟩ (fun H9 locs hk hP1 hS => ?_)
  replace hP := (va_P.app (pq_kp (pq_P1 hP) (pq_ap1 (pq_Dx hD)) hk) (va_P.app hP1 (pq_kp (pq_P2 (pq_P2 hP)) (pq_aps (pq_Dx (pq_D2 hD))) hk)))
  replace hP : va_P g.1 pq_cl (dataW g a (q8.2, T.2.1, T.2.2)) H9 := hP
  replace hD : va_D A (dataW g a (q8.2, T.2.1, T.2.2)) := pq_adr hD (ad_X1 _ _)
  clear hk
  generalize H9 = H at hP hS ⊢
  obtain ⟨q10, e9, hf⟩ := pq_bind hf
  refine pq_cVi S (c_X4_rotateUp l g (pq_sh a 1) q8.2 q8.1 q10.1 q10.2 e9) vv_X1_92 hK (pq_P1 (pq_P2 hP)) (pq_D1 (pq_D2 hD)) hS hA rfl rfl rfl rfl rfl hl.1 (Nat.le_of_ble_eq_true rfl) dX1_movePoint_43 (by decide) (by decide) ⟨Nat.le_refl _, Nat.le_refl _⟩ (fun H9 locs hk hP1 hS => ?_)
  replace hP := (va_P.app (pq_kp (pq_P1 hP) (pq_ap1 (pq_Dx hD)) hk) (va_P.app hP1 (pq_kp (pq_P2 (pq_P2 hP)) (pq_aps (pq_Dx (pq_D2 hD))) hk)))
  replace hP : va_P g.1 pq_cl (dataW g a (q10.2, T.2.1, T.2.2)) H9 := hP
  replace hD : va_D A (dataW g a (q10.2, T.2.1, T.2.2)) := pq_adr hD (ad_X1 _ _)
  clear hk
  generalize H9 = H at hP hS ⊢
  refine lv_iadd hx hb dX1_movePoint_46 ?_
  refine lv_istore (lv' := [(4, .int (q4.1 + q10.1)), (3, .int q2), (0, .ref (a 0)), (1, .int p1), (2, .int p2)]) hx hb dX1_movePoint_47 hl (by decide) rfl (fun ls hl => ?_)
  refine lv_aload_n hx hb dX1_movePoint_49 rfl (lv_at hl 2 rfl) ?_
  refine lv_dup hx hb dX1_movePoint_50 rfl ?_
  refine pq_get S hK hP inX1 0 rfl rfl 2 (by decide) fl_X1_32 rfl (v := .int T.2.2) rfl dX1_movePoint_51 ?_
  refine lv_iload hx hb dX1_movePoint_54 (lv_at hl 0 rfl) ?_
  refine lv_iadd hx hb dX1_movePoint_56 ?_
  refine pq_putf S hK hP hD hS inX1 tyX1_ok nmX1 0 rfl rfl 2 (by decide) fl_X1_32 rfl rfl (ty := .int) rfl rfl rfl (Nat.le_of_ble_eq_true rfl) dX1_movePoint_57 (fun H locs hP hS => ?_)
  replace hP : va_P g.1 pq_cl (dataW g a (q10.2, T.2.1, (T.2.2 + (q4.1 + q10.1)))) H := hP
  replace hD : va_D A (dataW g a (q10.2, T.2.1, (T.2.2 + (q4.1 + q10.1)))) := pq_adr hD (ad_X1 _ _)
  refine lv_iload hx hb dX1_movePoint_60 (lv_at hl 0 rfl) ?_
  obtain ⟨h8, h9⟩ := pq_pair hf
  exact hend _ _ _ _ _ dX1_movePoint_62 rfl h8 (by rw [← h9]; exact hP) hS
