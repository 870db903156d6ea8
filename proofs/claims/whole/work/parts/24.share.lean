def f_X7_leafShare (T : ModS) : Option (UInt32 × (ModS)) :=
    if (T.2.1 (0 : Int32).toNatClampNeg) ≤ 0 then
      (f_X7_isFine T 0).bind fun q3 =>
      if q3.1 = 0 then
        some (FP.fconst0, q3.2)
      else
        (f_X7_leaves q3.2).bind fun q6 =>
        if (FP.fdiv (FP.i2f q6) (FP.i2f (q3.2.2.1 (0 : Int32).toNatClampNeg))) &&& 0x7fffffff ≤ 0x7f800000 then
          some ((FP.fdiv (FP.i2f q6) (FP.i2f (q3.2.2.1 (0 : Int32).toNatClampNeg))), q3.2)
        else none
    else
      (f_X7_isFine T 1).bind fun q9 =>
      if q9.1 = 0 then
        some (FP.fconst0, q9.2)
      else
        (f_X7_leaves q9.2).bind fun q12 =>
        if (FP.fdiv (FP.i2f q12) (FP.i2f (q9.2.2.1 (0 : Int32).toNatClampNeg))) &&& 0x7fffffff ≤ 0x7f800000 then
          some ((FP.fdiv (FP.i2f q12) (FP.i2f (q9.2.2.1 (0 : Int32).toNatClampNeg))), q9.2)
        else none
set_option maxHeartbeats 4000000 in
set_option maxRecDepth 100000 in
theorem c_X7_leafShare (l : Launch) (g : pq_g) (a : Nat → Nat) (T : ModS) (r : UInt32) (T1 : ModS) (hf : f_X7_leafShare T = some (r, T1)) : pq_Mf l yX7_leafShare cX7_leafShare 1 6 g (modW g a T) [.ref (a 0)] r (modW g a T1) := by
  rw [f_X7_leafShare] at hf
  refine pq_Mf.of (own := RX7) (by decide) rfl (Nat.le_of_ble_eq_true rfl) rfl ?_
  intro p e s m below meth c ls Q A S hP hK hD hS hA hl hend
  obtain ⟨hx, hb, hml, hown, hts⟩ := id S
  refine lv_aload_n hx hb dX7_leafShare_0 rfl (lv_at hl 0 rfl) ?_
  refine lv_aload_n hx hb dX7_leafShare_1 rfl (lv_at hl 0 rfl) ?_
  refine pq_get S hK hP inX7 0 rfl rfl 1 (by decide) fl_X7_9 rfl (v := .ref (a 1)) rfl dX7_leafShare_2 ?_
  refine lv_iconst (v := 0) hx hb dX7_leafShare_5 (by decide) ?_
  refine va_iald hx hb hK.1 hP 1 0 rfl rfl (show ¬ ((0 : Int32) < 0 ∨ 770 ≤ (0 : Int32).toNatClampNeg) by decide) dX7_leafShare_6 ?_
  refine lv_if_le (tgt := 14) hx hb dX7_leafShare_7 (by decide) (fun h1 => ?_) (fun h1 => ?_)
  · replace hf := pq_ifp h1 hf
    refine lv_iconst (v := 0) hx hb dX7_leafShare_14 (by decide) ?_
    obtain ⟨q3, e2, hf⟩ := pq_bind hf
    refine pq_cVi S (c_X7_isFine l g a T 0 q3.1 q3.2 e2) vv_X7_53 hK hP hD hS hA rfl rfl rfl rfl rfl hl.1 (Nat.le_of_ble_eq_true rfl) dX7_leafShare_15 (by decide) (by decide) ⟨Nat.le_refl _, Nat.le_refl _⟩ (fun H9 locs hk hP1 hS => ?_)
    replace hP := hP1
    replace hP : va_P g.1 pq_cl (modW g a q3.2) H9 := hP
    replace hD : va_D A (modW g a q3.2) := pq_adr hD (ad_X7 _ _)
    clear hk
    generalize H9 = H at hP hS ⊢
    refine lv_if_eq (tgt := 37) hx hb dX7_leafShare_18 (by decide) (fun h4 => ?_) (fun h4 => ?_)
    · replace hf := pq_ifp h4 hf
      refine lv_fconst0 hx hb dX7_leafShare_37 ?_
      obtain ⟨h8, h9⟩ := pq_pair hf
      exact hend _ _ _ _ _ dX7_leafShare_38 h8 (by rw [← h9]; exact hP) hS
    · replace hf := pq_ifn h4 hf
      refine lv_aload_n hx hb dX7_leafShare_21 rfl (lv_at hl 0 rfl) ?_
      obtain ⟨q6, e5, hf⟩ := pq_bind hf
      refine pq_cV S (c_X7_leaves l g a q3.2 q6 e5) vv_X7_183 hK hP rfl rfl rfl rfl rfl hl.1 (Nat.le_of_ble_eq_true rfl) dX7_leafShare_22 (by decide) (by decide) ⟨Nat.le_refl _, Nat.le_refl _⟩ ?_
      refine lv_i2f hx hb dX7_leafShare_25 ?_
      refine lv_aload_n hx hb dX7_leafShare_26 rfl (lv_at hl 0 rfl) ?_
      refine pq_get S hK hP inX7 0 rfl rfl 1 (by decide) fl_X7_9 rfl (v := .ref (a 1)) rfl dX7_leafShare_27 ?_
      refine lv_iconst (v := 0) hx hb dX7_leafShare_30 (by decide) ?_
      refine va_iald hx hb hK.1 hP 1 0 rfl rfl (show ¬ ((0 : Int32) < 0 ∨ 770 ≤ (0 : Int32).toNatClampNeg) by decide) dX7_leafShare_31 ?_
      refine lv_i2f hx hb dX7_leafShare_32 ?_
      by_cases h7 : (FP.fdiv (FP.i2f q6) (FP.i2f (q3.2.2.1 (0 : Int32).toNatClampNeg))) &&& 0x7fffffff ≤ 0x7f800000
      case neg => exact absurd (pq_ifn h7 hf) (fun h9 => by cases h9)
      replace hf := pq_ifp h7 hf
      refine lv_fdiv hx hb dX7_leafShare_33 h7 ?_
      refine lv_goto (tgt := 38) hx hb dX7_leafShare_34 (by decide) ?_
      obtain ⟨h8, h9⟩ := pq_pair hf
      exact hend _ _ _ _ _ dX7_leafShare_38 h8 (by rw [← h9]; exact hP) hS
  · replace hf := pq_ifn h1 hf
    refine lv_iconst (v := 1) hx hb dX7_leafShare_10 (by decide) ?_
    refine lv_goto (tgt := 15) hx hb dX7_leafShare_11 (by decide) ?_
    obtain ⟨q9, e8, hf⟩ := pq_bind hf
    refine pq_cVi S (c_X7_isFine l g a T 1 q9.1 q9.2 e8) vv_X7_53 hK hP hD hS hA rfl rfl rfl rfl rfl hl.1 (Nat.le_of_ble_eq_true rfl) dX7_leafShare_15 (by decide) (by decide) ⟨Nat.le_refl _, Nat.le_refl _⟩ (fun H9 locs hk hP1 hS => ?_)
    replace hP := hP1
    replace hP : va_P g.1 pq_cl (modW g a q9.2) H9 := hP
    replace hD : va_D A (modW g a q9.2) := pq_adr hD (ad_X7 _ _)
    clear hk
    generalize H9 = H at hP hS ⊢
    refine lv_if_eq (tgt := 37) hx hb dX7_leafShare_18 (by decide) (fun h10 => ?_) (fun h10 => ?_)
    · replace hf := pq_ifp h10 hf
      refine lv_fconst0 hx hb dX7_leafShare_37 ?_
      obtain ⟨h8, h9⟩ := pq_pair hf
      exact hend _ _ _ _ _ dX7_leafShare_38 h8 (by rw [← h9]; exact hP) hS
    · replace hf := pq_ifn h10 hf
      refine lv_aload_n hx hb dX7_leafShare_21 rfl (lv_at hl 0 rfl) ?_
      obtain ⟨q12, e11, hf⟩ := pq_bind hf
      refine pq_cV S (c_X7_leaves l g a q9.2 q12 e11) vv_X7_183 hK hP rfl rfl rfl rfl rfl hl.1 (Nat.le_of_ble_eq_true rfl) dX7_leafShare_22 (by decide) (by decide) ⟨Nat.le_refl _, Nat.le_refl _⟩ ?_
      refine lv_i2f hx hb dX7_leafShare_25 ?_
      refine lv_aload_n hx hb dX7_leafShare_26 rfl (lv_at hl 0 rfl) ?_
      refine pq_get S hK hP inX7 0 rfl rfl 1 (by decide) fl_X7_9 rfl (v := .ref (a 1)) rfl dX7_leafShare_27 ?_
      refine lv_iconst (v := 0) hx hb dX7_leafShare_30 (by decide) ?_
      refine va_iald hx hb hK.1 hP 1 0 rfl rfl (show ¬ ((0 : Int32) < 0 ∨ 770 ≤ (0 : Int32).toNatClampNeg) by decide) dX7_leafShare_31 ?_
      refine lv_i2f hx hb dX7_leafShare_32 ?_
      by_cases h13 : (FP.fdiv (FP.i2f q12) (FP.i2f (q9.2.2.1 (0 : Int32).toNatClampNeg))) &&& 0x7fffffff ≤ 0x7f800000
      case neg => exact absurd (pq_ifn h13 hf) (fun h9 => by cases h9)
      replace hf := pq_ifp h13 hf
      refine lv_fdiv hx hb dX7_leafShare_33 h13 ?_
      refine lv_goto (tgt := 38) hx hb dX7_leafShare_34 (by decide) ?_
      obtain ⟨h8, h9⟩ := pq_pair hf
      exact hend _ _ _ _ _ dX7_leafShare_38 h8 (by rw [← h9]; exact hP) hS
