def f_X0_readCommand_c77 (k46 : CmdS → Nat → Int32 → Int32 → Option (Int32 × (CmdS))) (T : CmdS) (v3 : Nat) (v4 : Int32) (v5 : Int32) (v6 : Int32) : Option (Int32 × (CmdS)) :=
    if v6 = 35 then
      (f_X0_readNumber T v4 2).bind fun q6 =>
      if q6.1 = 0 then
        some (0, q6.2)
      else
        k46 q6.2 v3 (v4 + 1) (v5 + 1)
    else
      (f_X0_readNumber T v4 1).bind fun q3 =>
      if q3.1 = 0 then
        some (0, q3.2)
      else
        k46 q3.2 v3 (v4 + 1) (v5 + 1)
def f_X0_readCommand_c46 : Nat → CmdS → Nat → Int32 → Int32 → Option (Int32 × (CmdS))
  | 0, _, _, _, _ => none
  | n + 1, T, v3, v4, v5 =>
    if v3 < 7 then
      if (nI (pq_le.getD v3 0)) ≤ v5 then
        some (1, T)
      else
        if ¬ v5 < 0 ∧ v5.toNatClampNeg < pq_le.getD v3 0 then
          if (pq_ch v3 v5.toNatClampNeg) = 35 then
            f_X0_readCommand_c77 (f_X0_readCommand_c46 n) T v3 v4 v5 (pq_ch v3 v5.toNatClampNeg)
          else
            if (pq_ch v3 v5.toNatClampNeg) = 64 then
              f_X0_readCommand_c77 (f_X0_readCommand_c46 n) T v3 v4 v5 (pq_ch v3 v5.toNatClampNeg)
            else
              (f_X0_take T (pq_ch v3 v5.toNatClampNeg)).bind fun q14 =>
              if q14.1 = 0 then
                some (0, q14.2)
              else
                f_X0_readCommand_c46 n q14.2 v3 v4 (v5 + 1)
        else none
    else none
def f_X0_readCommand (T : CmdS) (p1 : Int32) : Option (Int32 × (CmdS)) :=
    (f_X0_current T).bind fun q17 =>
    if (pq_pt q17) < 7 then
      if (if pq_le.getD (pq_pt q17) 0 = 0 then (1 : Int32) else 0) = 0 then
        f_X0_readCommand_c46 200 (T.1, T.2.1, (T.2.2.1 + 1), (pq_wr 20 T.2.2.2.1 p1 q17), T.2.2.2.2.1, T.2.2.2.2.2) (pq_pt q17) (p1 * 5) 0
      else
        some (0, T)
    else none
set_option maxHeartbeats 4000000 in
set_option maxRecDepth 100000 in
theorem c_X0_readCommand (l : Launch) (g : pq_g) (a : Nat → Nat) (ad av : Nat → Nat) (T : CmdS) (p1 : Int32) (r : Int32) (T1 : CmdS) (hf : f_X0_readCommand T p1 = some (r, T1)) : pq_MiS l yX0_readCommand cX0_readCommand 7 .boolean 6 g ad av (cmdW g a T) [.ref (a 0), .int p1] r (cmdW g a T1) := by
  rw [f_X0_readCommand] at hf
  refine pq_MiS.of (own := RX0) (by decide) rfl (Nat.le_of_ble_eq_true rfl) rfl ?_
  intro p e s m below meth c ls Q A S hP hK hD hS hA hE hl hend
  obtain ⟨hx, hb, hml, hown, hts⟩ := id S
  have B46 : ∀ (n46 : Nat) (T : CmdS) (v3 : Nat) (v4 : Int32) (v5 : Int32) (ls : Array Slot) (H : Heap) (locs : List Loc), va_P g.1 pq_cl (cmdW g a T) H → va_D A (cmdW g a T) → va_S A s.heap H locs → lv_has ls 7 [(0, .ref (a 0)), (3, .ref (ad v3)), (4, .int v4), (5, .int v5)] → f_X0_readCommand_c46 n46 T v3 v4 v5 = some (r, T1) → W p l e (pq_rm 6 0 0) s m ([.ref (a 0), .int p1] : List Value).toArray below meth c H locs 0 0 Q (F0 m 46 ls []) := by
    intro n46
    induction n46 with
    | zero =>
      intro T v3 v4 v5 ls H locs hP hD hS hl hf
      exact absurd hf (by simp [f_X0_readCommand_c46])
    | succ n46 ih46 =>
      have B77 : ∀ (T : CmdS) (v3 : Nat) (v4 : Int32) (v5 : Int32) (v6 : Int32) (ls : Array Slot) (H : Heap) (locs : List Loc), va_P g.1 pq_cl (cmdW g a T) H → va_D A (cmdW g a T) → va_S A s.heap H locs → lv_has ls 7 [(0, .ref (a 0)), (3, .ref (ad v3)), (4, .int v4), (5, .int v5), (6, .int v6)] → f_X0_readCommand_c77 (f_X0_readCommand_c46 n46) T v3 v4 v5 v6 = some (r, T1) → W p l e (pq_rm 6 0 0) s m ([.ref (a 0), .int p1] : List Value).toArray below meth c H locs 0 0 Q (F0 m 77 ls []) := by
        intro T v3 v4 v5 v6 ls H locs hP hD hS hl hf
        rw [f_X0_readCommand_c77] at hf
        refine lv_aload_n hx hb dX0_readCommand_77 rfl (lv_at hl 0 rfl) ?_
        refine lv_iload hx hb dX0_readCommand_78 (lv_at hl 2 rfl) ?_
        refine lv_iload hx hb dX0_readCommand_80 (lv_at hl 4 rfl) ?_
        refine lv_bipush (v := 35) hx hb dX0_readCommand_82 (by decide) ?_
        refine lv_icmp_ne (tgt := 91) hx hb dX0_readCommand_84 (by decide) (fun h1 => ?_) (fun h1 => ?_)
        · replace hf := pq_ifn h1 hf
          refine lv_iconst (v := 1) hx hb dX0_readCommand_91 (by decide) ?_
          obtain ⟨q3, e2, hf⟩ := pq_bind hf
          refine pq_cVi S (c_X0_readNumber l g a T v4 1 q3.1 q3.2 e2) vv_X0_80 hK hP hD hS hA rfl rfl rfl rfl rfl hl.1 (Nat.le_of_ble_eq_true rfl) dX0_readCommand_92 (by decide) (by decide) ⟨Nat.le_refl _, Nat.le_refl _⟩ (fun H9 locs hk hP1 hS => ?_)
          replace hP := hP1
          replace hP : va_P g.1 pq_cl (cmdW g a q3.2) H9 := hP
          replace hD : va_D A (cmdW g a q3.2) := pq_adr hD (ad_X0 _ _)
          clear hk
          generalize H9 = H at hP hS ⊢
          refine lv_if_ne (tgt := 100) hx hb dX0_readCommand_95 (by decide) (fun h4 => ?_) (fun h4 => ?_)
          · replace hf := pq_ifn h4 hf
            refine lv_iinc (v := (v4 + 1)) (lv' := [(4, .int (v4 + 1)), (0, .ref (a 0)), (3, .ref (ad v3)), (5, .int v5), (6, .int v6)]) hx hb dX0_readCommand_100 hl (k := 2) rfl rfl (by decide) rfl (fun ls hl => ?_)
            refine lv_goto (tgt := 117) hx hb dX0_readCommand_103 (by decide) ?_
            refine lv_iinc (v := (v5 + 1)) (lv' := [(5, .int (v5 + 1)), (4, .int (v4 + 1)), (0, .ref (a 0)), (3, .ref (ad v3)), (6, .int v6)]) hx hb dX0_readCommand_117 hl (k := 3) rfl rfl (by decide) rfl (fun ls hl => ?_)
            refine lv_goto (tgt := 46) hx hb dX0_readCommand_120 (by decide) ?_
            exact ih46 q3.2 v3 (v4 + 1) (v5 + 1) ls _ _ hP hD hS (lv_sub hl [2, 3, 1, 0] rfl) hf
          · replace hf := pq_ifp h4 hf
            refine lv_iconst (v := 0) hx hb dX0_readCommand_98 (by decide) ?_
            obtain ⟨h8, h9⟩ := pq_pair hf
            exact hend _ _ _ _ _ dX0_readCommand_99 rfl h8 (by rw [← h9]; exact hP) hS
        · replace hf := pq_ifp h1 hf
          refine lv_iconst (v := 2) hx hb dX0_readCommand_87 (by decide) ?_
          refine lv_goto (tgt := 92) hx hb dX0_readCommand_88 (by decide) ?_
          obtain ⟨q6, e5, hf⟩ := pq_bind hf
          refine pq_cVi S (c_X0_readNumber l g a T v4 2 q6.1 q6.2 e5) vv_X0_80 hK hP hD hS hA rfl rfl rfl rfl rfl hl.1 (Nat.le_of_ble_eq_true rfl) dX0_readCommand_92 (by decide) (by decide) ⟨Nat.le_refl _, Nat.le_refl _⟩ (fun H9 locs hk hP1 hS => ?_)
          replace hP := hP1
          replace hP : va_P g.1 pq_cl (cmdW g a q6.2) H9 := hP
          replace hD : va_D A (cmdW g a q6.2) := pq_adr hD (ad_X0 _ _)
          clear hk
          generalize H9 = H at hP hS ⊢
          refine lv_if_ne (tgt := 100) hx hb dX0_readCommand_95 (by decide) (fun h7 => ?_) (fun h7 => ?_)
          · replace hf := pq_ifn h7 hf
            refine lv_iinc (v := (v4 + 1)) (lv' := [(4, .int (v4 + 1)), (0, .ref (a 0)), (3, .ref (ad v3)), (5, .int v5), (6, .int v6)]) hx hb dX0_readCommand_100 hl (k := 2) rfl rfl (by decide) rfl (fun ls hl => ?_)
            refine lv_goto (tgt := 117) hx hb dX0_readCommand_103 (by decide) ?_
            refine lv_iinc (v := (v5 + 1)) (lv' := [(5, .int (v5 + 1)), (4, .int (v4 + 1)), (0, .ref (a 0)), (3, .ref (ad v3)), (6, .int v6)]) hx hb dX0_readCommand_117 hl (k := 3) rfl rfl (by decide) rfl (fun ls hl => ?_)
            refine lv_goto (tgt := 46) hx hb dX0_readCommand_120 (by decide) ?_
            exact ih46 q6.2 v3 (v4 + 1) (v5 + 1) ls _ _ hP hD hS (lv_sub hl [2, 3, 1, 0] rfl) hf
          · replace hf := pq_ifp h7 hf
            refine lv_iconst (v := 0) hx hb dX0_readCommand_98 (by decide) ?_
            obtain ⟨h8, h9⟩ := pq_pair hf
            exact hend _ _ _ _ _ dX0_readCommand_99 rfl h8 (by rw [← h9]; exact hP) hS
      intro T v3 v4 v5 ls H locs hP hD hS hl hf
      rw [f_X0_readCommand_c46] at hf
      refine lv_iload hx hb dX0_readCommand_46 (lv_at hl 3 rfl) ?_
      refine lv_aload_n hx hb dX0_readCommand_48 rfl (lv_at hl 1 rfl) ?_
      by_cases h8 : v3 < 7
      case neg => exact absurd (pq_ifn h8 hf) (fun h9 => by cases h9)
      replace hf := pq_ifp h8 hf
      refine pq_cVs S (c_J0_length l ad av v3 h8) vv_X0_74 hE h8 hS rfl rfl hl.1 (Nat.le_of_ble_eq_true rfl) dX0_readCommand_49 (by decide) (by decide) ⟨Nat.le_refl _, Nat.le_refl _⟩ ?_
      refine lv_icmp_ge (tgt := 123) hx hb dX0_readCommand_52 (by decide) (fun h9 => ?_) (fun h9 => ?_)
      · replace hf := pq_ifp h9 hf
        refine lv_iconst (v := 1) hx hb dX0_readCommand_123 (by decide) ?_
        obtain ⟨h8, h9⟩ := pq_pair hf
        exact hend _ _ _ _ _ dX0_readCommand_124 rfl h8 (by rw [← h9]; exact hP) hS
      · replace hf := pq_ifn h9 hf
        refine lv_aload_n hx hb dX0_readCommand_55 rfl (lv_at hl 1 rfl) ?_
        refine lv_iload hx hb dX0_readCommand_56 (lv_at hl 3 rfl) ?_
        by_cases h10 : ¬ v5 < 0 ∧ v5.toNatClampNeg < pq_le.getD v3 0
        case neg => exact absurd (pq_ifn h10 hf) (fun h9 => by cases h9)
        replace hf := pq_ifp h10 hf
        refine pq_cVs S (c_J0_charAtx l ad av v3 v5 h8 h10) vv_X0_76 hE h8 hS rfl rfl hl.1 (Nat.le_of_ble_eq_true rfl) dX0_readCommand_58 (by decide) (by decide) ⟨Nat.le_refl _, Nat.le_refl _⟩ ?_
        refine lv_istore (lv' := [(6, .int (pq_ch v3 v5.toNatClampNeg)), (0, .ref (a 0)), (3, .ref (ad v3)), (4, .int v4), (5, .int v5)]) hx hb dX0_readCommand_61 hl (by decide) rfl (fun ls hl => ?_)
        refine lv_iload hx hb dX0_readCommand_63 (lv_at hl 0 rfl) ?_
        refine lv_bipush (v := 35) hx hb dX0_readCommand_65 (by decide) ?_
        refine lv_icmp_eq (tgt := 77) hx hb dX0_readCommand_67 (by decide) (fun h11 => ?_) (fun h11 => ?_)
        · replace hf := pq_ifp h11 hf
          exact B77 T v3 v4 v5 (pq_ch v3 v5.toNatClampNeg) ls _ _ hP hD hS (lv_sub hl [1, 2, 3, 4, 0] rfl) hf
        · replace hf := pq_ifn h11 hf
          refine lv_iload hx hb dX0_readCommand_70 (lv_at hl 0 rfl) ?_
          refine lv_bipush (v := 64) hx hb dX0_readCommand_72 (by decide) ?_
          refine lv_icmp_ne (tgt := 106) hx hb dX0_readCommand_74 (by decide) (fun h12 => ?_) (fun h12 => ?_)
          · replace hf := pq_ifn h12 hf
            refine lv_aload_n hx hb dX0_readCommand_106 rfl (lv_at hl 1 rfl) ?_
            refine lv_iload hx hb dX0_readCommand_107 (lv_at hl 0 rfl) ?_
            obtain ⟨q14, e13, hf⟩ := pq_bind hf
            refine pq_cVi S (c_X0_take l g a T (pq_ch v3 v5.toNatClampNeg) q14.1 q14.2 e13) vv_X0_43 hK hP hD hS hA rfl rfl rfl rfl rfl hl.1 (Nat.le_of_ble_eq_true rfl) dX0_readCommand_109 (by decide) (by decide) ⟨Nat.le_refl _, Nat.le_refl _⟩ (fun H9 locs hk hP1 hS => ?_)
            replace hP := hP1
            replace hP : va_P g.1 pq_cl (cmdW g a q14.2) H9 := hP
            replace hD : va_D A (cmdW g a q14.2) := pq_adr hD (ad_X0 _ _)
            clear hk
            generalize H9 = H at hP hS ⊢
            refine lv_if_ne (tgt := 117) hx hb dX0_readCommand_112 (by decide) (fun h15 => ?_) (fun h15 => ?_)
            · replace hf := pq_ifn h15 hf
              refine lv_iinc (v := (v5 + 1)) (lv' := [(5, .int (v5 + 1)), (6, .int (pq_ch v3 v5.toNatClampNeg)), (0, .ref (a 0)), (3, .ref (ad v3)), (4, .int v4)]) hx hb dX0_readCommand_117 hl (k := 4) rfl rfl (by decide) rfl (fun ls hl => ?_)
              refine lv_goto (tgt := 46) hx hb dX0_readCommand_120 (by decide) ?_
              exact ih46 q14.2 v3 v4 (v5 + 1) ls _ _ hP hD hS (lv_sub hl [2, 3, 4, 0] rfl) hf
            · replace hf := pq_ifp h15 hf
              refine lv_iconst (v := 0) hx hb dX0_readCommand_115 (by decide) ?_
              obtain ⟨h8, h9⟩ := pq_pair hf
              exact hend _ _ _ _ _ dX0_readCommand_116 rfl h8 (by rw [← h9]; exact hP) hS
          · replace hf := pq_ifp h12 hf
            exact B77 T v3 v4 v5 (pq_ch v3 v5.toNatClampNeg) ls _ _ hP hD hS (lv_sub hl [1, 2, 3, 4, 0] rfl) hf
  refine lv_aload_n hx hb dX0_readCommand_0 rfl (lv_at hl 0 rfl) ?_
  obtain ⟨q17, e16, hf⟩ := pq_bind hf
  refine pq_cV S (c_X0_current l g a T q17 e16) vv_X0_46 hK hP rfl rfl rfl rfl rfl hl.1 (Nat.le_of_ble_eq_true rfl) dX0_readCommand_1 (by decide) (by decide) ⟨Nat.le_refl _, Nat.le_refl _⟩ ?_
  refine lv_istore_n (lv' := [(2, .int q17), (0, .ref (a 0)), (1, .int p1)]) hx hb dX0_readCommand_4 rfl hl (by decide) rfl (fun ls hl => ?_)
  refine lv_iload_n hx hb dX0_readCommand_5 rfl (lv_at hl 0 rfl) ?_
  refine pq_pat S hE hS hl.1 (Nat.le_of_ble_eq_true rfl) dX0_readCommand_6 (by decide) ⟨Nat.le_refl _, Nat.le_refl _⟩ ?_
  refine lv_astore_n (lv' := [(3, .ref (ad (pq_pt q17))), (2, .int q17), (0, .ref (a 0)), (1, .int p1)]) hx hb dX0_readCommand_9 rfl hl (by decide) rfl (fun ls hl => ?_)
  refine lv_aload_n hx hb dX0_readCommand_10 rfl (lv_at hl 0 rfl) ?_
  by_cases h18 : (pq_pt q17) < 7
  case neg => exact absurd (pq_ifn h18 hf) (fun h9 => by cases h9)
  replace hf := pq_ifp h18 hf
  refine pq_cVs S (c_J0_isEmpty l ad av (pq_pt q17) h18) vv_X0_68 hE h18 hS rfl rfl hl.1 (Nat.le_of_ble_eq_true rfl) dX0_readCommand_11 (by decide) (by decide) ⟨Nat.le_refl _, Nat.le_refl _⟩ ?_
  refine lv_if_eq (tgt := 19) hx hb dX0_readCommand_14 (by decide) (fun h19 => ?_) (fun h19 => ?_)
  · replace hf := pq_ifp h19 hf
    refine lv_aload_n hx hb dX0_readCommand_19 rfl (lv_at hl 2 rfl) ?_
    refine pq_get S hK hP inX0 0 rfl rfl 3 (by decide) fl_X0_15 rfl (v := .ref (a 2)) rfl dX0_readCommand_20 ?_
    refine lv_iload_n hx hb dX0_readCommand_23 rfl (lv_at hl 3 rfl) ?_
    refine lv_iload_n hx hb dX0_readCommand_24 rfl (lv_at hl 1 rfl) ?_
    refine pq_put S vn_X0_25 hK hP hD hS hA 2 rfl (by decide) hl.1 (Nat.le_of_ble_eq_true rfl) dX0_readCommand_25 (by decide) ⟨Nat.le_refl _, Nat.le_refl _⟩ (fun H locs hP hS => ?_)
    replace hP : va_P g.1 pq_cl (cmdW g a (T.1, T.2.1, T.2.2.1, (pq_wr 20 T.2.2.2.1 p1 q17), T.2.2.2.2.1, T.2.2.2.2.2)) H := hP
    replace hD : va_D A (cmdW g a (T.1, T.2.1, T.2.2.1, (pq_wr 20 T.2.2.2.1 p1 q17), T.2.2.2.2.1, T.2.2.2.2.2)) := pq_adr hD (ad_X0 _ _)
    refine lv_aload_n hx hb dX0_readCommand_28 rfl (lv_at hl 2 rfl) ?_
    refine lv_dup hx hb dX0_readCommand_29 rfl ?_
    refine pq_get S hK hP inX0 0 rfl rfl 2 (by decide) fl_X0_33 rfl (v := .int T.2.2.1) rfl dX0_readCommand_30 ?_
    refine lv_iconst (v := 1) hx hb dX0_readCommand_33 (by decide) ?_
    refine lv_iadd hx hb dX0_readCommand_34 ?_
    refine pq_putf S hK hP hD hS inX0 tyX0_ok nmX0 0 rfl rfl 2 (by decide) fl_X0_33 rfl rfl (ty := .int) rfl rfl rfl (Nat.le_of_ble_eq_true rfl) dX0_readCommand_35 (fun H locs hP hS => ?_)
    replace hP : va_P g.1 pq_cl (cmdW g a (T.1, T.2.1, (T.2.2.1 + 1), (pq_wr 20 T.2.2.2.1 p1 q17), T.2.2.2.2.1, T.2.2.2.2.2)) H := hP
    replace hD : va_D A (cmdW g a (T.1, T.2.1, (T.2.2.1 + 1), (pq_wr 20 T.2.2.2.1 p1 q17), T.2.2.2.2.1, T.2.2.2.2.2)) := pq_adr hD (ad_X0 _ _)
    refine lv_iload_n hx hb dX0_readCommand_38 rfl (lv_at hl 3 rfl) ?_
    refine lv_iconst (v := 5) hx hb dX0_readCommand_39 (by decide) ?_
    refine lv_imul hx hb dX0_readCommand_40 ?_
    refine lv_istore (lv' := [(4, .int (p1 * 5)), (3, .ref (ad (pq_pt q17))), (2, .int q17), (0, .ref (a 0)), (1, .int p1)]) hx hb dX0_readCommand_41 hl (by decide) rfl (fun ls hl => ?_)
    refine lv_iconst (v := 0) hx hb dX0_readCommand_43 (by decide) ?_
    refine lv_istore (lv' := [(5, .int 0), (4, .int (p1 * 5)), (3, .ref (ad (pq_pt q17))), (2, .int q17), (0, .ref (a 0)), (1, .int p1)]) hx hb dX0_readCommand_44 hl (by decide) rfl (fun ls hl => ?_)
    exact B46 200 (T.1, T.2.1, (T.2.2.1 + 1), (pq_wr 20 T.2.2.2.1 p1 q17), T.2.2.2.2.1, T.2.2.2.2.2) (pq_pt q17) (p1 * 5) 0 ls _ _ hP hD hS (lv_sub hl [4, 2, 1, 0] rfl) hf
  · replace hf := pq_ifn h19 hf
    refine lv_iconst (v := 0) hx hb dX0_readCommand_17 (by decide) ?_
    obtain ⟨h8, h9⟩ := pq_pair hf
    exact hend _ _ _ _ _ dX0_readCommand_18 rfl h8 (by rw [← h9]; exact hP) hS
def f_X0_parse_c56 (T : CmdS) (v1 : Int32) : Option (Int32 × (CmdS)) :=
    if v1 = 0 then
      if T.2.2.1 = T.2.1 then
        some (1, T)
      else
        some (0, T)
    else
      some (0, T)
def f_X0_parse_c12 : Nat → CmdS → Int32 → Option (Int32 × (CmdS))
  | 0, _, _ => none
  | n + 1, T, v1 =>
    if v1 = 0 then
      f_X0_parse_c56 T v1
    else
      if 20 ≤ T.2.2.2.2.2 then
        f_X0_parse_c56 T v1
      else
        (f_X0_readCommand T T.2.2.2.2.2).bind fun q6 =>
        if q6.1 = 0 then
          f_X0_parse_c56 q6.2 v1
        else
          (f_X0_take (q6.2.1, q6.2.2.1, q6.2.2.2.1, q6.2.2.2.2.1, q6.2.2.2.2.2.1, (q6.2.2.2.2.2.2 + 1)) 59).bind fun q9 =>
          f_X0_parse_c12 n q9.2 q9.1
def f_X0_parse (T : CmdS) : Option (Int32 × (CmdS)) :=
    f_X0_parse_c12 200 (T.1, T.2.1, 0, T.2.2.2.1, T.2.2.2.2.1, 0) 1
set_option maxHeartbeats 4000000 in
set_option maxRecDepth 100000 in
theorem c_X0_parse (l : Launch) (g : pq_g) (a : Nat → Nat) (ad av : Nat → Nat) (T : CmdS) (r : Int32) (T1 : CmdS) (hf : f_X0_parse T = some (r, T1)) : pq_MiS l yX0_parse cX0_parse 2 .boolean 7 g ad av (cmdW g a T) [.ref (a 0)] r (cmdW g a T1) := by
  rw [f_X0_parse] at hf
  refine pq_MiS.of (own := RX0) (by decide) rfl (Nat.le_of_ble_eq_true rfl) rfl ?_
  intro p e s m below meth c ls Q A S hP hK hD hS hA hE hl hend
  obtain ⟨hx, hb, hml, hown, hts⟩ := id S
  have B56 : ∀ (T : CmdS) (v1 : Int32) (ls : Array Slot) (H : Heap) (locs : List Loc), va_P g.1 pq_cl (cmdW g a T) H → va_D A (cmdW g a T) → va_S A s.heap H locs → lv_has ls 2 [(0, .ref (a 0)), (1, .int v1)] → f_X0_parse_c56 T v1 = some (r, T1) → W p l e (pq_rm 7 0 0) s m ([.ref (a 0)] : List Value).toArray below meth c H locs 0 0 Q (F0 m 56 ls []) := by
    intro T v1 ls H locs hP hD hS hl hf
    rw [f_X0_parse_c56] at hf
    refine lv_iload_n hx hb dX0_parse_56 rfl (lv_at hl 1 rfl) ?_
    refine lv_if_ne (tgt := 75) hx hb dX0_parse_57 (by decide) (fun h1 => ?_) (fun h1 => ?_)
    · replace hf := pq_ifn h1 hf
      refine lv_iconst (v := 0) hx hb dX0_parse_75 (by decide) ?_
      obtain ⟨h8, h9⟩ := pq_pair hf
      exact hend _ _ _ _ _ dX0_parse_76 rfl h8 (by rw [← h9]; exact hP) hS
    · replace hf := pq_ifp h1 hf
      refine lv_aload_n hx hb dX0_parse_60 rfl (lv_at hl 0 rfl) ?_
      refine pq_get S hK hP inX0 0 rfl rfl 2 (by decide) fl_X0_33 rfl (v := .int T.2.2.1) rfl dX0_parse_61 ?_
      refine lv_aload_n hx hb dX0_parse_64 rfl (lv_at hl 0 rfl) ?_
      refine pq_get S hK hP inX0 0 rfl rfl 1 (by decide) fl_X0_21 rfl (v := .int T.2.1) rfl dX0_parse_65 ?_
      refine lv_icmp_ne (tgt := 75) hx hb dX0_parse_68 (by decide) (fun h2 => ?_) (fun h2 => ?_)
      · replace hf := pq_ifn h2 hf
        refine lv_iconst (v := 0) hx hb dX0_parse_75 (by decide) ?_
        obtain ⟨h8, h9⟩ := pq_pair hf
        exact hend _ _ _ _ _ dX0_parse_76 rfl h8 (by rw [← h9]; exact hP) hS
      · replace hf := pq_ifp h2 hf
        refine lv_iconst (v := 1) hx hb dX0_parse_71 (by decide) ?_
        refine lv_goto (tgt := 76) hx hb dX0_parse_72 (by decide) ?_
        obtain ⟨h8, h9⟩ := pq_pair hf
        exact hend _ _ _ _ _ dX0_parse_76 rfl h8 (by rw [← h9]; exact hP) hS
  have B12 : ∀ (n12 : Nat) (T : CmdS) (v1 : Int32) (ls : Array Slot) (H : Heap) (locs : List Loc), va_P g.1 pq_cl (cmdW g a T) H → va_D A (cmdW g a T) → va_S A s.heap H locs → lv_has ls 2 [(0, .ref (a 0)), (1, .int v1)] → f_X0_parse_c12 n12 T v1 = some (r, T1) → W p l e (pq_rm 7 0 0) s m ([.ref (a 0)] : List Value).toArray below meth c H locs 0 0 Q (F0 m 12 ls []) := by
    intro n12
    induction n12 with
    | zero =>
      intro T v1 ls H locs hP hD hS hl hf
      exact absurd hf (by simp [f_X0_parse_c12])
    | succ n12 ih12 =>
      intro T v1 ls H locs hP hD hS hl hf
      rw [f_X0_parse_c12] at hf
      refine lv_iload_n hx hb dX0_parse_12 rfl (lv_at hl 1 rfl) ?_
      refine lv_if_eq (tgt := 56) hx hb dX0_parse_13 (by decide) (fun h3 => ?_) (fun h3 => ?_)
      · replace hf := pq_ifp h3 hf
        exact B56 T v1 ls _ _ hP hD hS (lv_sub hl [0, 1] rfl) hf
      · replace hf := pq_ifn h3 hf
        refine lv_aload_n hx hb dX0_parse_16 rfl (lv_at hl 0 rfl) ?_
        refine pq_get S hK hP inX0 0 rfl rfl 5 (by decide) fl_X0_36 rfl (v := .int T.2.2.2.2.2) rfl dX0_parse_17 ?_
        refine lv_bipush (v := 20) hx hb dX0_parse_20 (by decide) ?_
        refine lv_icmp_ge (tgt := 56) hx hb dX0_parse_22 (by decide) (fun h4 => ?_) (fun h4 => ?_)
        · replace hf := pq_ifp h4 hf
          exact B56 T v1 ls _ _ hP hD hS (lv_sub hl [0, 1] rfl) hf
        · replace hf := pq_ifn h4 hf
          refine lv_aload_n hx hb dX0_parse_25 rfl (lv_at hl 0 rfl) ?_
          refine lv_aload_n hx hb dX0_parse_26 rfl (lv_at hl 0 rfl) ?_
          refine pq_get S hK hP inX0 0 rfl rfl 5 (by decide) fl_X0_36 rfl (v := .int T.2.2.2.2.2) rfl dX0_parse_27 ?_
          obtain ⟨q6, e5, hf⟩ := pq_bind hf
          refine pq_cViS S (c_X0_readCommand l g a ad av T T.2.2.2.2.2 q6.1 q6.2 e5) vv_X0_39 hK hE hP hD hS hA rfl rfl rfl rfl rfl hl.1 (Nat.le_of_ble_eq_true rfl) dX0_parse_30 (by decide) (by decide) ⟨Nat.le_refl _, Nat.le_refl _⟩ (fun H9 locs hk hP1 hS => ?_)
          replace hP := hP1
          replace hP : va_P g.1 pq_cl (cmdW g a q6.2) H9 := hP
          replace hD : va_D A (cmdW g a q6.2) := pq_adr hD (ad_X0 _ _)
          clear hk
          generalize H9 = H at hP hS ⊢
          refine lv_if_eq (tgt := 56) hx hb dX0_parse_33 (by decide) (fun h7 => ?_) (fun h7 => ?_)
          · replace hf := pq_ifp h7 hf
            exact B56 q6.2 v1 ls _ _ hP hD hS (lv_sub hl [0, 1] rfl) hf
          · replace hf := pq_ifn h7 hf
            refine lv_aload_n hx hb dX0_parse_36 rfl (lv_at hl 0 rfl) ?_
            refine lv_dup hx hb dX0_parse_37 rfl ?_
            refine pq_get S hK hP inX0 0 rfl rfl 5 (by decide) fl_X0_36 rfl (v := .int q6.2.2.2.2.2.2) rfl dX0_parse_38 ?_
            refine lv_iconst (v := 1) hx hb dX0_parse_41 (by decide) ?_
            refine lv_iadd hx hb dX0_parse_42 ?_
            refine pq_putf S hK hP hD hS inX0 tyX0_ok nmX0 0 rfl rfl 5 (by decide) fl_X0_36 rfl rfl (ty := .int) rfl rfl rfl (Nat.le_of_ble_eq_true rfl) dX0_parse_43 (fun H locs hP hS => ?_)
            replace hP : va_P g.1 pq_cl (cmdW g a (q6.2.1, q6.2.2.1, q6.2.2.2.1, q6.2.2.2.2.1, q6.2.2.2.2.2.1, (q6.2.2.2.2.2.2 + 1))) H := hP
            replace hD : va_D A (cmdW g a (q6.2.1, q6.2.2.1, q6.2.2.2.1, q6.2.2.2.2.1, q6.2.2.2.2.2.1, (q6.2.2.2.2.2.2 + 1))) := pq_adr hD (ad_X0 _ _)
            refine lv_aload_n hx hb dX0_parse_46 rfl (lv_at hl 0 rfl) ?_
            refine lv_bipush (v := 59) hx hb dX0_parse_47 (by decide) ?_
            obtain ⟨q9, e8, hf⟩ := pq_bind hf
            refine pq_cVi S (c_X0_take l g a (q6.2.1, q6.2.2.1, q6.2.2.2.1, q6.2.2.2.2.1, q6.2.2.2.2.2.1, (q6.2.2.2.2.2.2 + 1)) 59 q9.1 q9.2 e8) vv_X0_43 hK hP hD hS hA rfl rfl rfl rfl rfl hl.1 (Nat.le_of_ble_eq_true rfl) dX0_parse_49 (by decide) (by decide) ⟨Nat.le_refl _, Nat.le_refl _⟩ (fun H9 locs hk hP1 hS => ?_)
            replace hP := hP1
            replace hP : va_P g.1 pq_cl (cmdW g a q9.2) H9 := hP
            replace hD : va_D A (cmdW g a q9.2) := pq_adr hD (ad_X0 _ _)
            clear hk
            generalize H9 = H at hP hS ⊢
            refine lv_istore_n (lv' := [(1, .int q9.1), (0, .ref (a 0))]) hx hb dX0_parse_52 rfl hl (by decide) rfl (fun ls hl => ?_)
            refine lv_goto (tgt := 12) hx hb dX0_parse_53 (by decide) ?_
            exact ih12 q9.2 q9.1 ls _ _ hP hD hS (lv_sub hl [1, 0] rfl) hf
  refine lv_aload_n hx hb dX0_parse_0 rfl (lv_at hl 0 rfl) ?_
  refine lv_iconst (v := 0) hx hb dX0_parse_1 (by decide) ?_
  refine pq_putf S hK hP hD hS inX0 tyX0_ok nmX0 0 rfl rfl 2 (by decide) fl_X0_33 rfl rfl (ty := .int) rfl rfl rfl (Nat.le_of_ble_eq_true rfl) dX0_parse_2 (fun H locs hP hS => ?_)
  replace hP : va_P g.1 pq_cl (cmdW g a (T.1, T.2.1, 0, T.2.2.2.1, T.2.2.2.2.1, T.2.2.2.2.2)) H := hP
  replace hD : va_D A (cmdW g a (T.1, T.2.1, 0, T.2.2.2.1, T.2.2.2.2.1, T.2.2.2.2.2)) := pq_adr hD (ad_X0 _ _)
  refine lv_aload_n hx hb dX0_parse_5 rfl (lv_at hl 0 rfl) ?_
  refine lv_iconst (v := 0) hx hb dX0_parse_6 (by decide) ?_
  refine pq_putf S hK hP hD hS inX0 tyX0_ok nmX0 0 rfl rfl 5 (by decide) fl_X0_36 rfl rfl (ty := .int) rfl rfl rfl (Nat.le_of_ble_eq_true rfl) dX0_parse_7 (fun H locs hP hS => ?_)
  replace hP : va_P g.1 pq_cl (cmdW g a (T.1, T.2.1, 0, T.2.2.2.1, T.2.2.2.2.1, 0)) H := hP
  replace hD : va_D A (cmdW g a (T.1, T.2.1, 0, T.2.2.2.1, T.2.2.2.2.1, 0)) := pq_adr hD (ad_X0 _ _)
  refine lv_iconst (v := 1) hx hb dX0_parse_10 (by decide) ?_
  refine lv_istore_n (lv' := [(1, .int 1), (0, .ref (a 0))]) hx hb dX0_parse_11 rfl hl (by decide) rfl (fun ls hl => ?_)
  exact B12 200 (T.1, T.2.1, 0, T.2.2.2.1, T.2.2.2.2.1, 0) 1 ls _ _ hP hD hS (lv_sub hl [1, 0] rfl) hf
