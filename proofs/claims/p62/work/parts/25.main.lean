def f_X6_isNumber (p1 : Int32) : Option (Int32) :=
    if p1 < 0 then
      some 0
    else
      if 99 < p1 then
        some 0
      else
        some 1
set_option maxHeartbeats 4000000 in
set_option maxRecDepth 100000 in
theorem c_X6_isNumber (l : Launch) (g : pq_g) (p1 : Int32) (r : Int32) (hf : f_X6_isNumber p1 = some r) : pq_R l yX6_isNumber cX6_isNumber 1 .boolean 1 g ([]) [.int p1] r := by
  rw [f_X6_isNumber] at hf
  refine pq_R.of (own := RX6) (by decide) rfl (Nat.le_of_ble_eq_true rfl) rfl ?_
  intro p e s m below meth c ls Q S hP hK hl hend
  obtain ⟨hx, hb, hml, hown, hts⟩ := id S
  refine lv_iload_n hx hb dX6_isNumber_0 rfl (lv_at hl 0 rfl) ?_
  refine lv_if_lt (tgt := 14) hx hb dX6_isNumber_1 (by decide) (fun h1 => ?_) (fun h1 => ?_)
  · replace hf := pq_ifp h1 hf
    refine lv_iconst (v := 0) hx hb dX6_isNumber_14 (by decide) ?_
    exact hend _ _ _ dX6_isNumber_15 rfl hf
  · replace hf := pq_ifn h1 hf
    refine lv_iload_n hx hb dX6_isNumber_4 rfl (lv_at hl 0 rfl) ?_
    refine lv_bipush (v := 99) hx hb dX6_isNumber_5 (by decide) ?_
    refine lv_icmp_gt (tgt := 14) hx hb dX6_isNumber_7 (by decide) (fun h2 => ?_) (fun h2 => ?_)
    · replace hf := pq_ifp h2 hf
      refine lv_iconst (v := 0) hx hb dX6_isNumber_14 (by decide) ?_
      exact hend _ _ _ dX6_isNumber_15 rfl hf
    · replace hf := pq_ifn h2 hf
      refine lv_iconst (v := 1) hx hb dX6_isNumber_10 (by decide) ?_
      refine lv_goto (tgt := 15) hx hb dX6_isNumber_11 (by decide) ?_
      exact hend _ _ _ dX6_isNumber_15 rfl hf
def f_X6_requireNumber (p1 : Int32) : Option ((String ⊕ Unit) × Unit) :=
    (f_X6_isNumber p1).bind fun q2 =>
    if q2 = 0 then
      some (.inl "java/lang/IllegalArgumentException", ())
    else
      some (.inr (), ())
set_option maxHeartbeats 4000000 in
set_option maxRecDepth 100000 in
theorem c_X6_requireNumber (l : Launch) (g : pq_g) (p1 : Int32) (hst : l.stackTraces = false) (o : String ⊕ Unit) (T1 : Unit) (hf : f_X6_requireNumber p1 = some (o, T1)) : pq_X l yX6_requireNumber cX6_requireNumber 1 none 6 1 g ([]) [.int p1] (pq_ov o) ([]) := by
  rw [f_X6_requireNumber] at hf
  refine pq_X.of hst (by decide) rfl (Nat.le_of_ble_eq_true rfl) rfl ?_
  intro p e s m below meth c ls Q A S hP hK hD hS hA hT hl hend hout hthr
  obtain ⟨hx, hb, hml, hown, hts⟩ := id S
  refine lv_iload_n hx hb dX6_requireNumber_0 rfl (lv_at hl 0 rfl) ?_
  obtain ⟨q2, e1, hf⟩ := pq_bind hf
  refine pq_cS S (c_X6_isNumber l g  p1 q2 e1) vs_X6_361 hK (hP.sub [] rfl) rfl rfl hl.1 (Nat.le_of_ble_eq_true rfl) dX6_requireNumber_1 (by decide) (by decide) ⟨by decide, by decide⟩ ?_
  refine lv_if_ne (tgt := 18) hx hb dX6_requireNumber_4 (by decide) (fun h3 => ?_) (fun h3 => ?_)
  · replace hf := pq_ifn h3 hf
    obtain ⟨h8, h9⟩ := pq_pair hf
    exact hend 18 ls _ _ _ _ _ _ (Or.inr (Or.inl ⟨rfl, dX6_requireNumber_18, rfl, rfl⟩)) (by subst h8; rfl) (by subst h9; exact hP) hS (by decide) (by decide)
  · replace hf := pq_ifp h3 hf
    obtain ⟨h8, h9⟩ := pq_pair hf
    exact hthr 7 ls _ _ _ _ "java/lang/IllegalArgumentException" _ 208 364 212 vt_208_212 (List.mem_of_getElem? (i := 3) rfl) dX6_requireNumber_7 dX6_requireNumber_10 (Or.inr ⟨dX6_requireNumber_11, dX6_requireNumber_14, dX6_requireNumber_17⟩) (by subst h8; rfl) (by subst h9; exact hP) hS hl.1 (by decide) (by decide) (by decide)
def f_X6_reject (T : MainS) (p1 : Int32) (p2 : Int32) : Option (MainS) :=
    some (T.1, T.2.1, T.2.2.1, T.2.2.2.1, T.2.2.2.2.1, T.2.2.2.2.2.1, T.2.2.2.2.2.2.1, T.2.2.2.2.2.2.2.1, p1, p2, 0)
set_option maxHeartbeats 4000000 in
set_option maxRecDepth 100000 in
theorem c_X6_reject (l : Launch) (g : pq_g) (a : Nat → Nat) (T : MainS) (p1 : Int32) (p2 : Int32) (T1 : MainS) (hf : f_X6_reject T p1 p2 = some T1) : pq_Mv l yX6_reject cX6_reject 3 1 g (mainW g a T) [.ref (a 0), .int p1, .int p2] (mainW g a T1) := by
  rw [f_X6_reject] at hf
  refine pq_Mv.of (own := RX6) (by decide) rfl (Nat.le_of_ble_eq_true rfl) rfl ?_
  intro p e s m below meth c ls Q A S hP hK hD hS hA hl hend
  obtain ⟨hx, hb, hml, hown, hts⟩ := id S
  refine lv_aload_n hx hb dX6_reject_0 rfl (lv_at hl 0 rfl) ?_
  refine lv_iload_n hx hb dX6_reject_1 rfl (lv_at hl 1 rfl) ?_
  refine pq_putf S hK hP hD hS inX6 tyX6_ok nmX6 0 rfl rfl 8 (by decide) fl_X6_47 rfl rfl (ty := .int) rfl rfl rfl (Nat.le_of_ble_eq_true rfl) dX6_reject_2 (fun H locs hP hS => ?_)
  replace hP : va_P g.1 pq_cl (mainW g a (T.1, T.2.1, T.2.2.1, T.2.2.2.1, T.2.2.2.2.1, T.2.2.2.2.2.1, T.2.2.2.2.2.2.1, T.2.2.2.2.2.2.2.1, p1, T.2.2.2.2.2.2.2.2.2.1, T.2.2.2.2.2.2.2.2.2.2)) H := hP
  replace hD : va_D A (mainW g a (T.1, T.2.1, T.2.2.1, T.2.2.2.1, T.2.2.2.2.1, T.2.2.2.2.2.1, T.2.2.2.2.2.2.1, T.2.2.2.2.2.2.2.1, p1, T.2.2.2.2.2.2.2.2.2.1, T.2.2.2.2.2.2.2.2.2.2)) := pq_adr hD (ad_X6 _ _)
  refine lv_aload_n hx hb dX6_reject_5 rfl (lv_at hl 0 rfl) ?_
  refine lv_iload_n hx hb dX6_reject_6 rfl (lv_at hl 2 rfl) ?_
  refine pq_putf S hK hP hD hS inX6 tyX6_ok nmX6 0 rfl rfl 9 (by decide) fl_X6_343 rfl rfl (ty := .int) rfl rfl rfl (Nat.le_of_ble_eq_true rfl) dX6_reject_7 (fun H locs hP hS => ?_)
  replace hP : va_P g.1 pq_cl (mainW g a (T.1, T.2.1, T.2.2.1, T.2.2.2.1, T.2.2.2.2.1, T.2.2.2.2.2.1, T.2.2.2.2.2.2.1, T.2.2.2.2.2.2.2.1, p1, p2, T.2.2.2.2.2.2.2.2.2.2)) H := hP
  replace hD : va_D A (mainW g a (T.1, T.2.1, T.2.2.1, T.2.2.2.1, T.2.2.2.2.1, T.2.2.2.2.2.1, T.2.2.2.2.2.2.1, T.2.2.2.2.2.2.2.1, p1, p2, T.2.2.2.2.2.2.2.2.2.2)) := pq_adr hD (ad_X6 _ _)
  refine lv_aload_n hx hb dX6_reject_10 rfl (lv_at hl 0 rfl) ?_
  refine lv_iconst (v := 0) hx hb dX6_reject_11 (by decide) ?_
  refine pq_putf S hK hP hD hS inX6 tyX6_ok nmX6 0 rfl rfl 10 (by decide) fl_X6_50 rfl rfl (ty := .int) rfl rfl rfl (Nat.le_of_ble_eq_true rfl) dX6_reject_12 (fun H locs hP hS => ?_)
  replace hP : va_P g.1 pq_cl (mainW g a (T.1, T.2.1, T.2.2.1, T.2.2.2.1, T.2.2.2.2.1, T.2.2.2.2.2.1, T.2.2.2.2.2.2.1, T.2.2.2.2.2.2.2.1, p1, p2, 0)) H := hP
  replace hD : va_D A (mainW g a (T.1, T.2.1, T.2.2.1, T.2.2.2.1, T.2.2.2.2.1, T.2.2.2.2.2.1, T.2.2.2.2.2.2.1, T.2.2.2.2.2.2.2.1, p1, p2, 0)) := pq_adr hD (ad_X6 _ _)
  exact hend _ _ _ _ dX6_reject_15 (by rw [← Option.some.inj hf]; exact hP) hS
def f_X6_insert (T : MainS) (p1 : Int32) (p2 : Int32) : Option ((String ⊕ Int32) × MainS) :=
    pq_tu T (f_X6_requireNumber p1) fun q1 =>
    pq_tu T (f_X6_requireNumber p2) fun q3 =>
    (f_X1_reasonAgainstInsert T.1 p1 p2).bind fun q6 =>
    if q6 = 0 then
      (f_X2_push T.2.2.2.2.1 T.1).bind fun q9 =>
      (f_X1_insertPoint T.1 p1 p2).bind fun q11 =>
      some (.inr q11.1, (q11.2, T.2.1, T.2.2.1, T.2.2.2.1, q9, T.2.2.2.2.2.1, T.2.2.2.2.2.2.1, T.2.2.2.2.2.2.2.1, T.2.2.2.2.2.2.2.2.1, T.2.2.2.2.2.2.2.2.2.1, T.2.2.2.2.2.2.2.2.2.2))
    else
      (f_X1_detailOf T.1 q6 0 p1 p2).bind fun q13 =>
      (f_X6_reject T q6 q13).bind fun q15 =>
      some (.inl "java/lang/UnsupportedOperationException", q15)
set_option maxHeartbeats 4000000 in
set_option maxRecDepth 100000 in
theorem c_X6_insert (l : Launch) (g : pq_g) (a : Nat → Nat) (T : MainS) (p1 : Int32) (p2 : Int32) (hst : l.stackTraces = false) (o : String ⊕ Int32) (T1 : MainS) (hf : f_X6_insert T p1 p2 = some (o, T1)) : pq_X l yX6_insert cX6_insert 4 (some .int) 7 3 g (mainW g a T) [.ref (a 0), .int p1, .int p2] (pq_oi o) (mainW g a T1) := by
  rw [f_X6_insert] at hf
  refine pq_X.of hst (by decide) rfl (Nat.le_of_ble_eq_true rfl) rfl ?_
  intro p e s m below meth c ls Q A S hP hK hD hS hA hT hl hend hout hthr
  obtain ⟨hx, hb, hml, hown, hts⟩ := id S
  refine lv_iload_n hx hb dX6_insert_0 rfl (lv_at hl 1 rfl) ?_
  rcases pq_tuE hf with ⟨E0, u0, e2, hz⟩ | ⟨q1, u0, e2, hf⟩
  · exact pq_cXS S (c_X6_requireNumber l g p1 hst (.inl E0) u0 e2) vs_X6_53 hK hT pq_P0 pq_D0 hS hA rfl rfl hl.1 (Nat.le_of_ble_eq_true rfl) dX6_insert_1 (by decide) (by decide) ⟨by decide, by decide⟩ (fun E ce q9 H1 locs1 hE hk hP1 hS1 hce hcv hcl => hout _ ls _ H1 locs1 _ _ E ce q9 (by rw [(Prod.mk.inj hz).1]; exact hE) (by rw [(Prod.mk.inj hz).2]; exact (pq_kp0 hP hk)) hS1 hce hcv hcl (by decide) (by decide)) (fun v H1 l1 h9 => by cases h9)
  refine pq_cXS S (c_X6_requireNumber l g p1 hst (.inr q1) u0 e2) vs_X6_53 hK hT pq_P0 pq_D0 hS hA rfl rfl hl.1 (Nat.le_of_ble_eq_true rfl) dX6_insert_1 (by decide) (by decide) ⟨by decide, by decide⟩ (fun E ce q9 H1 l1 h9 => by cases h9) (fun v H9 locs hv hk hP1 hS => ?_)
  obtain rfl : v = none := (Sum.inr.inj hv).symm
  change W _ _ _ _ _ _ _ _ _ _ _ _ _ _ _ (F0 _ _ _ [])
  replace hP := (pq_kp0 hP hk)
  replace hP : va_P g.1 pq_cl (mainW g a T) H9 := hP
  replace hD : va_D A (mainW g a T) := pq_adr hD (ad_X6 _ _)
  clear hk
  generalize H9 = H at hP hS ⊢
  refine lv_iload_n hx hb dX6_insert_4 rfl (lv_at hl 2 rfl) ?_
  rcases pq_tuE hf with ⟨E0, u0, e4, hz⟩ | ⟨q3, u0, e4, hf⟩
  · exact pq_cXS S (c_X6_requireNumber l g p2 hst (.inl E0) u0 e4) vs_X6_53 hK hT pq_P0 pq_D0 hS hA rfl rfl hl.1 (Nat.le_of_ble_eq_true rfl) dX6_insert_5 (by decide) (by decide) ⟨by decide, by decide⟩ (fun E ce q9 H1 locs1 hE hk hP1 hS1 hce hcv hcl => hout _ ls _ H1 locs1 _ _ E ce q9 (by rw [(Prod.mk.inj hz).1]; exact hE) (by rw [(Prod.mk.inj hz).2]; exact (pq_kp0 hP hk)) hS1 hce hcv hcl (by decide) (by decide)) (fun v H1 l1 h9 => by cases h9)
  refine pq_cXS S (c_X6_requireNumber l g p2 hst (.inr q3) u0 e4) vs_X6_53 hK hT pq_P0 pq_D0 hS hA rfl rfl hl.1 (Nat.le_of_ble_eq_true rfl) dX6_insert_5 (by decide) (by decide) ⟨by decide, by decide⟩ (fun E ce q9 H1 l1 h9 => by cases h9) (fun v H9 locs hv hk hP1 hS => ?_)
  obtain rfl : v = none := (Sum.inr.inj hv).symm
  change W _ _ _ _ _ _ _ _ _ _ _ _ _ _ _ (F0 _ _ _ [])
  replace hP := (pq_kp0 hP hk)
  replace hP : va_P g.1 pq_cl (mainW g a T) H9 := hP
  replace hD : va_D A (mainW g a T) := pq_adr hD (ad_X6 _ _)
  clear hk
  generalize H9 = H at hP hS ⊢
  refine lv_aload_n hx hb dX6_insert_8 rfl (lv_at hl 0 rfl) ?_
  refine pq_get S hK hP inX6 0 rfl rfl 0 (by decide) fl_X6_12 rfl (v := .ref (a 1)) rfl dX6_insert_9 ?_
  refine lv_iload_n hx hb dX6_insert_12 rfl (lv_at hl 1 rfl) ?_
  refine lv_iload_n hx hb dX6_insert_13 rfl (lv_at hl 2 rfl) ?_
  obtain ⟨q6, e5, hf⟩ := pq_bind hf
  refine pq_cV S (c_X1_reasonAgainstInsert l g (pq_sh a 1) T.1 p1 p2 q6 e5) vv_X6_57 hK (pq_P1 (pq_P2 hP)) rfl rfl rfl rfl rfl hl.1 (Nat.le_of_ble_eq_true rfl) dX6_insert_14 (by decide) (by decide) ⟨by decide, by decide⟩ ?_
  refine lv_istore_n (lv' := [(3, .int q6), (0, .ref (a 0)), (1, .int p1), (2, .int p2)]) hx hb dX6_insert_17 rfl hl (by decide) rfl (fun ls hl => ?_)
  refine lv_iload_n hx hb dX6_insert_18 rfl (lv_at hl 0 rfl) ?_
  refine lv_if_eq (tgt := 48) hx hb dX6_insert_19 (by decide) (fun h7 => ?_) (fun h7 => ?_)
  · replace hf := pq_ifp h7 hf
    refine lv_aload_n hx hb dX6_insert_48 rfl (lv_at hl 1 rfl) ?_
    refine pq_get S hK hP inX6 0 rfl rfl 4 (by decide) fl_X6_25 rfl (v := .ref (a 40)) rfl dX6_insert_49 ?_
    refine lv_aload_n hx hb dX6_insert_52 rfl (lv_at hl 1 rfl) ?_
    refine pq_get S hK hP inX6 0 rfl rfl 0 (by decide) fl_X6_12 rfl (v := .ref (a 1)) rfl dX6_insert_53 ?_
    obtain ⟨q9, e8, hf⟩ := pq_bind hf
    refine pq_cVv S (c_X2_push l g (pq_sh a 40) (pq_sh a 1) T.2.2.2.2.1 T.1 q9 e8) vv_X6_76 hK (va_P.app (pq_P1 (pq_P2 (pq_P2 (pq_P2 (pq_P2 hP))))) (pq_P1 (pq_P2 hP))) (pq_Da (pq_D1 (pq_D2 (pq_D2 (pq_D2 (pq_D2 hD))))) (pq_D1 (pq_D2 hD)) (pq_aps (pq_ap1 (pq_ap2 (pq_ap2 (pq_Dx (pq_D2 hD))))))) hS hA rfl rfl rfl rfl rfl hl.1 (Nat.le_of_ble_eq_true rfl) dX6_insert_56 (by decide) (by decide) ⟨by decide, by decide⟩ (fun H9 locs hk hP1 hS => ?_)
    replace hP := (va_P.app (pq_kp (pq_P1 hP) (pq_apA (pq_ap1 (pq_ap2 (pq_ap2 (pq_ap2 (pq_Dx hD))))) (pq_ap1 (pq_Dx hD))) hk) (va_P.app (pq_P2 hP1) (va_P.app (pq_kp (pq_P1 (pq_P2 (pq_P2 hP))) (pq_apA (pq_ap1 (pq_ap2 (pq_Dx (pq_D2 (pq_D2 hD))))) (pq_aps (pq_ap1 (pq_Dx (pq_D2 hD))))) hk) (va_P.app (pq_kp (pq_P1 (pq_P2 (pq_P2 (pq_P2 hP)))) (pq_apA (pq_ap1 (pq_Dx (pq_D2 (pq_D2 (pq_D2 hD))))) (pq_aps (pq_ap1 (pq_ap2 (pq_Dx (pq_D2 hD)))))) hk) (va_P.app (pq_P1 hP1) (pq_kp (pq_P2 (pq_P2 (pq_P2 (pq_P2 (pq_P2 hP))))) (pq_apA (pq_aps (pq_Dx (pq_D2 (pq_D2 (pq_D2 (pq_D2 hD)))))) (pq_aps (pq_ap2 (pq_ap2 (pq_ap2 (pq_Dx (pq_D2 hD))))))) hk))))))
    replace hP : va_P g.1 pq_cl (mainW g a (T.1, T.2.1, T.2.2.1, T.2.2.2.1, q9, T.2.2.2.2.2.1, T.2.2.2.2.2.2.1, T.2.2.2.2.2.2.2.1, T.2.2.2.2.2.2.2.2.1, T.2.2.2.2.2.2.2.2.2.1, T.2.2.2.2.2.2.2.2.2.2)) H9 := hP
    replace hD : va_D A (mainW g a (T.1, T.2.1, T.2.2.1, T.2.2.2.1, q9, T.2.2.2.2.2.1, T.2.2.2.2.2.2.1, T.2.2.2.2.2.2.2.1, T.2.2.2.2.2.2.2.2.1, T.2.2.2.2.2.2.2.2.2.1, T.2.2.2.2.2.2.2.2.2.2)) := pq_adr hD (ad_X6 _ _)
    clear hk
    generalize H9 = H at hP hS ⊢
    refine lv_aload_n hx hb dX6_insert_59 rfl (lv_at hl 1 rfl) ?_
    refine pq_get S hK hP inX6 0 rfl rfl 0 (by decide) fl_X6_12 rfl (v := .ref (a 1)) rfl dX6_insert_60 ?_
    refine lv_iload_n hx hb dX6_insert_63 rfl (lv_at hl 2 rfl) ?_
    refine lv_iload_n hx hb dX6_insert_64 rfl (lv_at hl 3 rfl) ?_
    obtain ⟨q11, e10, hf⟩ := pq_bind hf
    refine pq_cVi S (c_X1_insertPoint l g (pq_sh a 1) T.1 p1 p2 q11.1 q11.2 e10) vv_X6_80 hK (pq_P1 (pq_P2 hP)) (pq_D1 (pq_D2 hD)) hS hA rfl rfl rfl rfl rfl hl.1 (Nat.le_of_ble_eq_true rfl) dX6_insert_65 (by decide) (by decide) ⟨by decide, by decide⟩ (fun H9 locs hk hP1 hS => ?_)
    replace hP := (va_P.app (pq_kp (pq_P1 hP) (pq_ap1 (pq_Dx hD)) hk) (va_P.app hP1 (pq_kp (pq_P2 (pq_P2 hP)) (pq_aps (pq_Dx (pq_D2 hD))) hk)))
    replace hP : va_P g.1 pq_cl (mainW g a (q11.2, T.2.1, T.2.2.1, T.2.2.2.1, q9, T.2.2.2.2.2.1, T.2.2.2.2.2.2.1, T.2.2.2.2.2.2.2.1, T.2.2.2.2.2.2.2.2.1, T.2.2.2.2.2.2.2.2.2.1, T.2.2.2.2.2.2.2.2.2.2)) H9 := hP
    replace hD : va_D A (mainW g a (q11.2, T.2.1, T.2.2.1, T.2.2.2.1, q9, T.2.2.2.2.2.1, T.2.2.2.2.2.2.1, T.2.2.2.2.2.2.2.1, T.2.2.2.2.2.2.2.2.1, T.2.2.2.2.2.2.2.2.2.1, T.2.2.2.2.2.2.2.2.2.2)) := pq_adr hD (ad_X6 _ _)
    clear hk
    generalize H9 = H at hP hS ⊢
    obtain ⟨h8, h9⟩ := pq_pair hf
    exact hend 68 ls _ _ _ _ _ _ (Or.inl ⟨_, .int, rfl, rfl, dX6_insert_68, rfl, rfl⟩) (by subst h8; rfl) (by subst h9; exact hP) hS (by decide) (by decide)
  · replace hf := pq_ifn h7 hf
    refine lv_aload_n hx hb dX6_insert_22 rfl (lv_at hl 1 rfl) ?_
    refine lv_iload_n hx hb dX6_insert_23 rfl (lv_at hl 0 rfl) ?_
    refine lv_aload_n hx hb dX6_insert_24 rfl (lv_at hl 1 rfl) ?_
    refine pq_get S hK hP inX6 0 rfl rfl 0 (by decide) fl_X6_12 rfl (v := .ref (a 1)) rfl dX6_insert_25 ?_
    refine lv_iload_n hx hb dX6_insert_28 rfl (lv_at hl 0 rfl) ?_
    refine lv_iconst (v := 0) hx hb dX6_insert_29 (by decide) ?_
    refine lv_iload_n hx hb dX6_insert_30 rfl (lv_at hl 2 rfl) ?_
    refine lv_iload_n hx hb dX6_insert_31 rfl (lv_at hl 3 rfl) ?_
    obtain ⟨q13, e12, hf⟩ := pq_bind hf
    refine pq_cV S (c_X1_detailOf l g (pq_sh a 1) T.1 q6 0 p1 p2 q13 e12) vv_X6_61 hK (pq_P1 (pq_P2 hP)) rfl rfl rfl rfl rfl hl.1 (Nat.le_of_ble_eq_true rfl) dX6_insert_32 (by decide) (by decide) ⟨by decide, by decide⟩ ?_
    obtain ⟨q15, e14, hf⟩ := pq_bind hf
    refine pq_cVv S (c_X6_reject l g a T q6 q13 q15 e14) vv_X6_65 hK hP hD hS hA rfl rfl rfl rfl rfl hl.1 (Nat.le_of_ble_eq_true rfl) dX6_insert_35 (by decide) (by decide) ⟨by decide, by decide⟩ (fun H9 locs hk hP1 hS => ?_)
    replace hP := hP1
    replace hP : va_P g.1 pq_cl (mainW g a q15) H9 := hP
    replace hD : va_D A (mainW g a q15) := pq_adr hD (ad_X6 _ _)
    clear hk
    generalize H9 = H at hP hS ⊢
    obtain ⟨h8, h9⟩ := pq_pair hf
    exact hthr 38 ls _ _ _ _ "java/lang/UnsupportedOperationException" _ 69 71 73 vt_69_73 (List.mem_of_getElem? (i := 7) rfl) dX6_insert_38 dX6_insert_41 (Or.inl ⟨dX6_insert_42, dX6_insert_44, dX6_insert_47⟩) (by subst h8; rfl) (by subst h9; exact hP) hS hl.1 (by decide) (by decide) (by decide)
def f_X6_requirePoint (T : MainS) (p1 : Int32) : Option ((String ⊕ Int32) × MainS) :=
    (f_X4_slotOf T.1.1 p1).bind fun q2 =>
    if q2 = 0 then
      some (.inl "java/util/NoSuchElementException", T)
    else
      some (.inr q2, T)
set_option maxHeartbeats 4000000 in
set_option maxRecDepth 100000 in
theorem c_X6_requirePoint (l : Launch) (g : pq_g) (a : Nat → Nat) (T : MainS) (p1 : Int32) (hst : l.stackTraces = false) (o : String ⊕ Int32) (T1 : MainS) (hf : f_X6_requirePoint T p1 = some (o, T1)) : pq_X l yX6_requirePoint cX6_requirePoint 3 (some .int) 6 1 g (mainW g a T) [.ref (a 0), .int p1] (pq_oi o) (mainW g a T1) := by
  rw [f_X6_requirePoint] at hf
  refine pq_X.of hst (by decide) rfl (Nat.le_of_ble_eq_true rfl) rfl ?_
  intro p e s m below meth c ls Q A S hP hK hD hS hA hT hl hend hout hthr
  obtain ⟨hx, hb, hml, hown, hts⟩ := id S
  refine lv_aload_n hx hb dX6_requirePoint_0 rfl (lv_at hl 0 rfl) ?_
  refine pq_get S hK hP inX6 0 rfl rfl 0 (by decide) fl_X6_12 rfl (v := .ref (a 1)) rfl dX6_requirePoint_1 ?_
  refine pq_getN S hK (pq_P1 (pq_P2 hP)) inX1 0 rfl rfl 0 (by decide) (List.mem_of_getElem? (i := 3) rfl) rfl (v := .ref (a 2)) rfl dX6_requirePoint_4 ?_
  refine lv_iload_n hx hb dX6_requirePoint_7 rfl (lv_at hl 1 rfl) ?_
  obtain ⟨q2, e1, hf⟩ := pq_bind hf
  refine pq_cV S (c_X4_slotOf l g (pq_sh (pq_sh a 1) 1) T.1.1 p1 q2 e1) vv_X6_125 hK (pq_P1 (pq_P2 (pq_P1 (pq_P2 hP)))) rfl rfl rfl rfl rfl hl.1 (Nat.le_of_ble_eq_true rfl) dX6_requirePoint_8 (by decide) (by decide) ⟨by decide, by decide⟩ ?_
  refine lv_istore_n (lv' := [(2, .int q2), (0, .ref (a 0)), (1, .int p1)]) hx hb dX6_requirePoint_11 rfl hl (by decide) rfl (fun ls hl => ?_)
  refine lv_iload_n hx hb dX6_requirePoint_12 rfl (lv_at hl 0 rfl) ?_
  refine lv_if_ne (tgt := 27) hx hb dX6_requirePoint_13 (by decide) (fun h3 => ?_) (fun h3 => ?_)
  · replace hf := pq_ifn h3 hf
    refine lv_iload_n hx hb dX6_requirePoint_27 rfl (lv_at hl 0 rfl) ?_
    obtain ⟨h8, h9⟩ := pq_pair hf
    exact hend 28 ls _ _ _ _ _ _ (Or.inl ⟨_, .int, rfl, rfl, dX6_requirePoint_28, rfl, rfl⟩) (by subst h8; rfl) (by subst h9; exact hP) hS (by decide) (by decide)
  · replace hf := pq_ifp h3 hf
    obtain ⟨h8, h9⟩ := pq_pair hf
    exact hthr 16 ls _ _ _ _ "java/util/NoSuchElementException" _ 335 375 339 vt_335_339 (List.mem_of_getElem? (i := 0) rfl) dX6_requirePoint_16 dX6_requirePoint_19 (Or.inr ⟨dX6_requirePoint_20, dX6_requirePoint_23, dX6_requirePoint_26⟩) (by subst h8; rfl) (by subst h9; exact hP) hS hl.1 (by decide) (by decide) (by decide)
def f_X6_delete (T : MainS) (p1 : Int32) : Option ((String ⊕ Int32) × MainS) :=
    pq_tr (f_X6_requirePoint T p1) fun q1 T3 =>
    (f_X2_push T3.2.2.2.2.1 T3.1).bind fun q5 =>
    (f_X1_deletePoint T3.1 q1).bind fun q7 =>
    some (.inr q7.1, (q7.2, T3.2.1, T3.2.2.1, T3.2.2.2.1, q5, T3.2.2.2.2.2.1, T3.2.2.2.2.2.2.1, T3.2.2.2.2.2.2.2.1, T3.2.2.2.2.2.2.2.2.1, T3.2.2.2.2.2.2.2.2.2.1, T3.2.2.2.2.2.2.2.2.2.2))
set_option maxHeartbeats 4000000 in
set_option maxRecDepth 100000 in
theorem c_X6_delete (l : Launch) (g : pq_g) (a : Nat → Nat) (T : MainS) (p1 : Int32) (hst : l.stackTraces = false) (o : String ⊕ Int32) (T1 : MainS) (hf : f_X6_delete T p1 = some (o, T1)) : pq_X l yX6_delete cX6_delete 3 (some .int) 7 1 g (mainW g a T) [.ref (a 0), .int p1] (pq_oi o) (mainW g a T1) := by
  rw [f_X6_delete] at hf
  refine pq_X.of hst (by decide) rfl (Nat.le_of_ble_eq_true rfl) rfl ?_
  intro p e s m below meth c ls Q A S hP hK hD hS hA hT hl hend hout hthr
  obtain ⟨hx, hb, hml, hown, hts⟩ := id S
  refine lv_aload_n hx hb dX6_delete_0 rfl (lv_at hl 0 rfl) ?_
  refine lv_iload_n hx hb dX6_delete_1 rfl (lv_at hl 1 rfl) ?_
  rcases pq_trE hf with ⟨E0, T3, e2, hz⟩ | ⟨q1, T3, e2, hf⟩
  · exact pq_cXV S (c_X6_requirePoint l g a T p1 hst (.inl E0) T3 e2) vv_X6_83 hK hT hP hD hS hA rfl rfl rfl rfl rfl hl.1 (Nat.le_of_ble_eq_true rfl) dX6_delete_2 (by decide) (by decide) ⟨by decide, by decide⟩ (fun E ce q9 H1 locs1 hE hk hP1 hS1 hce hcv hcl => hout _ ls _ H1 locs1 _ _ E ce q9 (by rw [(Prod.mk.inj hz).1]; exact hE) (by rw [(Prod.mk.inj hz).2]; exact hP1) hS1 hce hcv hcl (by decide) (by decide)) (fun v H1 l1 h9 => by cases h9)
  refine pq_cXV S (c_X6_requirePoint l g a T p1 hst (.inr q1) T3 e2) vv_X6_83 hK hT hP hD hS hA rfl rfl rfl rfl rfl hl.1 (Nat.le_of_ble_eq_true rfl) dX6_delete_2 (by decide) (by decide) ⟨by decide, by decide⟩ (fun E ce q9 H1 l1 h9 => by cases h9) (fun v H9 locs hv hk hP1 hS => ?_)
  obtain rfl : v = some (.int q1) := (Sum.inr.inj hv).symm
  change W _ _ _ _ _ _ _ _ _ _ _ _ _ _ _ (F0 _ _ _ [.int q1])
  replace hP := hP1
  replace hP : va_P g.1 pq_cl (mainW g a T3) H9 := hP
  replace hD : va_D A (mainW g a T3) := pq_adr hD (ad_X6 _ _)
  clear hk
  generalize H9 = H at hP hS ⊢
  refine lv_istore_n (lv' := [(2, .int q1), (0, .ref (a 0)), (1, .int p1)]) hx hb dX6_delete_5 rfl hl (by decide) rfl (fun ls hl => ?_)
  refine lv_aload_n hx hb dX6_delete_6 rfl (lv_at hl 1 rfl) ?_
  refine pq_get S hK hP inX6 0 rfl rfl 4 (by decide) fl_X6_25 rfl (v := .ref (a 40)) rfl dX6_delete_7 ?_
  refine lv_aload_n hx hb dX6_delete_10 rfl (lv_at hl 1 rfl) ?_
  refine pq_get S hK hP inX6 0 rfl rfl 0 (by decide) fl_X6_12 rfl (v := .ref (a 1)) rfl dX6_delete_11 ?_
  obtain ⟨q5, e4, hf⟩ := pq_bind hf
  refine pq_cVv S (c_X2_push l g (pq_sh a 40) (pq_sh a 1) T3.2.2.2.2.1 T3.1 q5 e4) vv_X6_76 hK (va_P.app (pq_P1 (pq_P2 (pq_P2 (pq_P2 (pq_P2 hP))))) (pq_P1 (pq_P2 hP))) (pq_Da (pq_D1 (pq_D2 (pq_D2 (pq_D2 (pq_D2 hD))))) (pq_D1 (pq_D2 hD)) (pq_aps (pq_ap1 (pq_ap2 (pq_ap2 (pq_Dx (pq_D2 hD))))))) hS hA rfl rfl rfl rfl rfl hl.1 (Nat.le_of_ble_eq_true rfl) dX6_delete_14 (by decide) (by decide) ⟨by decide, by decide⟩ (fun H9 locs hk hP1 hS => ?_)
  replace hP := (va_P.app (pq_kp (pq_P1 hP) (pq_apA (pq_ap1 (pq_ap2 (pq_ap2 (pq_ap2 (pq_Dx hD))))) (pq_ap1 (pq_Dx hD))) hk) (va_P.app (pq_P2 hP1) (va_P.app (pq_kp (pq_P1 (pq_P2 (pq_P2 hP))) (pq_apA (pq_ap1 (pq_ap2 (pq_Dx (pq_D2 (pq_D2 hD))))) (pq_aps (pq_ap1 (pq_Dx (pq_D2 hD))))) hk) (va_P.app (pq_kp (pq_P1 (pq_P2 (pq_P2 (pq_P2 hP)))) (pq_apA (pq_ap1 (pq_Dx (pq_D2 (pq_D2 (pq_D2 hD))))) (pq_aps (pq_ap1 (pq_ap2 (pq_Dx (pq_D2 hD)))))) hk) (va_P.app (pq_P1 hP1) (pq_kp (pq_P2 (pq_P2 (pq_P2 (pq_P2 (pq_P2 hP))))) (pq_apA (pq_aps (pq_Dx (pq_D2 (pq_D2 (pq_D2 (pq_D2 hD)))))) (pq_aps (pq_ap2 (pq_ap2 (pq_ap2 (pq_Dx (pq_D2 hD))))))) hk))))))
  replace hP : va_P g.1 pq_cl (mainW g a (T3.1, T3.2.1, T3.2.2.1, T3.2.2.2.1, q5, T3.2.2.2.2.2.1, T3.2.2.2.2.2.2.1, T3.2.2.2.2.2.2.2.1, T3.2.2.2.2.2.2.2.2.1, T3.2.2.2.2.2.2.2.2.2.1, T3.2.2.2.2.2.2.2.2.2.2)) H9 := hP
  replace hD : va_D A (mainW g a (T3.1, T3.2.1, T3.2.2.1, T3.2.2.2.1, q5, T3.2.2.2.2.2.1, T3.2.2.2.2.2.2.1, T3.2.2.2.2.2.2.2.1, T3.2.2.2.2.2.2.2.2.1, T3.2.2.2.2.2.2.2.2.2.1, T3.2.2.2.2.2.2.2.2.2.2)) := pq_adr hD (ad_X6 _ _)
  clear hk
  generalize H9 = H at hP hS ⊢
  refine lv_aload_n hx hb dX6_delete_17 rfl (lv_at hl 1 rfl) ?_
  refine pq_get S hK hP inX6 0 rfl rfl 0 (by decide) fl_X6_12 rfl (v := .ref (a 1)) rfl dX6_delete_18 ?_
  refine lv_iload_n hx hb dX6_delete_21 rfl (lv_at hl 0 rfl) ?_
  obtain ⟨q7, e6, hf⟩ := pq_bind hf
  refine pq_cVi S (c_X1_deletePoint l g (pq_sh a 1) T3.1 q1 q7.1 q7.2 e6) vv_X6_87 hK (pq_P1 (pq_P2 hP)) (pq_D1 (pq_D2 hD)) hS hA rfl rfl rfl rfl rfl hl.1 (Nat.le_of_ble_eq_true rfl) dX6_delete_22 (by decide) (by decide) ⟨by decide, by decide⟩ (fun H9 locs hk hP1 hS => ?_)
  replace hP := (va_P.app (pq_kp (pq_P1 hP) (pq_ap1 (pq_Dx hD)) hk) (va_P.app hP1 (pq_kp (pq_P2 (pq_P2 hP)) (pq_aps (pq_Dx (pq_D2 hD))) hk)))
  replace hP : va_P g.1 pq_cl (mainW g a (q7.2, T3.2.1, T3.2.2.1, T3.2.2.2.1, q5, T3.2.2.2.2.2.1, T3.2.2.2.2.2.2.1, T3.2.2.2.2.2.2.2.1, T3.2.2.2.2.2.2.2.2.1, T3.2.2.2.2.2.2.2.2.2.1, T3.2.2.2.2.2.2.2.2.2.2)) H9 := hP
  replace hD : va_D A (mainW g a (q7.2, T3.2.1, T3.2.2.1, T3.2.2.2.1, q5, T3.2.2.2.2.2.1, T3.2.2.2.2.2.2.1, T3.2.2.2.2.2.2.2.1, T3.2.2.2.2.2.2.2.2.1, T3.2.2.2.2.2.2.2.2.2.1, T3.2.2.2.2.2.2.2.2.2.2)) := pq_adr hD (ad_X6 _ _)
  clear hk
  generalize H9 = H at hP hS ⊢
  obtain ⟨h8, h9⟩ := pq_pair hf
  exact hend 25 ls _ _ _ _ _ _ (Or.inl ⟨_, .int, rfl, rfl, dX6_delete_25, rfl, rfl⟩) (by subst h8; rfl) (by subst h9; exact hP) hS (by decide) (by decide)
def f_X6_changePriority (T : MainS) (p1 : Int32) (p2 : Int32) : Option ((String ⊕ Int32) × MainS) :=
    pq_tr (f_X6_requirePoint T p1) fun q1 T3 =>
    pq_tu T3 (f_X6_requireNumber p2) fun q4 =>
    (f_X1_reasonAgainstPriority T3.1 q1 p2).bind fun q7 =>
    if q7 = 0 then
      (f_X2_push T3.2.2.2.2.1 T3.1).bind fun q10 =>
      (f_X1_setPriority T3.1 q1 p2).bind fun q12 =>
      some (.inr q12.1, (q12.2, T3.2.1, T3.2.2.1, T3.2.2.2.1, q10, T3.2.2.2.2.2.1, T3.2.2.2.2.2.2.1, T3.2.2.2.2.2.2.2.1, T3.2.2.2.2.2.2.2.2.1, T3.2.2.2.2.2.2.2.2.2.1, T3.2.2.2.2.2.2.2.2.2.2))
    else
      (f_X1_detailOf T3.1 q7 q1 p1 p2).bind fun q14 =>
      (f_X6_reject T3 q7 q14).bind fun q16 =>
      some (.inl "java/lang/UnsupportedOperationException", q16)
set_option maxHeartbeats 4000000 in
set_option maxRecDepth 100000 in
theorem c_X6_changePriority (l : Launch) (g : pq_g) (a : Nat → Nat) (T : MainS) (p1 : Int32) (p2 : Int32) (hst : l.stackTraces = false) (o : String ⊕ Int32) (T1 : MainS) (hf : f_X6_changePriority T p1 p2 = some (o, T1)) : pq_X l yX6_changePriority cX6_changePriority 5 (some .int) 7 3 g (mainW g a T) [.ref (a 0), .int p1, .int p2] (pq_oi o) (mainW g a T1) := by
  rw [f_X6_changePriority] at hf
  refine pq_X.of hst (by decide) rfl (Nat.le_of_ble_eq_true rfl) rfl ?_
  intro p e s m below meth c ls Q A S hP hK hD hS hA hT hl hend hout hthr
  obtain ⟨hx, hb, hml, hown, hts⟩ := id S
  refine lv_aload_n hx hb dX6_changePriority_0 rfl (lv_at hl 0 rfl) ?_
  refine lv_iload_n hx hb dX6_changePriority_1 rfl (lv_at hl 1 rfl) ?_
  rcases pq_trE hf with ⟨E0, T3, e2, hz⟩ | ⟨q1, T3, e2, hf⟩
  · exact pq_cXV S (c_X6_requirePoint l g a T p1 hst (.inl E0) T3 e2) vv_X6_83 hK hT hP hD hS hA rfl rfl rfl rfl rfl hl.1 (Nat.le_of_ble_eq_true rfl) dX6_changePriority_2 (by decide) (by decide) ⟨by decide, by decide⟩ (fun E ce q9 H1 locs1 hE hk hP1 hS1 hce hcv hcl => hout _ ls _ H1 locs1 _ _ E ce q9 (by rw [(Prod.mk.inj hz).1]; exact hE) (by rw [(Prod.mk.inj hz).2]; exact hP1) hS1 hce hcv hcl (by decide) (by decide)) (fun v H1 l1 h9 => by cases h9)
  refine pq_cXV S (c_X6_requirePoint l g a T p1 hst (.inr q1) T3 e2) vv_X6_83 hK hT hP hD hS hA rfl rfl rfl rfl rfl hl.1 (Nat.le_of_ble_eq_true rfl) dX6_changePriority_2 (by decide) (by decide) ⟨by decide, by decide⟩ (fun E ce q9 H1 l1 h9 => by cases h9) (fun v H9 locs hv hk hP1 hS => ?_)
  obtain rfl : v = some (.int q1) := (Sum.inr.inj hv).symm
  change W _ _ _ _ _ _ _ _ _ _ _ _ _ _ _ (F0 _ _ _ [.int q1])
  replace hP := hP1
  replace hP : va_P g.1 pq_cl (mainW g a T3) H9 := hP
  replace hD : va_D A (mainW g a T3) := pq_adr hD (ad_X6 _ _)
  clear hk
  generalize H9 = H at hP hS ⊢
  refine lv_istore_n (lv' := [(3, .int q1), (0, .ref (a 0)), (1, .int p1), (2, .int p2)]) hx hb dX6_changePriority_5 rfl hl (by decide) rfl (fun ls hl => ?_)
  refine lv_iload_n hx hb dX6_changePriority_6 rfl (lv_at hl 3 rfl) ?_
  rcases pq_tuE hf with ⟨E0, u0, e5, hz⟩ | ⟨q4, u0, e5, hf⟩
  · exact pq_cXS S (c_X6_requireNumber l g p2 hst (.inl E0) u0 e5) vs_X6_53 hK hT pq_P0 pq_D0 hS hA rfl rfl hl.1 (Nat.le_of_ble_eq_true rfl) dX6_changePriority_7 (by decide) (by decide) ⟨by decide, by decide⟩ (fun E ce q9 H1 locs1 hE hk hP1 hS1 hce hcv hcl => hout _ ls _ H1 locs1 _ _ E ce q9 (by rw [(Prod.mk.inj hz).1]; exact hE) (by rw [(Prod.mk.inj hz).2]; exact (pq_kp0 hP hk)) hS1 hce hcv hcl (by decide) (by decide)) (fun v H1 l1 h9 => by cases h9)
  refine pq_cXS S (c_X6_requireNumber l g p2 hst (.inr q4) u0 e5) vs_X6_53 hK hT pq_P0 pq_D0 hS hA rfl rfl hl.1 (Nat.le_of_ble_eq_true rfl) dX6_changePriority_7 (by decide) (by decide) ⟨by decide, by decide⟩ (fun E ce q9 H1 l1 h9 => by cases h9) (fun v H9 locs hv hk hP1 hS => ?_)
  obtain rfl : v = none := (Sum.inr.inj hv).symm
  change W _ _ _ _ _ _ _ _ _ _ _ _ _ _ _ (F0 _ _ _ [])
  replace hP := (pq_kp0 hP hk)
  replace hP : va_P g.1 pq_cl (mainW g a T3) H9 := hP
  replace hD : va_D A (mainW g a T3) := pq_adr hD (ad_X6 _ _)
  clear hk
  generalize H9 = H at hP hS ⊢
  refine lv_aload_n hx hb dX6_changePriority_10 rfl (lv_at hl 1 rfl) ?_
  refine pq_get S hK hP inX6 0 rfl rfl 0 (by decide) fl_X6_12 rfl (v := .ref (a 1)) rfl dX6_changePriority_11 ?_
  refine lv_iload_n hx hb dX6_changePriority_14 rfl (lv_at hl 0 rfl) ?_
  refine lv_iload_n hx hb dX6_changePriority_15 rfl (lv_at hl 3 rfl) ?_
  obtain ⟨q7, e6, hf⟩ := pq_bind hf
  refine pq_cV S (c_X1_reasonAgainstPriority l g (pq_sh a 1) T3.1 q1 p2 q7 e6) vv_X6_90 hK (pq_P1 (pq_P2 hP)) rfl rfl rfl rfl rfl hl.1 (Nat.le_of_ble_eq_true rfl) dX6_changePriority_16 (by decide) (by decide) ⟨by decide, by decide⟩ ?_
  refine lv_istore (lv' := [(4, .int q7), (3, .int q1), (0, .ref (a 0)), (1, .int p1), (2, .int p2)]) hx hb dX6_changePriority_19 hl (by decide) rfl (fun ls hl => ?_)
  refine lv_iload hx hb dX6_changePriority_21 (lv_at hl 0 rfl) ?_
  refine lv_if_eq (tgt := 54) hx hb dX6_changePriority_23 (by decide) (fun h8 => ?_) (fun h8 => ?_)
  · replace hf := pq_ifp h8 hf
    refine lv_aload_n hx hb dX6_changePriority_54 rfl (lv_at hl 2 rfl) ?_
    refine pq_get S hK hP inX6 0 rfl rfl 4 (by decide) fl_X6_25 rfl (v := .ref (a 40)) rfl dX6_changePriority_55 ?_
    refine lv_aload_n hx hb dX6_changePriority_58 rfl (lv_at hl 2 rfl) ?_
    refine pq_get S hK hP inX6 0 rfl rfl 0 (by decide) fl_X6_12 rfl (v := .ref (a 1)) rfl dX6_changePriority_59 ?_
    obtain ⟨q10, e9, hf⟩ := pq_bind hf
    refine pq_cVv S (c_X2_push l g (pq_sh a 40) (pq_sh a 1) T3.2.2.2.2.1 T3.1 q10 e9) vv_X6_76 hK (va_P.app (pq_P1 (pq_P2 (pq_P2 (pq_P2 (pq_P2 hP))))) (pq_P1 (pq_P2 hP))) (pq_Da (pq_D1 (pq_D2 (pq_D2 (pq_D2 (pq_D2 hD))))) (pq_D1 (pq_D2 hD)) (pq_aps (pq_ap1 (pq_ap2 (pq_ap2 (pq_Dx (pq_D2 hD))))))) hS hA rfl rfl rfl rfl rfl hl.1 (Nat.le_of_ble_eq_true rfl) dX6_changePriority_62 (by decide) (by decide) ⟨by decide, by decide⟩ (fun H9 locs hk hP1 hS => ?_)
    replace hP := (va_P.app (pq_kp (pq_P1 hP) (pq_apA (pq_ap1 (pq_ap2 (pq_ap2 (pq_ap2 (pq_Dx hD))))) (pq_ap1 (pq_Dx hD))) hk) (va_P.app (pq_P2 hP1) (va_P.app (pq_kp (pq_P1 (pq_P2 (pq_P2 hP))) (pq_apA (pq_ap1 (pq_ap2 (pq_Dx (pq_D2 (pq_D2 hD))))) (pq_aps (pq_ap1 (pq_Dx (pq_D2 hD))))) hk) (va_P.app (pq_kp (pq_P1 (pq_P2 (pq_P2 (pq_P2 hP)))) (pq_apA (pq_ap1 (pq_Dx (pq_D2 (pq_D2 (pq_D2 hD))))) (pq_aps (pq_ap1 (pq_ap2 (pq_Dx (pq_D2 hD)))))) hk) (va_P.app (pq_P1 hP1) (pq_kp (pq_P2 (pq_P2 (pq_P2 (pq_P2 (pq_P2 hP))))) (pq_apA (pq_aps (pq_Dx (pq_D2 (pq_D2 (pq_D2 (pq_D2 hD)))))) (pq_aps (pq_ap2 (pq_ap2 (pq_ap2 (pq_Dx (pq_D2 hD))))))) hk))))))
    replace hP : va_P g.1 pq_cl (mainW g a (T3.1, T3.2.1, T3.2.2.1, T3.2.2.2.1, q10, T3.2.2.2.2.2.1, T3.2.2.2.2.2.2.1, T3.2.2.2.2.2.2.2.1, T3.2.2.2.2.2.2.2.2.1, T3.2.2.2.2.2.2.2.2.2.1, T3.2.2.2.2.2.2.2.2.2.2)) H9 := hP
    replace hD : va_D A (mainW g a (T3.1, T3.2.1, T3.2.2.1, T3.2.2.2.1, q10, T3.2.2.2.2.2.1, T3.2.2.2.2.2.2.1, T3.2.2.2.2.2.2.2.1, T3.2.2.2.2.2.2.2.2.1, T3.2.2.2.2.2.2.2.2.2.1, T3.2.2.2.2.2.2.2.2.2.2)) := pq_adr hD (ad_X6 _ _)
    clear hk
    generalize H9 = H at hP hS ⊢
    refine lv_aload_n hx hb dX6_changePriority_65 rfl (lv_at hl 2 rfl) ?_
    refine pq_get S hK hP inX6 0 rfl rfl 0 (by decide) fl_X6_12 rfl (v := .ref (a 1)) rfl dX6_changePriority_66 ?_
    refine lv_iload_n hx hb dX6_changePriority_69 rfl (lv_at hl 1 rfl) ?_
    refine lv_iload_n hx hb dX6_changePriority_70 rfl (lv_at hl 4 rfl) ?_
    obtain ⟨q12, e11, hf⟩ := pq_bind hf
    refine pq_cVi S (c_X1_setPriority l g (pq_sh a 1) T3.1 q1 p2 q12.1 q12.2 e11) vv_X6_95 hK (pq_P1 (pq_P2 hP)) (pq_D1 (pq_D2 hD)) hS hA rfl rfl rfl rfl rfl hl.1 (Nat.le_of_ble_eq_true rfl) dX6_changePriority_71 (by decide) (by decide) ⟨by decide, by decide⟩ (fun H9 locs hk hP1 hS => ?_)
    replace hP := (va_P.app (pq_kp (pq_P1 hP) (pq_ap1 (pq_Dx hD)) hk) (va_P.app hP1 (pq_kp (pq_P2 (pq_P2 hP)) (pq_aps (pq_Dx (pq_D2 hD))) hk)))
    replace hP : va_P g.1 pq_cl (mainW g a (q12.2, T3.2.1, T3.2.2.1, T3.2.2.2.1, q10, T3.2.2.2.2.2.1, T3.2.2.2.2.2.2.1, T3.2.2.2.2.2.2.2.1, T3.2.2.2.2.2.2.2.2.1, T3.2.2.2.2.2.2.2.2.2.1, T3.2.2.2.2.2.2.2.2.2.2)) H9 := hP
    replace hD : va_D A (mainW g a (q12.2, T3.2.1, T3.2.2.1, T3.2.2.2.1, q10, T3.2.2.2.2.2.1, T3.2.2.2.2.2.2.1, T3.2.2.2.2.2.2.2.1, T3.2.2.2.2.2.2.2.2.1, T3.2.2.2.2.2.2.2.2.2.1, T3.2.2.2.2.2.2.2.2.2.2)) := pq_adr hD (ad_X6 _ _)
    clear hk
    generalize H9 = H at hP hS ⊢
    obtain ⟨h8, h9⟩ := pq_pair hf
    exact hend 74 ls _ _ _ _ _ _ (Or.inl ⟨_, .int, rfl, rfl, dX6_changePriority_74, rfl, rfl⟩) (by subst h8; rfl) (by subst h9; exact hP) hS (by decide) (by decide)
  · replace hf := pq_ifn h8 hf
    refine lv_aload_n hx hb dX6_changePriority_26 rfl (lv_at hl 2 rfl) ?_
    refine lv_iload hx hb dX6_changePriority_27 (lv_at hl 0 rfl) ?_
    refine lv_aload_n hx hb dX6_changePriority_29 rfl (lv_at hl 2 rfl) ?_
    refine pq_get S hK hP inX6 0 rfl rfl 0 (by decide) fl_X6_12 rfl (v := .ref (a 1)) rfl dX6_changePriority_30 ?_
    refine lv_iload hx hb dX6_changePriority_33 (lv_at hl 0 rfl) ?_
    refine lv_iload_n hx hb dX6_changePriority_35 rfl (lv_at hl 1 rfl) ?_
    refine lv_iload_n hx hb dX6_changePriority_36 rfl (lv_at hl 3 rfl) ?_
    refine lv_iload_n hx hb dX6_changePriority_37 rfl (lv_at hl 4 rfl) ?_
    obtain ⟨q14, e13, hf⟩ := pq_bind hf
    refine pq_cV S (c_X1_detailOf l g (pq_sh a 1) T3.1 q7 q1 p1 p2 q14 e13) vv_X6_61 hK (pq_P1 (pq_P2 hP)) rfl rfl rfl rfl rfl hl.1 (Nat.le_of_ble_eq_true rfl) dX6_changePriority_38 (by decide) (by decide) ⟨by decide, by decide⟩ ?_
    obtain ⟨q16, e15, hf⟩ := pq_bind hf
    refine pq_cVv S (c_X6_reject l g a T3 q7 q14 q16 e15) vv_X6_65 hK hP hD hS hA rfl rfl rfl rfl rfl hl.1 (Nat.le_of_ble_eq_true rfl) dX6_changePriority_41 (by decide) (by decide) ⟨by decide, by decide⟩ (fun H9 locs hk hP1 hS => ?_)
    replace hP := hP1
    replace hP : va_P g.1 pq_cl (mainW g a q16) H9 := hP
    replace hD : va_D A (mainW g a q16) := pq_adr hD (ad_X6 _ _)
    clear hk
    generalize H9 = H at hP hS ⊢
    obtain ⟨h8, h9⟩ := pq_pair hf
    exact hthr 44 ls _ _ _ _ "java/lang/UnsupportedOperationException" _ 69 93 73 vt_69_73 (List.mem_of_getElem? (i := 9) rfl) dX6_changePriority_44 dX6_changePriority_47 (Or.inl ⟨dX6_changePriority_48, dX6_changePriority_50, dX6_changePriority_53⟩) (by subst h8; rfl) (by subst h9; exact hP) hS hl.1 (by decide) (by decide) (by decide)
def f_X6_moveKey (T : MainS) (p1 : Int32) (p2 : Int32) : Option ((String ⊕ Int32) × MainS) :=
    pq_tr (f_X6_requirePoint T p1) fun q1 T3 =>
    pq_tu T3 (f_X6_requireNumber p2) fun q4 =>
    (f_X1_reasonAgainstMove T3.1 q1 p2).bind fun q7 =>
    if q7 = 0 then
      (f_X2_push T3.2.2.2.2.1 T3.1).bind fun q10 =>
      (f_X1_movePoint T3.1 q1 p2).bind fun q12 =>
      some (.inr q12.1, (q12.2, T3.2.1, T3.2.2.1, T3.2.2.2.1, q10, T3.2.2.2.2.2.1, T3.2.2.2.2.2.2.1, T3.2.2.2.2.2.2.2.1, T3.2.2.2.2.2.2.2.2.1, T3.2.2.2.2.2.2.2.2.2.1, T3.2.2.2.2.2.2.2.2.2.2))
    else
      (f_X4_priorityIn T3.1.1 q1).bind fun q14 =>
      (f_X1_detailOf T3.1 q7 q1 p2 q14).bind fun q16 =>
      (f_X6_reject T3 q7 q16).bind fun q18 =>
      some (.inl "java/lang/UnsupportedOperationException", q18)
set_option maxHeartbeats 4000000 in
set_option maxRecDepth 100000 in
theorem c_X6_moveKey (l : Launch) (g : pq_g) (a : Nat → Nat) (T : MainS) (p1 : Int32) (p2 : Int32) (hst : l.stackTraces = false) (o : String ⊕ Int32) (T1 : MainS) (hf : f_X6_moveKey T p1 p2 = some (o, T1)) : pq_X l yX6_moveKey cX6_moveKey 5 (some .int) 7 3 g (mainW g a T) [.ref (a 0), .int p1, .int p2] (pq_oi o) (mainW g a T1) := by
  rw [f_X6_moveKey] at hf
  refine pq_X.of hst (by decide) rfl (Nat.le_of_ble_eq_true rfl) rfl ?_
  intro p e s m below meth c ls Q A S hP hK hD hS hA hT hl hend hout hthr
  obtain ⟨hx, hb, hml, hown, hts⟩ := id S
  refine lv_aload_n hx hb dX6_moveKey_0 rfl (lv_at hl 0 rfl) ?_
  refine lv_iload_n hx hb dX6_moveKey_1 rfl (lv_at hl 1 rfl) ?_
  rcases pq_trE hf with ⟨E0, T3, e2, hz⟩ | ⟨q1, T3, e2, hf⟩
  · exact pq_cXV S (c_X6_requirePoint l g a T p1 hst (.inl E0) T3 e2) vv_X6_83 hK hT hP hD hS hA rfl rfl rfl rfl rfl hl.1 (Nat.le_of_ble_eq_true rfl) dX6_moveKey_2 (by decide) (by decide) ⟨by decide, by decide⟩ (fun E ce q9 H1 locs1 hE hk hP1 hS1 hce hcv hcl => hout _ ls _ H1 locs1 _ _ E ce q9 (by rw [(Prod.mk.inj hz).1]; exact hE) (by rw [(Prod.mk.inj hz).2]; exact hP1) hS1 hce hcv hcl (by decide) (by decide)) (fun v H1 l1 h9 => by cases h9)
  refine pq_cXV S (c_X6_requirePoint l g a T p1 hst (.inr q1) T3 e2) vv_X6_83 hK hT hP hD hS hA rfl rfl rfl rfl rfl hl.1 (Nat.le_of_ble_eq_true rfl) dX6_moveKey_2 (by decide) (by decide) ⟨by decide, by decide⟩ (fun E ce q9 H1 l1 h9 => by cases h9) (fun v H9 locs hv hk hP1 hS => ?_)
  obtain rfl : v = some (.int q1) := (Sum.inr.inj hv).symm
  change W _ _ _ _ _ _ _ _ _ _ _ _ _ _ _ (F0 _ _ _ [.int q1])
  replace hP := hP1
  replace hP : va_P g.1 pq_cl (mainW g a T3) H9 := hP
  replace hD : va_D A (mainW g a T3) := pq_adr hD (ad_X6 _ _)
  clear hk
  generalize H9 = H at hP hS ⊢
  refine lv_istore_n (lv' := [(3, .int q1), (0, .ref (a 0)), (1, .int p1), (2, .int p2)]) hx hb dX6_moveKey_5 rfl hl (by decide) rfl (fun ls hl => ?_)
  refine lv_iload_n hx hb dX6_moveKey_6 rfl (lv_at hl 3 rfl) ?_
  rcases pq_tuE hf with ⟨E0, u0, e5, hz⟩ | ⟨q4, u0, e5, hf⟩
  · exact pq_cXS S (c_X6_requireNumber l g p2 hst (.inl E0) u0 e5) vs_X6_53 hK hT pq_P0 pq_D0 hS hA rfl rfl hl.1 (Nat.le_of_ble_eq_true rfl) dX6_moveKey_7 (by decide) (by decide) ⟨by decide, by decide⟩ (fun E ce q9 H1 locs1 hE hk hP1 hS1 hce hcv hcl => hout _ ls _ H1 locs1 _ _ E ce q9 (by rw [(Prod.mk.inj hz).1]; exact hE) (by rw [(Prod.mk.inj hz).2]; exact (pq_kp0 hP hk)) hS1 hce hcv hcl (by decide) (by decide)) (fun v H1 l1 h9 => by cases h9)
  refine pq_cXS S (c_X6_requireNumber l g p2 hst (.inr q4) u0 e5) vs_X6_53 hK hT pq_P0 pq_D0 hS hA rfl rfl hl.1 (Nat.le_of_ble_eq_true rfl) dX6_moveKey_7 (by decide) (by decide) ⟨by decide, by decide⟩ (fun E ce q9 H1 l1 h9 => by cases h9) (fun v H9 locs hv hk hP1 hS => ?_)
  obtain rfl : v = none := (Sum.inr.inj hv).symm
  change W _ _ _ _ _ _ _ _ _ _ _ _ _ _ _ (F0 _ _ _ [])
  replace hP := (pq_kp0 hP hk)
  replace hP : va_P g.1 pq_cl (mainW g a T3) H9 := hP
  replace hD : va_D A (mainW g a T3) := pq_adr hD (ad_X6 _ _)
  clear hk
  generalize H9 = H at hP hS ⊢
  refine lv_aload_n hx hb dX6_moveKey_10 rfl (lv_at hl 1 rfl) ?_
  refine pq_get S hK hP inX6 0 rfl rfl 0 (by decide) fl_X6_12 rfl (v := .ref (a 1)) rfl dX6_moveKey_11 ?_
  refine lv_iload_n hx hb dX6_moveKey_14 rfl (lv_at hl 0 rfl) ?_
  refine lv_iload_n hx hb dX6_moveKey_15 rfl (lv_at hl 3 rfl) ?_
  obtain ⟨q7, e6, hf⟩ := pq_bind hf
  refine pq_cV S (c_X1_reasonAgainstMove l g (pq_sh a 1) T3.1 q1 p2 q7 e6) vv_X6_98 hK (pq_P1 (pq_P2 hP)) rfl rfl rfl rfl rfl hl.1 (Nat.le_of_ble_eq_true rfl) dX6_moveKey_16 (by decide) (by decide) ⟨by decide, by decide⟩ ?_
  refine lv_istore (lv' := [(4, .int q7), (3, .int q1), (0, .ref (a 0)), (1, .int p1), (2, .int p2)]) hx hb dX6_moveKey_19 hl (by decide) rfl (fun ls hl => ?_)
  refine lv_iload hx hb dX6_moveKey_21 (lv_at hl 0 rfl) ?_
  refine lv_if_eq (tgt := 64) hx hb dX6_moveKey_23 (by decide) (fun h8 => ?_) (fun h8 => ?_)
  · replace hf := pq_ifp h8 hf
    refine lv_aload_n hx hb dX6_moveKey_64 rfl (lv_at hl 2 rfl) ?_
    refine pq_get S hK hP inX6 0 rfl rfl 4 (by decide) fl_X6_25 rfl (v := .ref (a 40)) rfl dX6_moveKey_65 ?_
    refine lv_aload_n hx hb dX6_moveKey_68 rfl (lv_at hl 2 rfl) ?_
    refine pq_get S hK hP inX6 0 rfl rfl 0 (by decide) fl_X6_12 rfl (v := .ref (a 1)) rfl dX6_moveKey_69 ?_
    obtain ⟨q10, e9, hf⟩ := pq_bind hf
    refine pq_cVv S (c_X2_push l g (pq_sh a 40) (pq_sh a 1) T3.2.2.2.2.1 T3.1 q10 e9) vv_X6_76 hK (va_P.app (pq_P1 (pq_P2 (pq_P2 (pq_P2 (pq_P2 hP))))) (pq_P1 (pq_P2 hP))) (pq_Da (pq_D1 (pq_D2 (pq_D2 (pq_D2 (pq_D2 hD))))) (pq_D1 (pq_D2 hD)) (pq_aps (pq_ap1 (pq_ap2 (pq_ap2 (pq_Dx (pq_D2 hD))))))) hS hA rfl rfl rfl rfl rfl hl.1 (Nat.le_of_ble_eq_true rfl) dX6_moveKey_72 (by decide) (by decide) ⟨by decide, by decide⟩ (fun H9 locs hk hP1 hS => ?_)
    replace hP := (va_P.app (pq_kp (pq_P1 hP) (pq_apA (pq_ap1 (pq_ap2 (pq_ap2 (pq_ap2 (pq_Dx hD))))) (pq_ap1 (pq_Dx hD))) hk) (va_P.app (pq_P2 hP1) (va_P.app (pq_kp (pq_P1 (pq_P2 (pq_P2 hP))) (pq_apA (pq_ap1 (pq_ap2 (pq_Dx (pq_D2 (pq_D2 hD))))) (pq_aps (pq_ap1 (pq_Dx (pq_D2 hD))))) hk) (va_P.app (pq_kp (pq_P1 (pq_P2 (pq_P2 (pq_P2 hP)))) (pq_apA (pq_ap1 (pq_Dx (pq_D2 (pq_D2 (pq_D2 hD))))) (pq_aps (pq_ap1 (pq_ap2 (pq_Dx (pq_D2 hD)))))) hk) (va_P.app (pq_P1 hP1) (pq_kp (pq_P2 (pq_P2 (pq_P2 (pq_P2 (pq_P2 hP))))) (pq_apA (pq_aps (pq_Dx (pq_D2 (pq_D2 (pq_D2 (pq_D2 hD)))))) (pq_aps (pq_ap2 (pq_ap2 (pq_ap2 (pq_Dx (pq_D2 hD))))))) hk))))))
    replace hP : va_P g.1 pq_cl (mainW g a (T3.1, T3.2.1, T3.2.2.1, T3.2.2.2.1, q10, T3.2.2.2.2.2.1, T3.2.2.2.2.2.2.1, T3.2.2.2.2.2.2.2.1, T3.2.2.2.2.2.2.2.2.1, T3.2.2.2.2.2.2.2.2.2.1, T3.2.2.2.2.2.2.2.2.2.2)) H9 := hP
    replace hD : va_D A (mainW g a (T3.1, T3.2.1, T3.2.2.1, T3.2.2.2.1, q10, T3.2.2.2.2.2.1, T3.2.2.2.2.2.2.1, T3.2.2.2.2.2.2.2.1, T3.2.2.2.2.2.2.2.2.1, T3.2.2.2.2.2.2.2.2.2.1, T3.2.2.2.2.2.2.2.2.2.2)) := pq_adr hD (ad_X6 _ _)
    clear hk
    generalize H9 = H at hP hS ⊢
    refine lv_aload_n hx hb dX6_moveKey_75 rfl (lv_at hl 2 rfl) ?_
    refine pq_get S hK hP inX6 0 rfl rfl 0 (by decide) fl_X6_12 rfl (v := .ref (a 1)) rfl dX6_moveKey_76 ?_
    refine lv_iload_n hx hb dX6_moveKey_79 rfl (lv_at hl 1 rfl) ?_
    refine lv_iload_n hx hb dX6_moveKey_80 rfl (lv_at hl 4 rfl) ?_
    obtain ⟨q12, e11, hf⟩ := pq_bind hf
    refine pq_cVi S (c_X1_movePoint l g (pq_sh a 1) T3.1 q1 p2 q12.1 q12.2 e11) vv_X6_112 hK (pq_P1 (pq_P2 hP)) (pq_D1 (pq_D2 hD)) hS hA rfl rfl rfl rfl rfl hl.1 (Nat.le_of_ble_eq_true rfl) dX6_moveKey_81 (by decide) (by decide) ⟨by decide, by decide⟩ (fun H9 locs hk hP1 hS => ?_)
    replace hP := (va_P.app (pq_kp (pq_P1 hP) (pq_ap1 (pq_Dx hD)) hk) (va_P.app hP1 (pq_kp (pq_P2 (pq_P2 hP)) (pq_aps (pq_Dx (pq_D2 hD))) hk)))
    replace hP : va_P g.1 pq_cl (mainW g a (q12.2, T3.2.1, T3.2.2.1, T3.2.2.2.1, q10, T3.2.2.2.2.2.1, T3.2.2.2.2.2.2.1, T3.2.2.2.2.2.2.2.1, T3.2.2.2.2.2.2.2.2.1, T3.2.2.2.2.2.2.2.2.2.1, T3.2.2.2.2.2.2.2.2.2.2)) H9 := hP
    replace hD : va_D A (mainW g a (q12.2, T3.2.1, T3.2.2.1, T3.2.2.2.1, q10, T3.2.2.2.2.2.1, T3.2.2.2.2.2.2.1, T3.2.2.2.2.2.2.2.1, T3.2.2.2.2.2.2.2.2.1, T3.2.2.2.2.2.2.2.2.2.1, T3.2.2.2.2.2.2.2.2.2.2)) := pq_adr hD (ad_X6 _ _)
    clear hk
    generalize H9 = H at hP hS ⊢
    obtain ⟨h8, h9⟩ := pq_pair hf
    exact hend 84 ls _ _ _ _ _ _ (Or.inl ⟨_, .int, rfl, rfl, dX6_moveKey_84, rfl, rfl⟩) (by subst h8; rfl) (by subst h9; exact hP) hS (by decide) (by decide)
  · replace hf := pq_ifn h8 hf
    refine lv_aload_n hx hb dX6_moveKey_26 rfl (lv_at hl 2 rfl) ?_
    refine lv_iload hx hb dX6_moveKey_27 (lv_at hl 0 rfl) ?_
    refine lv_aload_n hx hb dX6_moveKey_29 rfl (lv_at hl 2 rfl) ?_
    refine pq_get S hK hP inX6 0 rfl rfl 0 (by decide) fl_X6_12 rfl (v := .ref (a 1)) rfl dX6_moveKey_30 ?_
    refine lv_iload hx hb dX6_moveKey_33 (lv_at hl 0 rfl) ?_
    refine lv_iload_n hx hb dX6_moveKey_35 rfl (lv_at hl 1 rfl) ?_
    refine lv_iload_n hx hb dX6_moveKey_36 rfl (lv_at hl 4 rfl) ?_
    refine lv_aload_n hx hb dX6_moveKey_37 rfl (lv_at hl 2 rfl) ?_
    refine pq_get S hK hP inX6 0 rfl rfl 0 (by decide) fl_X6_12 rfl (v := .ref (a 1)) rfl dX6_moveKey_38 ?_
    refine pq_getN S hK (pq_P1 (pq_P2 hP)) inX1 0 rfl rfl 0 (by decide) (List.mem_of_getElem? (i := 3) rfl) rfl (v := .ref (a 2)) rfl dX6_moveKey_41 ?_
    refine lv_iload_n hx hb dX6_moveKey_44 rfl (lv_at hl 1 rfl) ?_
    obtain ⟨q14, e13, hf⟩ := pq_bind hf
    refine pq_cV S (c_X4_priorityIn l g (pq_sh (pq_sh a 1) 1) T3.1.1 q1 q14 e13) vv_X6_105 hK (pq_P1 (pq_P2 (pq_P1 (pq_P2 hP)))) rfl rfl rfl rfl rfl hl.1 (Nat.le_of_ble_eq_true rfl) dX6_moveKey_45 (by decide) (by decide) ⟨by decide, by decide⟩ ?_
    obtain ⟨q16, e15, hf⟩ := pq_bind hf
    refine pq_cV S (c_X1_detailOf l g (pq_sh a 1) T3.1 q7 q1 p2 q14 q16 e15) vv_X6_61 hK (pq_P1 (pq_P2 hP)) rfl rfl rfl rfl rfl hl.1 (Nat.le_of_ble_eq_true rfl) dX6_moveKey_48 (by decide) (by decide) ⟨by decide, by decide⟩ ?_
    obtain ⟨q18, e17, hf⟩ := pq_bind hf
    refine pq_cVv S (c_X6_reject l g a T3 q7 q16 q18 e17) vv_X6_65 hK hP hD hS hA rfl rfl rfl rfl rfl hl.1 (Nat.le_of_ble_eq_true rfl) dX6_moveKey_51 (by decide) (by decide) ⟨by decide, by decide⟩ (fun H9 locs hk hP1 hS => ?_)
    replace hP := hP1
    replace hP : va_P g.1 pq_cl (mainW g a q18) H9 := hP
    replace hD : va_D A (mainW g a q18) := pq_adr hD (ad_X6 _ _)
    clear hk
    generalize H9 = H at hP hS ⊢
    obtain ⟨h8, h9⟩ := pq_pair hf
    exact hthr 54 ls _ _ _ _ "java/lang/UnsupportedOperationException" _ 69 110 73 vt_69_73 (List.mem_of_getElem? (i := 10) rfl) dX6_moveKey_54 dX6_moveKey_57 (Or.inl ⟨dX6_moveKey_58, dX6_moveKey_60, dX6_moveKey_63⟩) (by subst h8; rfl) (by subst h9; exact hP) hS hl.1 (by decide) (by decide) (by decide)
def f_X6_requireRange (p1 : Int32) (p2 : Int32) : Option ((String ⊕ Unit) × Unit) :=
    (f_X6_isNumber p1).bind fun q2 =>
    if q2 = 0 then
      some (.inl "java/lang/IllegalArgumentException", ())
    else
      (f_X6_isNumber p2).bind fun q5 =>
      if q5 = 0 then
        some (.inl "java/lang/IllegalArgumentException", ())
      else
        if p1 ≤ p2 then
          some (.inr (), ())
        else
          some (.inl "java/lang/IllegalArgumentException", ())
set_option maxHeartbeats 4000000 in
set_option maxRecDepth 100000 in
theorem c_X6_requireRange (l : Launch) (g : pq_g) (p1 : Int32) (p2 : Int32) (hst : l.stackTraces = false) (o : String ⊕ Unit) (T1 : Unit) (hf : f_X6_requireRange p1 p2 = some (o, T1)) : pq_X l yX6_requireRange cX6_requireRange 2 none 6 1 g ([]) [.int p1, .int p2] (pq_ov o) ([]) := by
  rw [f_X6_requireRange] at hf
  refine pq_X.of hst (by decide) rfl (Nat.le_of_ble_eq_true rfl) rfl ?_
  intro p e s m below meth c ls Q A S hP hK hD hS hA hT hl hend hout hthr
  obtain ⟨hx, hb, hml, hown, hts⟩ := id S
  refine lv_iload_n hx hb dX6_requireRange_0 rfl (lv_at hl 0 rfl) ?_
  obtain ⟨q2, e1, hf⟩ := pq_bind hf
  refine pq_cS S (c_X6_isNumber l g  p1 q2 e1) vs_X6_361 hK (hP.sub [] rfl) rfl rfl hl.1 (Nat.le_of_ble_eq_true rfl) dX6_requireRange_1 (by decide) (by decide) ⟨by decide, by decide⟩ ?_
  refine lv_if_eq (tgt := 19) hx hb dX6_requireRange_4 (by decide) (fun h3 => ?_) (fun h3 => ?_)
  · replace hf := pq_ifp h3 hf
    obtain ⟨h8, h9⟩ := pq_pair hf
    exact hthr 19 ls _ _ _ _ "java/lang/IllegalArgumentException" _ 208 366 212 vt_208_212 (List.mem_of_getElem? (i := 2) rfl) dX6_requireRange_19 dX6_requireRange_22 (Or.inr ⟨dX6_requireRange_23, dX6_requireRange_26, dX6_requireRange_29⟩) (by subst h8; rfl) (by subst h9; exact hP) hS hl.1 (by decide) (by decide) (by decide)
  · replace hf := pq_ifn h3 hf
    refine lv_iload_n hx hb dX6_requireRange_7 rfl (lv_at hl 1 rfl) ?_
    obtain ⟨q5, e4, hf⟩ := pq_bind hf
    refine pq_cS S (c_X6_isNumber l g  p2 q5 e4) vs_X6_361 hK (hP.sub [] rfl) rfl rfl hl.1 (Nat.le_of_ble_eq_true rfl) dX6_requireRange_8 (by decide) (by decide) ⟨by decide, by decide⟩ ?_
    refine lv_if_eq (tgt := 19) hx hb dX6_requireRange_11 (by decide) (fun h6 => ?_) (fun h6 => ?_)
    · replace hf := pq_ifp h6 hf
      obtain ⟨h8, h9⟩ := pq_pair hf
      exact hthr 19 ls _ _ _ _ "java/lang/IllegalArgumentException" _ 208 366 212 vt_208_212 (List.mem_of_getElem? (i := 2) rfl) dX6_requireRange_19 dX6_requireRange_22 (Or.inr ⟨dX6_requireRange_23, dX6_requireRange_26, dX6_requireRange_29⟩) (by subst h8; rfl) (by subst h9; exact hP) hS hl.1 (by decide) (by decide) (by decide)
    · replace hf := pq_ifn h6 hf
      refine lv_iload_n hx hb dX6_requireRange_14 rfl (lv_at hl 0 rfl) ?_
      refine lv_iload_n hx hb dX6_requireRange_15 rfl (lv_at hl 1 rfl) ?_
      refine lv_icmp_le (tgt := 30) hx hb dX6_requireRange_16 (by decide) (fun h7 => ?_) (fun h7 => ?_)
      · replace hf := pq_ifp h7 hf
        obtain ⟨h8, h9⟩ := pq_pair hf
        exact hend 30 ls _ _ _ _ _ _ (Or.inr (Or.inl ⟨rfl, dX6_requireRange_30, rfl, rfl⟩)) (by subst h8; rfl) (by subst h9; exact hP) hS (by decide) (by decide)
      · replace hf := pq_ifn h7 hf
        obtain ⟨h8, h9⟩ := pq_pair hf
        exact hthr 19 ls _ _ _ _ "java/lang/IllegalArgumentException" _ 208 366 212 vt_208_212 (List.mem_of_getElem? (i := 2) rfl) dX6_requireRange_19 dX6_requireRange_22 (Or.inr ⟨dX6_requireRange_23, dX6_requireRange_26, dX6_requireRange_29⟩) (by subst h8; rfl) (by subst h9; exact hP) hS hl.1 (by decide) (by decide) (by decide)
def f_X6_deleteRange (T : MainS) (p1 : Int32) (p2 : Int32) : Option ((String ⊕ Int32) × MainS) :=
    pq_tu T (f_X6_requireRange p1 p2) fun q1 =>
    (f_X2_push T.2.2.2.2.1 T.1).bind fun q4 =>
    (f_X4_removeRange T.1.1 p1 p2).bind fun q6 =>
    some (.inr q6.1, ((q6.2, T.1.2.1, T.1.2.2), T.2.1, T.2.2.1, T.2.2.2.1, q4, T.2.2.2.2.2.1, T.2.2.2.2.2.2.1, T.2.2.2.2.2.2.2.1, T.2.2.2.2.2.2.2.2.1, T.2.2.2.2.2.2.2.2.2.1, T.2.2.2.2.2.2.2.2.2.2))
set_option maxHeartbeats 4000000 in
set_option maxRecDepth 100000 in
theorem c_X6_deleteRange (l : Launch) (g : pq_g) (a : Nat → Nat) (T : MainS) (p1 : Int32) (p2 : Int32) (hst : l.stackTraces = false) (o : String ⊕ Int32) (T1 : MainS) (hf : f_X6_deleteRange T p1 p2 = some (o, T1)) : pq_X l yX6_deleteRange cX6_deleteRange 3 (some .int) 7 1 g (mainW g a T) [.ref (a 0), .int p1, .int p2] (pq_oi o) (mainW g a T1) := by
  rw [f_X6_deleteRange] at hf
  refine pq_X.of hst (by decide) rfl (Nat.le_of_ble_eq_true rfl) rfl ?_
  intro p e s m below meth c ls Q A S hP hK hD hS hA hT hl hend hout hthr
  obtain ⟨hx, hb, hml, hown, hts⟩ := id S
  refine lv_iload_n hx hb dX6_deleteRange_0 rfl (lv_at hl 1 rfl) ?_
  refine lv_iload_n hx hb dX6_deleteRange_1 rfl (lv_at hl 2 rfl) ?_
  rcases pq_tuE hf with ⟨E0, u0, e2, hz⟩ | ⟨q1, u0, e2, hf⟩
  · exact pq_cXS S (c_X6_requireRange l g p1 p2 hst (.inl E0) u0 e2) vs_X6_115 hK hT pq_P0 pq_D0 hS hA rfl rfl hl.1 (Nat.le_of_ble_eq_true rfl) dX6_deleteRange_2 (by decide) (by decide) ⟨by decide, by decide⟩ (fun E ce q9 H1 locs1 hE hk hP1 hS1 hce hcv hcl => hout _ ls _ H1 locs1 _ _ E ce q9 (by rw [(Prod.mk.inj hz).1]; exact hE) (by rw [(Prod.mk.inj hz).2]; exact (pq_kp0 hP hk)) hS1 hce hcv hcl (by decide) (by decide)) (fun v H1 l1 h9 => by cases h9)
  refine pq_cXS S (c_X6_requireRange l g p1 p2 hst (.inr q1) u0 e2) vs_X6_115 hK hT pq_P0 pq_D0 hS hA rfl rfl hl.1 (Nat.le_of_ble_eq_true rfl) dX6_deleteRange_2 (by decide) (by decide) ⟨by decide, by decide⟩ (fun E ce q9 H1 l1 h9 => by cases h9) (fun v H9 locs hv hk hP1 hS => ?_)
  obtain rfl : v = none := (Sum.inr.inj hv).symm
  change W _ _ _ _ _ _ _ _ _ _ _ _ _ _ _ (F0 _ _ _ [])
  replace hP := (pq_kp0 hP hk)
  replace hP : va_P g.1 pq_cl (mainW g a T) H9 := hP
  replace hD : va_D A (mainW g a T) := pq_adr hD (ad_X6 _ _)
  clear hk
  generalize H9 = H at hP hS ⊢
  refine lv_aload_n hx hb dX6_deleteRange_5 rfl (lv_at hl 0 rfl) ?_
  refine pq_get S hK hP inX6 0 rfl rfl 4 (by decide) fl_X6_25 rfl (v := .ref (a 40)) rfl dX6_deleteRange_6 ?_
  refine lv_aload_n hx hb dX6_deleteRange_9 rfl (lv_at hl 0 rfl) ?_
  refine pq_get S hK hP inX6 0 rfl rfl 0 (by decide) fl_X6_12 rfl (v := .ref (a 1)) rfl dX6_deleteRange_10 ?_
  obtain ⟨q4, e3, hf⟩ := pq_bind hf
  refine pq_cVv S (c_X2_push l g (pq_sh a 40) (pq_sh a 1) T.2.2.2.2.1 T.1 q4 e3) vv_X6_76 hK (va_P.app (pq_P1 (pq_P2 (pq_P2 (pq_P2 (pq_P2 hP))))) (pq_P1 (pq_P2 hP))) (pq_Da (pq_D1 (pq_D2 (pq_D2 (pq_D2 (pq_D2 hD))))) (pq_D1 (pq_D2 hD)) (pq_aps (pq_ap1 (pq_ap2 (pq_ap2 (pq_Dx (pq_D2 hD))))))) hS hA rfl rfl rfl rfl rfl hl.1 (Nat.le_of_ble_eq_true rfl) dX6_deleteRange_13 (by decide) (by decide) ⟨by decide, by decide⟩ (fun H9 locs hk hP1 hS => ?_)
  replace hP := (va_P.app (pq_kp (pq_P1 hP) (pq_apA (pq_ap1 (pq_ap2 (pq_ap2 (pq_ap2 (pq_Dx hD))))) (pq_ap1 (pq_Dx hD))) hk) (va_P.app (pq_P2 hP1) (va_P.app (pq_kp (pq_P1 (pq_P2 (pq_P2 hP))) (pq_apA (pq_ap1 (pq_ap2 (pq_Dx (pq_D2 (pq_D2 hD))))) (pq_aps (pq_ap1 (pq_Dx (pq_D2 hD))))) hk) (va_P.app (pq_kp (pq_P1 (pq_P2 (pq_P2 (pq_P2 hP)))) (pq_apA (pq_ap1 (pq_Dx (pq_D2 (pq_D2 (pq_D2 hD))))) (pq_aps (pq_ap1 (pq_ap2 (pq_Dx (pq_D2 hD)))))) hk) (va_P.app (pq_P1 hP1) (pq_kp (pq_P2 (pq_P2 (pq_P2 (pq_P2 (pq_P2 hP))))) (pq_apA (pq_aps (pq_Dx (pq_D2 (pq_D2 (pq_D2 (pq_D2 hD)))))) (pq_aps (pq_ap2 (pq_ap2 (pq_ap2 (pq_Dx (pq_D2 hD))))))) hk))))))
  replace hP : va_P g.1 pq_cl (mainW g a (T.1, T.2.1, T.2.2.1, T.2.2.2.1, q4, T.2.2.2.2.2.1, T.2.2.2.2.2.2.1, T.2.2.2.2.2.2.2.1, T.2.2.2.2.2.2.2.2.1, T.2.2.2.2.2.2.2.2.2.1, T.2.2.2.2.2.2.2.2.2.2)) H9 := hP
  replace hD : va_D A (mainW g a (T.1, T.2.1, T.2.2.1, T.2.2.2.1, q4, T.2.2.2.2.2.1, T.2.2.2.2.2.2.1, T.2.2.2.2.2.2.2.1, T.2.2.2.2.2.2.2.2.1, T.2.2.2.2.2.2.2.2.2.1, T.2.2.2.2.2.2.2.2.2.2)) := pq_adr hD (ad_X6 _ _)
  clear hk
  generalize H9 = H at hP hS ⊢
  refine lv_aload_n hx hb dX6_deleteRange_16 rfl (lv_at hl 0 rfl) ?_
  refine pq_get S hK hP inX6 0 rfl rfl 0 (by decide) fl_X6_12 rfl (v := .ref (a 1)) rfl dX6_deleteRange_17 ?_
  refine pq_getN S hK (pq_P1 (pq_P2 hP)) inX1 0 rfl rfl 0 (by decide) (List.mem_of_getElem? (i := 3) rfl) rfl (v := .ref (a 2)) rfl dX6_deleteRange_20 ?_
  refine lv_iload_n hx hb dX6_deleteRange_23 rfl (lv_at hl 1 rfl) ?_
  refine lv_iload_n hx hb dX6_deleteRange_24 rfl (lv_at hl 2 rfl) ?_
  obtain ⟨q6, e5, hf⟩ := pq_bind hf
  refine pq_cVi S (c_X4_removeRange l g (pq_sh (pq_sh a 1) 1) T.1.1 p1 p2 q6.1 q6.2 e5) vv_X6_118 hK (pq_P1 (pq_P2 (pq_P1 (pq_P2 hP)))) (pq_D1 (pq_D2 (pq_D1 (pq_D2 hD)))) hS hA rfl rfl rfl rfl rfl hl.1 (Nat.le_of_ble_eq_true rfl) dX6_deleteRange_25 (by decide) (by decide) ⟨by decide, by decide⟩ (fun H9 locs hk hP1 hS => ?_)
  replace hP := (va_P.app (pq_kp (pq_P1 hP) (pq_ap1 (pq_ap2 (pq_ap1 (pq_Dx hD)))) hk) (va_P.app (va_P.app (pq_kp (pq_P1 (pq_P1 (pq_P2 hP))) (pq_ap1 (pq_Dx (pq_D1 (pq_D2 hD)))) hk) (va_P.app hP1 (pq_kp (pq_P2 (pq_P2 (pq_P1 (pq_P2 hP)))) (pq_aps (pq_Dx (pq_D2 (pq_D1 (pq_D2 hD))))) hk))) (pq_kp (pq_P2 (pq_P2 hP)) (pq_aps (pq_apl1 (pq_apl2 (pq_Dx (pq_D2 hD))))) hk)))
  replace hP : va_P g.1 pq_cl (mainW g a ((q6.2, T.1.2.1, T.1.2.2), T.2.1, T.2.2.1, T.2.2.2.1, q4, T.2.2.2.2.2.1, T.2.2.2.2.2.2.1, T.2.2.2.2.2.2.2.1, T.2.2.2.2.2.2.2.2.1, T.2.2.2.2.2.2.2.2.2.1, T.2.2.2.2.2.2.2.2.2.2)) H9 := hP
  replace hD : va_D A (mainW g a ((q6.2, T.1.2.1, T.1.2.2), T.2.1, T.2.2.1, T.2.2.2.1, q4, T.2.2.2.2.2.1, T.2.2.2.2.2.2.1, T.2.2.2.2.2.2.2.1, T.2.2.2.2.2.2.2.2.1, T.2.2.2.2.2.2.2.2.2.1, T.2.2.2.2.2.2.2.2.2.2)) := pq_adr hD (ad_X6 _ _)
  clear hk
  generalize H9 = H at hP hS ⊢
  obtain ⟨h8, h9⟩ := pq_pair hf
  exact hend 28 ls _ _ _ _ _ _ (Or.inl ⟨_, .int, rfl, rfl, dX6_deleteRange_28, rfl, rfl⟩) (by subst h8; rfl) (by subst h9; exact hP) hS (by decide) (by decide)
def f_X6_size (T : MainS) : Option (Int32) :=
    (f_X4_pointCount T.1.1).bind fun q2 =>
    some q2
set_option maxHeartbeats 4000000 in
set_option maxRecDepth 100000 in
theorem c_X6_size (l : Launch) (g : pq_g) (a : Nat → Nat) (T : MainS) (r : Int32) (hf : f_X6_size T = some r) : pq_R l yX6_size cX6_size 1 .int 3 g (mainW g a T) [.ref (a 0)] r := by
  rw [f_X6_size] at hf
  refine pq_R.of (own := RX6) (by decide) rfl (Nat.le_of_ble_eq_true rfl) rfl ?_
  intro p e s m below meth c ls Q S hP hK hl hend
  obtain ⟨hx, hb, hml, hown, hts⟩ := id S
  refine lv_aload_n hx hb dX6_size_0 rfl (lv_at hl 0 rfl) ?_
  refine pq_get S hK hP inX6 0 rfl rfl 0 (by decide) fl_X6_12 rfl (v := .ref (a 1)) rfl dX6_size_1 ?_
  refine pq_getN S hK (pq_P1 (pq_P2 hP)) inX1 0 rfl rfl 0 (by decide) (List.mem_of_getElem? (i := 3) rfl) rfl (v := .ref (a 2)) rfl dX6_size_4 ?_
  obtain ⟨q2, e1, hf⟩ := pq_bind hf
  refine pq_cV S (c_X4_pointCount l g (pq_sh (pq_sh a 1) 1) T.1.1 q2 e1) vv_X6_121 hK (pq_P1 (pq_P2 (pq_P1 (pq_P2 hP)))) rfl rfl rfl rfl rfl hl.1 (Nat.le_of_ble_eq_true rfl) dX6_size_7 (by decide) (by decide) ⟨Nat.le_refl _, Nat.le_refl _⟩ ?_
  exact hend _ _ _ dX6_size_10 rfl hf
def f_X6_contains (T : MainS) (p1 : Int32) : Option (Int32) :=
    (f_X4_slotOf T.1.1 p1).bind fun q2 =>
    if q2 = 0 then
      some 0
    else
      some 1
set_option maxHeartbeats 4000000 in
set_option maxRecDepth 100000 in
theorem c_X6_contains (l : Launch) (g : pq_g) (a : Nat → Nat) (T : MainS) (p1 : Int32) (r : Int32) (hf : f_X6_contains T p1 = some r) : pq_R l yX6_contains cX6_contains 2 .boolean 3 g (mainW g a T) [.ref (a 0), .int p1] r := by
  rw [f_X6_contains] at hf
  refine pq_R.of (own := RX6) (by decide) rfl (Nat.le_of_ble_eq_true rfl) rfl ?_
  intro p e s m below meth c ls Q S hP hK hl hend
  obtain ⟨hx, hb, hml, hown, hts⟩ := id S
  refine lv_aload_n hx hb dX6_contains_0 rfl (lv_at hl 0 rfl) ?_
  refine pq_get S hK hP inX6 0 rfl rfl 0 (by decide) fl_X6_12 rfl (v := .ref (a 1)) rfl dX6_contains_1 ?_
  refine pq_getN S hK (pq_P1 (pq_P2 hP)) inX1 0 rfl rfl 0 (by decide) (List.mem_of_getElem? (i := 3) rfl) rfl (v := .ref (a 2)) rfl dX6_contains_4 ?_
  refine lv_iload_n hx hb dX6_contains_7 rfl (lv_at hl 1 rfl) ?_
  obtain ⟨q2, e1, hf⟩ := pq_bind hf
  refine pq_cV S (c_X4_slotOf l g (pq_sh (pq_sh a 1) 1) T.1.1 p1 q2 e1) vv_X6_125 hK (pq_P1 (pq_P2 (pq_P1 (pq_P2 hP)))) rfl rfl rfl rfl rfl hl.1 (Nat.le_of_ble_eq_true rfl) dX6_contains_8 (by decide) (by decide) ⟨Nat.le_refl _, Nat.le_refl _⟩ ?_
  refine lv_if_eq (tgt := 18) hx hb dX6_contains_11 (by decide) (fun h3 => ?_) (fun h3 => ?_)
  · replace hf := pq_ifp h3 hf
    refine lv_iconst (v := 0) hx hb dX6_contains_18 (by decide) ?_
    exact hend _ _ _ dX6_contains_19 rfl hf
  · replace hf := pq_ifn h3 hf
    refine lv_iconst (v := 1) hx hb dX6_contains_14 (by decide) ?_
    refine lv_goto (tgt := 19) hx hb dX6_contains_15 (by decide) ?_
    exact hend _ _ _ dX6_contains_19 rfl hf
def f_X6_priorityOf (T : MainS) (p1 : Int32) : Option ((String ⊕ Int32) × MainS) :=
    pq_tr (f_X6_requirePoint T p1) fun q1 T3 =>
    (f_X4_priorityIn T3.1.1 q1).bind fun q5 =>
    some (.inr q5, T3)
set_option maxHeartbeats 4000000 in
set_option maxRecDepth 100000 in
theorem c_X6_priorityOf (l : Launch) (g : pq_g) (a : Nat → Nat) (T : MainS) (p1 : Int32) (hst : l.stackTraces = false) (o : String ⊕ Int32) (T1 : MainS) (hf : f_X6_priorityOf T p1 = some (o, T1)) : pq_X l yX6_priorityOf cX6_priorityOf 2 (some .int) 7 1 g (mainW g a T) [.ref (a 0), .int p1] (pq_oi o) (mainW g a T1) := by
  rw [f_X6_priorityOf] at hf
  refine pq_X.of hst (by decide) rfl (Nat.le_of_ble_eq_true rfl) rfl ?_
  intro p e s m below meth c ls Q A S hP hK hD hS hA hT hl hend hout hthr
  obtain ⟨hx, hb, hml, hown, hts⟩ := id S
  refine lv_aload_n hx hb dX6_priorityOf_0 rfl (lv_at hl 0 rfl) ?_
  refine pq_get S hK hP inX6 0 rfl rfl 0 (by decide) fl_X6_12 rfl (v := .ref (a 1)) rfl dX6_priorityOf_1 ?_
  refine pq_getN S hK (pq_P1 (pq_P2 hP)) inX1 0 rfl rfl 0 (by decide) (List.mem_of_getElem? (i := 3) rfl) rfl (v := .ref (a 2)) rfl dX6_priorityOf_4 ?_
  refine lv_aload_n hx hb dX6_priorityOf_7 rfl (lv_at hl 0 rfl) ?_
  refine lv_iload_n hx hb dX6_priorityOf_8 rfl (lv_at hl 1 rfl) ?_
  rcases pq_trE hf with ⟨E0, T3, e2, hz⟩ | ⟨q1, T3, e2, hf⟩
  · exact pq_cXV S (c_X6_requirePoint l g a T p1 hst (.inl E0) T3 e2) vv_X6_83 hK hT hP hD hS hA rfl rfl rfl rfl rfl hl.1 (Nat.le_of_ble_eq_true rfl) dX6_priorityOf_9 (by decide) (by decide) ⟨by decide, by decide⟩ (fun E ce q9 H1 locs1 hE hk hP1 hS1 hce hcv hcl => hout _ ls _ H1 locs1 _ _ E ce q9 (by rw [(Prod.mk.inj hz).1]; exact hE) (by rw [(Prod.mk.inj hz).2]; exact hP1) hS1 hce hcv hcl (by decide) (by decide)) (fun v H1 l1 h9 => by cases h9)
  refine pq_cXV S (c_X6_requirePoint l g a T p1 hst (.inr q1) T3 e2) vv_X6_83 hK hT hP hD hS hA rfl rfl rfl rfl rfl hl.1 (Nat.le_of_ble_eq_true rfl) dX6_priorityOf_9 (by decide) (by decide) ⟨by decide, by decide⟩ (fun E ce q9 H1 l1 h9 => by cases h9) (fun v H9 locs hv hk hP1 hS => ?_)
  obtain rfl : v = some (.int q1) := (Sum.inr.inj hv).symm
  change W _ _ _ _ _ _ _ _ _ _ _ _ _ _ _ (F0 _ _ _ [.int q1, .ref (a 2)])
  replace hP := hP1
  replace hP : va_P g.1 pq_cl (mainW g a T3) H9 := hP
  replace hD : va_D A (mainW g a T3) := pq_adr hD (ad_X6 _ _)
  clear hk
  generalize H9 = H at hP hS ⊢
  obtain ⟨q5, e4, hf⟩ := pq_bind hf
  refine pq_cV S (c_X4_priorityIn l g (pq_sh (pq_sh a 1) 1) T3.1.1 q1 q5 e4) vv_X6_105 hK (pq_P1 (pq_P2 (pq_P1 (pq_P2 hP)))) rfl rfl rfl rfl rfl hl.1 (Nat.le_of_ble_eq_true rfl) dX6_priorityOf_12 (by decide) (by decide) ⟨by decide, by decide⟩ ?_
  obtain ⟨h8, h9⟩ := pq_pair hf
  exact hend 15 ls _ _ _ _ _ _ (Or.inl ⟨_, .int, rfl, rfl, dX6_priorityOf_15, rfl, rfl⟩) (by subst h8; rfl) (by subst h9; exact hP) hS (by decide) (by decide)
def f_X6_keyInFound (T : MainS) (p1 : Int32) : Option ((String ⊕ Int32) × MainS) :=
    if p1 = 0 then
      some (.inl "java/util/NoSuchElementException", T)
    else
      (f_X4_keyIn T.1.1 p1).bind fun q3 =>
      some (.inr q3, T)
set_option maxHeartbeats 4000000 in
set_option maxRecDepth 100000 in
theorem c_X6_keyInFound (l : Launch) (g : pq_g) (a : Nat → Nat) (T : MainS) (p1 : Int32) (hst : l.stackTraces = false) (o : String ⊕ Int32) (T1 : MainS) (hf : f_X6_keyInFound T p1 = some (o, T1)) : pq_X l yX6_keyInFound cX6_keyInFound 2 (some .int) 6 1 g (mainW g a T) [.ref (a 0), .int p1] (pq_oi o) (mainW g a T1) := by
  rw [f_X6_keyInFound] at hf
  refine pq_X.of hst (by decide) rfl (Nat.le_of_ble_eq_true rfl) rfl ?_
  intro p e s m below meth c ls Q A S hP hK hD hS hA hT hl hend hout hthr
  obtain ⟨hx, hb, hml, hown, hts⟩ := id S
  refine lv_iload_n hx hb dX6_keyInFound_0 rfl (lv_at hl 1 rfl) ?_
  refine lv_if_ne (tgt := 15) hx hb dX6_keyInFound_1 (by decide) (fun h1 => ?_) (fun h1 => ?_)
  · replace hf := pq_ifn h1 hf
    refine lv_aload_n hx hb dX6_keyInFound_15 rfl (lv_at hl 0 rfl) ?_
    refine pq_get S hK hP inX6 0 rfl rfl 0 (by decide) fl_X6_12 rfl (v := .ref (a 1)) rfl dX6_keyInFound_16 ?_
    refine pq_getN S hK (pq_P1 (pq_P2 hP)) inX1 0 rfl rfl 0 (by decide) (List.mem_of_getElem? (i := 3) rfl) rfl (v := .ref (a 2)) rfl dX6_keyInFound_19 ?_
    refine lv_iload_n hx hb dX6_keyInFound_22 rfl (lv_at hl 1 rfl) ?_
    obtain ⟨q3, e2, hf⟩ := pq_bind hf
    refine pq_cV S (c_X4_keyIn l g (pq_sh (pq_sh a 1) 1) T.1.1 p1 q3 e2) vv_X6_140 hK (pq_P1 (pq_P2 (pq_P1 (pq_P2 hP)))) rfl rfl rfl rfl rfl hl.1 (Nat.le_of_ble_eq_true rfl) dX6_keyInFound_23 (by decide) (by decide) ⟨by decide, by decide⟩ ?_
    obtain ⟨h8, h9⟩ := pq_pair hf
    exact hend 26 ls _ _ _ _ _ _ (Or.inl ⟨_, .int, rfl, rfl, dX6_keyInFound_26, rfl, rfl⟩) (by subst h8; rfl) (by subst h9; exact hP) hS (by decide) (by decide)
  · replace hf := pq_ifp h1 hf
    obtain ⟨h8, h9⟩ := pq_pair hf
    exact hthr 4 ls _ _ _ _ "java/util/NoSuchElementException" _ 335 377 339 vt_335_339 (List.mem_of_getElem? (i := 1) rfl) dX6_keyInFound_4 dX6_keyInFound_7 (Or.inr ⟨dX6_keyInFound_8, dX6_keyInFound_11, dX6_keyInFound_14⟩) (by subst h8; rfl) (by subst h9; exact hP) hS hl.1 (by decide) (by decide) (by decide)
def f_X6_floorKey (T : MainS) (p1 : Int32) : Option ((String ⊕ Int32) × MainS) :=
    (f_X4_floorSlot T.1.1 p1).bind fun q2 =>
    pq_tr (f_X6_keyInFound T q2) fun q3 T5 =>
    some (.inr q3, T5)
set_option maxHeartbeats 4000000 in
set_option maxRecDepth 100000 in
theorem c_X6_floorKey (l : Launch) (g : pq_g) (a : Nat → Nat) (T : MainS) (p1 : Int32) (hst : l.stackTraces = false) (o : String ⊕ Int32) (T1 : MainS) (hf : f_X6_floorKey T p1 = some (o, T1)) : pq_X l yX6_floorKey cX6_floorKey 2 (some .int) 7 1 g (mainW g a T) [.ref (a 0), .int p1] (pq_oi o) (mainW g a T1) := by
  rw [f_X6_floorKey] at hf
  refine pq_X.of hst (by decide) rfl (Nat.le_of_ble_eq_true rfl) rfl ?_
  intro p e s m below meth c ls Q A S hP hK hD hS hA hT hl hend hout hthr
  obtain ⟨hx, hb, hml, hown, hts⟩ := id S
  refine lv_aload_n hx hb dX6_floorKey_0 rfl (lv_at hl 0 rfl) ?_
  refine lv_aload_n hx hb dX6_floorKey_1 rfl (lv_at hl 0 rfl) ?_
  refine pq_get S hK hP inX6 0 rfl rfl 0 (by decide) fl_X6_12 rfl (v := .ref (a 1)) rfl dX6_floorKey_2 ?_
  refine pq_getN S hK (pq_P1 (pq_P2 hP)) inX1 0 rfl rfl 0 (by decide) (List.mem_of_getElem? (i := 3) rfl) rfl (v := .ref (a 2)) rfl dX6_floorKey_5 ?_
  refine lv_iload_n hx hb dX6_floorKey_8 rfl (lv_at hl 1 rfl) ?_
  obtain ⟨q2, e1, hf⟩ := pq_bind hf
  refine pq_cV S (c_X4_floorSlot l g (pq_sh (pq_sh a 1) 1) T.1.1 p1 q2 e1) vv_X6_134 hK (pq_P1 (pq_P2 (pq_P1 (pq_P2 hP)))) rfl rfl rfl rfl rfl hl.1 (Nat.le_of_ble_eq_true rfl) dX6_floorKey_9 (by decide) (by decide) ⟨by decide, by decide⟩ ?_
  rcases pq_trE hf with ⟨E0, T5, e4, hz⟩ | ⟨q3, T5, e4, hf⟩
  · exact pq_cXV S (c_X6_keyInFound l g a T q2 hst (.inl E0) T5 e4) vv_X6_131 hK hT hP hD hS hA rfl rfl rfl rfl rfl hl.1 (Nat.le_of_ble_eq_true rfl) dX6_floorKey_12 (by decide) (by decide) ⟨by decide, by decide⟩ (fun E ce q9 H1 locs1 hE hk hP1 hS1 hce hcv hcl => hout _ ls _ H1 locs1 _ _ E ce q9 (by rw [(Prod.mk.inj hz).1]; exact hE) (by rw [(Prod.mk.inj hz).2]; exact hP1) hS1 hce hcv hcl (by decide) (by decide)) (fun v H1 l1 h9 => by cases h9)
  refine pq_cXV S (c_X6_keyInFound l g a T q2 hst (.inr q3) T5 e4) vv_X6_131 hK hT hP hD hS hA rfl rfl rfl rfl rfl hl.1 (Nat.le_of_ble_eq_true rfl) dX6_floorKey_12 (by decide) (by decide) ⟨by decide, by decide⟩ (fun E ce q9 H1 l1 h9 => by cases h9) (fun v H9 locs hv hk hP1 hS => ?_)
  obtain rfl : v = some (.int q3) := (Sum.inr.inj hv).symm
  change W _ _ _ _ _ _ _ _ _ _ _ _ _ _ _ (F0 _ _ _ [.int q3])
  replace hP := hP1
  replace hP : va_P g.1 pq_cl (mainW g a T5) H9 := hP
  replace hD : va_D A (mainW g a T5) := pq_adr hD (ad_X6 _ _)
  clear hk
  generalize H9 = H at hP hS ⊢
  obtain ⟨h8, h9⟩ := pq_pair hf
  exact hend 15 ls _ _ _ _ _ _ (Or.inl ⟨_, .int, rfl, rfl, dX6_floorKey_15, rfl, rfl⟩) (by subst h8; rfl) (by subst h9; exact hP) hS (by decide) (by decide)
def f_X6_ceilingKey (T : MainS) (p1 : Int32) : Option ((String ⊕ Int32) × MainS) :=
    (f_X4_ceilingSlot T.1.1 p1).bind fun q2 =>
    pq_tr (f_X6_keyInFound T q2) fun q3 T5 =>
    some (.inr q3, T5)
set_option maxHeartbeats 4000000 in
set_option maxRecDepth 100000 in
theorem c_X6_ceilingKey (l : Launch) (g : pq_g) (a : Nat → Nat) (T : MainS) (p1 : Int32) (hst : l.stackTraces = false) (o : String ⊕ Int32) (T1 : MainS) (hf : f_X6_ceilingKey T p1 = some (o, T1)) : pq_X l yX6_ceilingKey cX6_ceilingKey 2 (some .int) 7 1 g (mainW g a T) [.ref (a 0), .int p1] (pq_oi o) (mainW g a T1) := by
  rw [f_X6_ceilingKey] at hf
  refine pq_X.of hst (by decide) rfl (Nat.le_of_ble_eq_true rfl) rfl ?_
  intro p e s m below meth c ls Q A S hP hK hD hS hA hT hl hend hout hthr
  obtain ⟨hx, hb, hml, hown, hts⟩ := id S
  refine lv_aload_n hx hb dX6_ceilingKey_0 rfl (lv_at hl 0 rfl) ?_
  refine lv_aload_n hx hb dX6_ceilingKey_1 rfl (lv_at hl 0 rfl) ?_
  refine pq_get S hK hP inX6 0 rfl rfl 0 (by decide) fl_X6_12 rfl (v := .ref (a 1)) rfl dX6_ceilingKey_2 ?_
  refine pq_getN S hK (pq_P1 (pq_P2 hP)) inX1 0 rfl rfl 0 (by decide) (List.mem_of_getElem? (i := 3) rfl) rfl (v := .ref (a 2)) rfl dX6_ceilingKey_5 ?_
  refine lv_iload_n hx hb dX6_ceilingKey_8 rfl (lv_at hl 1 rfl) ?_
  obtain ⟨q2, e1, hf⟩ := pq_bind hf
  refine pq_cV S (c_X4_ceilingSlot l g (pq_sh (pq_sh a 1) 1) T.1.1 p1 q2 e1) vv_X6_137 hK (pq_P1 (pq_P2 (pq_P1 (pq_P2 hP)))) rfl rfl rfl rfl rfl hl.1 (Nat.le_of_ble_eq_true rfl) dX6_ceilingKey_9 (by decide) (by decide) ⟨by decide, by decide⟩ ?_
  rcases pq_trE hf with ⟨E0, T5, e4, hz⟩ | ⟨q3, T5, e4, hf⟩
  · exact pq_cXV S (c_X6_keyInFound l g a T q2 hst (.inl E0) T5 e4) vv_X6_131 hK hT hP hD hS hA rfl rfl rfl rfl rfl hl.1 (Nat.le_of_ble_eq_true rfl) dX6_ceilingKey_12 (by decide) (by decide) ⟨by decide, by decide⟩ (fun E ce q9 H1 locs1 hE hk hP1 hS1 hce hcv hcl => hout _ ls _ H1 locs1 _ _ E ce q9 (by rw [(Prod.mk.inj hz).1]; exact hE) (by rw [(Prod.mk.inj hz).2]; exact hP1) hS1 hce hcv hcl (by decide) (by decide)) (fun v H1 l1 h9 => by cases h9)
  refine pq_cXV S (c_X6_keyInFound l g a T q2 hst (.inr q3) T5 e4) vv_X6_131 hK hT hP hD hS hA rfl rfl rfl rfl rfl hl.1 (Nat.le_of_ble_eq_true rfl) dX6_ceilingKey_12 (by decide) (by decide) ⟨by decide, by decide⟩ (fun E ce q9 H1 l1 h9 => by cases h9) (fun v H9 locs hv hk hP1 hS => ?_)
  obtain rfl : v = some (.int q3) := (Sum.inr.inj hv).symm
  change W _ _ _ _ _ _ _ _ _ _ _ _ _ _ _ (F0 _ _ _ [.int q3])
  replace hP := hP1
  replace hP : va_P g.1 pq_cl (mainW g a T5) H9 := hP
  replace hD : va_D A (mainW g a T5) := pq_adr hD (ad_X6 _ _)
  clear hk
  generalize H9 = H at hP hS ⊢
  obtain ⟨h8, h9⟩ := pq_pair hf
  exact hend 15 ls _ _ _ _ _ _ (Or.inl ⟨_, .int, rfl, rfl, dX6_ceilingKey_15, rfl, rfl⟩) (by subst h8; rfl) (by subst h9; exact hP) hS (by decide) (by decide)
def f_X6_nearestKey_c36 (T : MainS) (v2 : Int32) (v3 : Int32) : Option ((String ⊕ Int32) × MainS) :=
    if v2 = 0 then
      pq_tr (f_X6_keyInFound T v3) fun q5 T7 =>
      some (.inr q5, T7)
    else
      pq_tr (f_X6_keyInFound T v2) fun q2 T4 =>
      some (.inr q2, T4)
def f_X6_nearestKey (T : MainS) (p1 : Int32) : Option ((String ⊕ Int32) × MainS) :=
    pq_tu T (f_X6_requireNumber p1) fun q8 =>
    (f_X4_floorSlot T.1.1 p1).bind fun q11 =>
    (f_X4_ceilingSlot T.1.1 p1).bind fun q13 =>
    if q11 = 0 then
      f_X6_nearestKey_c36 T q11 q13
    else
      if q13 = 0 then
        f_X6_nearestKey_c36 T q11 q13
      else
        (f_X4_keyIn T.1.1 q11).bind fun q17 =>
        (f_X4_keyIn T.1.1 q13).bind fun q19 =>
        if (q19 - p1) < (p1 - q17) then
          some (.inr q19, T)
        else
          some (.inr q17, T)
set_option maxHeartbeats 4000000 in
set_option maxRecDepth 100000 in
theorem c_X6_nearestKey (l : Launch) (g : pq_g) (a : Nat → Nat) (T : MainS) (p1 : Int32) (hst : l.stackTraces = false) (o : String ⊕ Int32) (T1 : MainS) (hf : f_X6_nearestKey T p1 = some (o, T1)) : pq_X l yX6_nearestKey cX6_nearestKey 6 (some .int) 7 2 g (mainW g a T) [.ref (a 0), .int p1] (pq_oi o) (mainW g a T1) := by
  rw [f_X6_nearestKey] at hf
  refine pq_X.of hst (by decide) rfl (Nat.le_of_ble_eq_true rfl) rfl ?_
  intro p e s m below meth c ls Q A S hP hK hD hS hA hT hl hend hout hthr
  obtain ⟨hx, hb, hml, hown, hts⟩ := id S
  have B36 : ∀ (T : MainS) (v2 : Int32) (v3 : Int32) (ls : Array Slot) (H : Heap) (locs : List Loc), va_P g.1 pq_cl (mainW g a T) H → va_D A (mainW g a T) → va_S A s.heap H locs → lv_has ls 6 [(0, .ref (a 0)), (2, .int v2), (3, .int v3)] → f_X6_nearestKey_c36 T v2 v3 = some (o, T1) → W p l e (pq_rm 7 2 (6 * 2)) s m ([.ref (a 0), .int p1] : List Value).toArray below meth c H locs 1 (6 * 1) Q (F0 m 36 ls []) := by
    intro T v2 v3 ls H locs hP hD hS hl hf
    rw [f_X6_nearestKey_c36] at hf
    refine lv_aload_n hx hb dX6_nearestKey_36 rfl (lv_at hl 0 rfl) ?_
    refine lv_iload_n hx hb dX6_nearestKey_37 rfl (lv_at hl 1 rfl) ?_
    refine lv_if_ne (tgt := 45) hx hb dX6_nearestKey_38 (by decide) (fun h1 => ?_) (fun h1 => ?_)
    · replace hf := pq_ifn h1 hf
      refine lv_iload_n hx hb dX6_nearestKey_45 rfl (lv_at hl 1 rfl) ?_
      rcases pq_trE hf with ⟨E0, T4, e3, hz⟩ | ⟨q2, T4, e3, hf⟩
      · exact pq_cXV S (c_X6_keyInFound l g a T v2 hst (.inl E0) T4 e3) vv_X6_131 hK hT hP hD hS hA rfl rfl rfl rfl rfl hl.1 (Nat.le_of_ble_eq_true rfl) dX6_nearestKey_46 (by decide) (by decide) ⟨by decide, by decide⟩ (fun E ce q9 H1 locs1 hE hk hP1 hS1 hce hcv hcl => hout _ ls _ H1 locs1 _ _ E ce q9 (by rw [(Prod.mk.inj hz).1]; exact hE) (by rw [(Prod.mk.inj hz).2]; exact hP1) hS1 hce hcv hcl (by decide) (by decide)) (fun v H1 l1 h9 => by cases h9)
      refine pq_cXV S (c_X6_keyInFound l g a T v2 hst (.inr q2) T4 e3) vv_X6_131 hK hT hP hD hS hA rfl rfl rfl rfl rfl hl.1 (Nat.le_of_ble_eq_true rfl) dX6_nearestKey_46 (by decide) (by decide) ⟨by decide, by decide⟩ (fun E ce q9 H1 l1 h9 => by cases h9) (fun v H9 locs hv hk hP1 hS => ?_)
      obtain rfl : v = some (.int q2) := (Sum.inr.inj hv).symm
      change W _ _ _ _ _ _ _ _ _ _ _ _ _ _ _ (F0 _ _ _ [.int q2])
      replace hP := hP1
      replace hP : va_P g.1 pq_cl (mainW g a T4) H9 := hP
      replace hD : va_D A (mainW g a T4) := pq_adr hD (ad_X6 _ _)
      clear hk
      generalize H9 = H at hP hS ⊢
      obtain ⟨h8, h9⟩ := pq_pair hf
      exact hend 49 ls _ _ _ _ _ _ (Or.inl ⟨_, .int, rfl, rfl, dX6_nearestKey_49, rfl, rfl⟩) (by subst h8; rfl) (by subst h9; exact hP) hS (by decide) (by decide)
    · replace hf := pq_ifp h1 hf
      refine lv_iload_n hx hb dX6_nearestKey_41 rfl (lv_at hl 2 rfl) ?_
      refine lv_goto (tgt := 46) hx hb dX6_nearestKey_42 (by decide) ?_
      rcases pq_trE hf with ⟨E0, T7, e6, hz⟩ | ⟨q5, T7, e6, hf⟩
      · exact pq_cXV S (c_X6_keyInFound l g a T v3 hst (.inl E0) T7 e6) vv_X6_131 hK hT hP hD hS hA rfl rfl rfl rfl rfl hl.1 (Nat.le_of_ble_eq_true rfl) dX6_nearestKey_46 (by decide) (by decide) ⟨by decide, by decide⟩ (fun E ce q9 H1 locs1 hE hk hP1 hS1 hce hcv hcl => hout _ ls _ H1 locs1 _ _ E ce q9 (by rw [(Prod.mk.inj hz).1]; exact hE) (by rw [(Prod.mk.inj hz).2]; exact hP1) hS1 hce hcv hcl (by decide) (by decide)) (fun v H1 l1 h9 => by cases h9)
      refine pq_cXV S (c_X6_keyInFound l g a T v3 hst (.inr q5) T7 e6) vv_X6_131 hK hT hP hD hS hA rfl rfl rfl rfl rfl hl.1 (Nat.le_of_ble_eq_true rfl) dX6_nearestKey_46 (by decide) (by decide) ⟨by decide, by decide⟩ (fun E ce q9 H1 l1 h9 => by cases h9) (fun v H9 locs hv hk hP1 hS => ?_)
      obtain rfl : v = some (.int q5) := (Sum.inr.inj hv).symm
      change W _ _ _ _ _ _ _ _ _ _ _ _ _ _ _ (F0 _ _ _ [.int q5])
      replace hP := hP1
      replace hP : va_P g.1 pq_cl (mainW g a T7) H9 := hP
      replace hD : va_D A (mainW g a T7) := pq_adr hD (ad_X6 _ _)
      clear hk
      generalize H9 = H at hP hS ⊢
      obtain ⟨h8, h9⟩ := pq_pair hf
      exact hend 49 ls _ _ _ _ _ _ (Or.inl ⟨_, .int, rfl, rfl, dX6_nearestKey_49, rfl, rfl⟩) (by subst h8; rfl) (by subst h9; exact hP) hS (by decide) (by decide)
  refine lv_iload_n hx hb dX6_nearestKey_0 rfl (lv_at hl 1 rfl) ?_
  rcases pq_tuE hf with ⟨E0, u0, e9, hz⟩ | ⟨q8, u0, e9, hf⟩
  · exact pq_cXS S (c_X6_requireNumber l g p1 hst (.inl E0) u0 e9) vs_X6_53 hK hT pq_P0 pq_D0 hS hA rfl rfl hl.1 (Nat.le_of_ble_eq_true rfl) dX6_nearestKey_1 (by decide) (by decide) ⟨by decide, by decide⟩ (fun E ce q9 H1 locs1 hE hk hP1 hS1 hce hcv hcl => hout _ ls _ H1 locs1 _ _ E ce q9 (by rw [(Prod.mk.inj hz).1]; exact hE) (by rw [(Prod.mk.inj hz).2]; exact (pq_kp0 hP hk)) hS1 hce hcv hcl (by decide) (by decide)) (fun v H1 l1 h9 => by cases h9)
  refine pq_cXS S (c_X6_requireNumber l g p1 hst (.inr q8) u0 e9) vs_X6_53 hK hT pq_P0 pq_D0 hS hA rfl rfl hl.1 (Nat.le_of_ble_eq_true rfl) dX6_nearestKey_1 (by decide) (by decide) ⟨by decide, by decide⟩ (fun E ce q9 H1 l1 h9 => by cases h9) (fun v H9 locs hv hk hP1 hS => ?_)
  obtain rfl : v = none := (Sum.inr.inj hv).symm
  change W _ _ _ _ _ _ _ _ _ _ _ _ _ _ _ (F0 _ _ _ [])
  replace hP := (pq_kp0 hP hk)
  replace hP : va_P g.1 pq_cl (mainW g a T) H9 := hP
  replace hD : va_D A (mainW g a T) := pq_adr hD (ad_X6 _ _)
  clear hk
  generalize H9 = H at hP hS ⊢
  refine lv_aload_n hx hb dX6_nearestKey_4 rfl (lv_at hl 0 rfl) ?_
  refine pq_get S hK hP inX6 0 rfl rfl 0 (by decide) fl_X6_12 rfl (v := .ref (a 1)) rfl dX6_nearestKey_5 ?_
  refine pq_getN S hK (pq_P1 (pq_P2 hP)) inX1 0 rfl rfl 0 (by decide) (List.mem_of_getElem? (i := 3) rfl) rfl (v := .ref (a 2)) rfl dX6_nearestKey_8 ?_
  refine lv_iload_n hx hb dX6_nearestKey_11 rfl (lv_at hl 1 rfl) ?_
  obtain ⟨q11, e10, hf⟩ := pq_bind hf
  refine pq_cV S (c_X4_floorSlot l g (pq_sh (pq_sh a 1) 1) T.1.1 p1 q11 e10) vv_X6_134 hK (pq_P1 (pq_P2 (pq_P1 (pq_P2 hP)))) rfl rfl rfl rfl rfl hl.1 (Nat.le_of_ble_eq_true rfl) dX6_nearestKey_12 (by decide) (by decide) ⟨by decide, by decide⟩ ?_
  refine lv_istore_n (lv' := [(2, .int q11), (0, .ref (a 0)), (1, .int p1)]) hx hb dX6_nearestKey_15 rfl hl (by decide) rfl (fun ls hl => ?_)
  refine lv_aload_n hx hb dX6_nearestKey_16 rfl (lv_at hl 1 rfl) ?_
  refine pq_get S hK hP inX6 0 rfl rfl 0 (by decide) fl_X6_12 rfl (v := .ref (a 1)) rfl dX6_nearestKey_17 ?_
  refine pq_getN S hK (pq_P1 (pq_P2 hP)) inX1 0 rfl rfl 0 (by decide) (List.mem_of_getElem? (i := 3) rfl) rfl (v := .ref (a 2)) rfl dX6_nearestKey_20 ?_
  refine lv_iload_n hx hb dX6_nearestKey_23 rfl (lv_at hl 2 rfl) ?_
  obtain ⟨q13, e12, hf⟩ := pq_bind hf
  refine pq_cV S (c_X4_ceilingSlot l g (pq_sh (pq_sh a 1) 1) T.1.1 p1 q13 e12) vv_X6_137 hK (pq_P1 (pq_P2 (pq_P1 (pq_P2 hP)))) rfl rfl rfl rfl rfl hl.1 (Nat.le_of_ble_eq_true rfl) dX6_nearestKey_24 (by decide) (by decide) ⟨by decide, by decide⟩ ?_
  refine lv_istore_n (lv' := [(3, .int q13), (2, .int q11), (0, .ref (a 0)), (1, .int p1)]) hx hb dX6_nearestKey_27 rfl hl (by decide) rfl (fun ls hl => ?_)
  refine lv_iload_n hx hb dX6_nearestKey_28 rfl (lv_at hl 1 rfl) ?_
  refine lv_if_eq (tgt := 36) hx hb dX6_nearestKey_29 (by decide) (fun h14 => ?_) (fun h14 => ?_)
  · replace hf := pq_ifp h14 hf
    exact W.widen (by decide) (by decide) (B36 T q11 q13 ls _ _ hP hD hS (lv_sub hl [2, 1, 0] rfl) hf)
  · replace hf := pq_ifn h14 hf
    refine lv_iload_n hx hb dX6_nearestKey_32 rfl (lv_at hl 0 rfl) ?_
    refine lv_if_ne (tgt := 50) hx hb dX6_nearestKey_33 (by decide) (fun h15 => ?_) (fun h15 => ?_)
    · replace hf := pq_ifn h15 hf
      refine lv_aload_n hx hb dX6_nearestKey_50 rfl (lv_at hl 2 rfl) ?_
      refine pq_get S hK hP inX6 0 rfl rfl 0 (by decide) fl_X6_12 rfl (v := .ref (a 1)) rfl dX6_nearestKey_51 ?_
      refine pq_getN S hK (pq_P1 (pq_P2 hP)) inX1 0 rfl rfl 0 (by decide) (List.mem_of_getElem? (i := 3) rfl) rfl (v := .ref (a 2)) rfl dX6_nearestKey_54 ?_
      refine lv_iload_n hx hb dX6_nearestKey_57 rfl (lv_at hl 1 rfl) ?_
      obtain ⟨q17, e16, hf⟩ := pq_bind hf
      refine pq_cV S (c_X4_keyIn l g (pq_sh (pq_sh a 1) 1) T.1.1 q11 q17 e16) vv_X6_140 hK (pq_P1 (pq_P2 (pq_P1 (pq_P2 hP)))) rfl rfl rfl rfl rfl hl.1 (Nat.le_of_ble_eq_true rfl) dX6_nearestKey_58 (by decide) (by decide) ⟨by decide, by decide⟩ ?_
      refine lv_istore (lv' := [(4, .int q17), (3, .int q13), (2, .int q11), (0, .ref (a 0)), (1, .int p1)]) hx hb dX6_nearestKey_61 hl (by decide) rfl (fun ls hl => ?_)
      refine lv_aload_n hx hb dX6_nearestKey_63 rfl (lv_at hl 3 rfl) ?_
      refine pq_get S hK hP inX6 0 rfl rfl 0 (by decide) fl_X6_12 rfl (v := .ref (a 1)) rfl dX6_nearestKey_64 ?_
      refine pq_getN S hK (pq_P1 (pq_P2 hP)) inX1 0 rfl rfl 0 (by decide) (List.mem_of_getElem? (i := 3) rfl) rfl (v := .ref (a 2)) rfl dX6_nearestKey_67 ?_
      refine lv_iload_n hx hb dX6_nearestKey_70 rfl (lv_at hl 1 rfl) ?_
      obtain ⟨q19, e18, hf⟩ := pq_bind hf
      refine pq_cV S (c_X4_keyIn l g (pq_sh (pq_sh a 1) 1) T.1.1 q13 q19 e18) vv_X6_140 hK (pq_P1 (pq_P2 (pq_P1 (pq_P2 hP)))) rfl rfl rfl rfl rfl hl.1 (Nat.le_of_ble_eq_true rfl) dX6_nearestKey_71 (by decide) (by decide) ⟨by decide, by decide⟩ ?_
      refine lv_istore (lv' := [(5, .int q19), (4, .int q17), (3, .int q13), (2, .int q11), (0, .ref (a 0)), (1, .int p1)]) hx hb dX6_nearestKey_74 hl (by decide) rfl (fun ls hl => ?_)
      refine lv_iload_n hx hb dX6_nearestKey_76 rfl (lv_at hl 5 rfl) ?_
      refine lv_iload hx hb dX6_nearestKey_77 (lv_at hl 1 rfl) ?_
      refine lv_isub hx hb dX6_nearestKey_79 ?_
      refine lv_iload hx hb dX6_nearestKey_80 (lv_at hl 0 rfl) ?_
      refine lv_iload_n hx hb dX6_nearestKey_82 rfl (lv_at hl 5 rfl) ?_
      refine lv_isub hx hb dX6_nearestKey_83 ?_
      refine lv_icmp_gt (tgt := 92) hx hb dX6_nearestKey_84 (by decide) (fun h20 => ?_) (fun h20 => ?_)
      · replace hf := pq_ifp h20 hf
        refine lv_iload hx hb dX6_nearestKey_92 (lv_at hl 0 rfl) ?_
        obtain ⟨h8, h9⟩ := pq_pair hf
        exact hend 94 ls _ _ _ _ _ _ (Or.inl ⟨_, .int, rfl, rfl, dX6_nearestKey_94, rfl, rfl⟩) (by subst h8; rfl) (by subst h9; exact hP) hS (by decide) (by decide)
      · replace hf := pq_ifn h20 hf
        refine lv_iload hx hb dX6_nearestKey_87 (lv_at hl 1 rfl) ?_
        refine lv_goto (tgt := 94) hx hb dX6_nearestKey_89 (by decide) ?_
        obtain ⟨h8, h9⟩ := pq_pair hf
        exact hend 94 ls _ _ _ _ _ _ (Or.inl ⟨_, .int, rfl, rfl, dX6_nearestKey_94, rfl, rfl⟩) (by subst h8; rfl) (by subst h9; exact hP) hS (by decide) (by decide)
    · replace hf := pq_ifp h15 hf
      exact W.widen (by decide) (by decide) (B36 T q11 q13 ls _ _ hP hD hS (lv_sub hl [2, 1, 0] rfl) hf)
def f_X6_rankOf (T : MainS) (p1 : Int32) : Option (Int32) :=
    (f_X4_countBelow T.1.1 p1).bind fun q2 =>
    some q2
set_option maxHeartbeats 4000000 in
set_option maxRecDepth 100000 in
theorem c_X6_rankOf (l : Launch) (g : pq_g) (a : Nat → Nat) (T : MainS) (p1 : Int32) (r : Int32) (hf : f_X6_rankOf T p1 = some r) : pq_R l yX6_rankOf cX6_rankOf 2 .int 3 g (mainW g a T) [.ref (a 0), .int p1] r := by
  rw [f_X6_rankOf] at hf
  refine pq_R.of (own := RX6) (by decide) rfl (Nat.le_of_ble_eq_true rfl) rfl ?_
  intro p e s m below meth c ls Q S hP hK hl hend
  obtain ⟨hx, hb, hml, hown, hts⟩ := id S
  refine lv_aload_n hx hb dX6_rankOf_0 rfl (lv_at hl 0 rfl) ?_
  refine pq_get S hK hP inX6 0 rfl rfl 0 (by decide) fl_X6_12 rfl (v := .ref (a 1)) rfl dX6_rankOf_1 ?_
  refine pq_getN S hK (pq_P1 (pq_P2 hP)) inX1 0 rfl rfl 0 (by decide) (List.mem_of_getElem? (i := 3) rfl) rfl (v := .ref (a 2)) rfl dX6_rankOf_4 ?_
  refine lv_iload_n hx hb dX6_rankOf_7 rfl (lv_at hl 1 rfl) ?_
  obtain ⟨q2, e1, hf⟩ := pq_bind hf
  refine pq_cV S (c_X4_countBelow l g (pq_sh (pq_sh a 1) 1) T.1.1 p1 q2 e1) vv_X6_143 hK (pq_P1 (pq_P2 (pq_P1 (pq_P2 hP)))) rfl rfl rfl rfl rfl hl.1 (Nat.le_of_ble_eq_true rfl) dX6_rankOf_8 (by decide) (by decide) ⟨Nat.le_refl _, Nat.le_refl _⟩ ?_
  exact hend _ _ _ dX6_rankOf_11 rfl hf
def f_X6_keyAt (T : MainS) (p1 : Int32) : Option ((String ⊕ Int32) × MainS) :=
    (f_X4_slotAtPosition T.1.1 p1).bind fun q2 =>
    pq_tr (f_X6_keyInFound T q2) fun q3 T5 =>
    some (.inr q3, T5)
set_option maxHeartbeats 4000000 in
set_option maxRecDepth 100000 in
theorem c_X6_keyAt (l : Launch) (g : pq_g) (a : Nat → Nat) (T : MainS) (p1 : Int32) (hst : l.stackTraces = false) (o : String ⊕ Int32) (T1 : MainS) (hf : f_X6_keyAt T p1 = some (o, T1)) : pq_X l yX6_keyAt cX6_keyAt 2 (some .int) 7 1 g (mainW g a T) [.ref (a 0), .int p1] (pq_oi o) (mainW g a T1) := by
  rw [f_X6_keyAt] at hf
  refine pq_X.of hst (by decide) rfl (Nat.le_of_ble_eq_true rfl) rfl ?_
  intro p e s m below meth c ls Q A S hP hK hD hS hA hT hl hend hout hthr
  obtain ⟨hx, hb, hml, hown, hts⟩ := id S
  refine lv_aload_n hx hb dX6_keyAt_0 rfl (lv_at hl 0 rfl) ?_
  refine lv_aload_n hx hb dX6_keyAt_1 rfl (lv_at hl 0 rfl) ?_
  refine pq_get S hK hP inX6 0 rfl rfl 0 (by decide) fl_X6_12 rfl (v := .ref (a 1)) rfl dX6_keyAt_2 ?_
  refine pq_getN S hK (pq_P1 (pq_P2 hP)) inX1 0 rfl rfl 0 (by decide) (List.mem_of_getElem? (i := 3) rfl) rfl (v := .ref (a 2)) rfl dX6_keyAt_5 ?_
  refine lv_iload_n hx hb dX6_keyAt_8 rfl (lv_at hl 1 rfl) ?_
  obtain ⟨q2, e1, hf⟩ := pq_bind hf
  refine pq_cV S (c_X4_slotAtPosition l g (pq_sh (pq_sh a 1) 1) T.1.1 p1 q2 e1) vv_X6_128 hK (pq_P1 (pq_P2 (pq_P1 (pq_P2 hP)))) rfl rfl rfl rfl rfl hl.1 (Nat.le_of_ble_eq_true rfl) dX6_keyAt_9 (by decide) (by decide) ⟨by decide, by decide⟩ ?_
  rcases pq_trE hf with ⟨E0, T5, e4, hz⟩ | ⟨q3, T5, e4, hf⟩
  · exact pq_cXV S (c_X6_keyInFound l g a T q2 hst (.inl E0) T5 e4) vv_X6_131 hK hT hP hD hS hA rfl rfl rfl rfl rfl hl.1 (Nat.le_of_ble_eq_true rfl) dX6_keyAt_12 (by decide) (by decide) ⟨by decide, by decide⟩ (fun E ce q9 H1 locs1 hE hk hP1 hS1 hce hcv hcl => hout _ ls _ H1 locs1 _ _ E ce q9 (by rw [(Prod.mk.inj hz).1]; exact hE) (by rw [(Prod.mk.inj hz).2]; exact hP1) hS1 hce hcv hcl (by decide) (by decide)) (fun v H1 l1 h9 => by cases h9)
  refine pq_cXV S (c_X6_keyInFound l g a T q2 hst (.inr q3) T5 e4) vv_X6_131 hK hT hP hD hS hA rfl rfl rfl rfl rfl hl.1 (Nat.le_of_ble_eq_true rfl) dX6_keyAt_12 (by decide) (by decide) ⟨by decide, by decide⟩ (fun E ce q9 H1 l1 h9 => by cases h9) (fun v H9 locs hv hk hP1 hS => ?_)
  obtain rfl : v = some (.int q3) := (Sum.inr.inj hv).symm
  change W _ _ _ _ _ _ _ _ _ _ _ _ _ _ _ (F0 _ _ _ [.int q3])
  replace hP := hP1
  replace hP : va_P g.1 pq_cl (mainW g a T5) H9 := hP
  replace hD : va_D A (mainW g a T5) := pq_adr hD (ad_X6 _ _)
  clear hk
  generalize H9 = H at hP hS ⊢
  obtain ⟨h8, h9⟩ := pq_pair hf
  exact hend 15 ls _ _ _ _ _ _ (Or.inl ⟨_, .int, rfl, rfl, dX6_keyAt_15, rfl, rfl⟩) (by subst h8; rfl) (by subst h9; exact hP) hS (by decide) (by decide)
def f_X6_keyByPriority (T : MainS) (p1 : Int32) : Option ((String ⊕ Int32) × MainS) :=
    (f_X4_slotByPriority T.1.1 p1).bind fun q2 =>
    pq_tr (f_X6_keyInFound T q2) fun q3 T5 =>
    some (.inr q3, T5)
set_option maxHeartbeats 4000000 in
set_option maxRecDepth 100000 in
theorem c_X6_keyByPriority (l : Launch) (g : pq_g) (a : Nat → Nat) (T : MainS) (p1 : Int32) (hst : l.stackTraces = false) (o : String ⊕ Int32) (T1 : MainS) (hf : f_X6_keyByPriority T p1 = some (o, T1)) : pq_X l yX6_keyByPriority cX6_keyByPriority 2 (some .int) 7 1 g (mainW g a T) [.ref (a 0), .int p1] (pq_oi o) (mainW g a T1) := by
  rw [f_X6_keyByPriority] at hf
  refine pq_X.of hst (by decide) rfl (Nat.le_of_ble_eq_true rfl) rfl ?_
  intro p e s m below meth c ls Q A S hP hK hD hS hA hT hl hend hout hthr
  obtain ⟨hx, hb, hml, hown, hts⟩ := id S
  refine lv_aload_n hx hb dX6_keyByPriority_0 rfl (lv_at hl 0 rfl) ?_
  refine lv_aload_n hx hb dX6_keyByPriority_1 rfl (lv_at hl 0 rfl) ?_
  refine pq_get S hK hP inX6 0 rfl rfl 0 (by decide) fl_X6_12 rfl (v := .ref (a 1)) rfl dX6_keyByPriority_2 ?_
  refine pq_getN S hK (pq_P1 (pq_P2 hP)) inX1 0 rfl rfl 0 (by decide) (List.mem_of_getElem? (i := 3) rfl) rfl (v := .ref (a 2)) rfl dX6_keyByPriority_5 ?_
  refine lv_iload_n hx hb dX6_keyByPriority_8 rfl (lv_at hl 1 rfl) ?_
  obtain ⟨q2, e1, hf⟩ := pq_bind hf
  refine pq_cV S (c_X4_slotByPriority l g (pq_sh (pq_sh a 1) 1) T.1.1 p1 q2 e1) vv_X6_146 hK (pq_P1 (pq_P2 (pq_P1 (pq_P2 hP)))) rfl rfl rfl rfl rfl hl.1 (Nat.le_of_ble_eq_true rfl) dX6_keyByPriority_9 (by decide) (by decide) ⟨by decide, by decide⟩ ?_
  rcases pq_trE hf with ⟨E0, T5, e4, hz⟩ | ⟨q3, T5, e4, hf⟩
  · exact pq_cXV S (c_X6_keyInFound l g a T q2 hst (.inl E0) T5 e4) vv_X6_131 hK hT hP hD hS hA rfl rfl rfl rfl rfl hl.1 (Nat.le_of_ble_eq_true rfl) dX6_keyByPriority_12 (by decide) (by decide) ⟨by decide, by decide⟩ (fun E ce q9 H1 locs1 hE hk hP1 hS1 hce hcv hcl => hout _ ls _ H1 locs1 _ _ E ce q9 (by rw [(Prod.mk.inj hz).1]; exact hE) (by rw [(Prod.mk.inj hz).2]; exact hP1) hS1 hce hcv hcl (by decide) (by decide)) (fun v H1 l1 h9 => by cases h9)
  refine pq_cXV S (c_X6_keyInFound l g a T q2 hst (.inr q3) T5 e4) vv_X6_131 hK hT hP hD hS hA rfl rfl rfl rfl rfl hl.1 (Nat.le_of_ble_eq_true rfl) dX6_keyByPriority_12 (by decide) (by decide) ⟨by decide, by decide⟩ (fun E ce q9 H1 l1 h9 => by cases h9) (fun v H9 locs hv hk hP1 hS => ?_)
  obtain rfl : v = some (.int q3) := (Sum.inr.inj hv).symm
  change W _ _ _ _ _ _ _ _ _ _ _ _ _ _ _ (F0 _ _ _ [.int q3])
  replace hP := hP1
  replace hP : va_P g.1 pq_cl (mainW g a T5) H9 := hP
  replace hD : va_D A (mainW g a T5) := pq_adr hD (ad_X6 _ _)
  clear hk
  generalize H9 = H at hP hS ⊢
  obtain ⟨h8, h9⟩ := pq_pair hf
  exact hend 15 ls _ _ _ _ _ _ (Or.inl ⟨_, .int, rfl, rfl, dX6_keyByPriority_15, rfl, rfl⟩) (by subst h8; rfl) (by subst h9; exact hP) hS (by decide) (by decide)
def f_X6_root (T : MainS) : Option ((String ⊕ Int32) × MainS) :=
    (f_X4_topmost T.1.1).bind fun q2 =>
    pq_tr (f_X6_keyInFound T q2) fun q3 T5 =>
    some (.inr q3, T5)
set_option maxHeartbeats 4000000 in
set_option maxRecDepth 100000 in
theorem c_X6_root (l : Launch) (g : pq_g) (a : Nat → Nat) (T : MainS) (hst : l.stackTraces = false) (o : String ⊕ Int32) (T1 : MainS) (hf : f_X6_root T = some (o, T1)) : pq_X l yX6_root cX6_root 1 (some .int) 7 1 g (mainW g a T) [.ref (a 0)] (pq_oi o) (mainW g a T1) := by
  rw [f_X6_root] at hf
  refine pq_X.of hst (by decide) rfl (Nat.le_of_ble_eq_true rfl) rfl ?_
  intro p e s m below meth c ls Q A S hP hK hD hS hA hT hl hend hout hthr
  obtain ⟨hx, hb, hml, hown, hts⟩ := id S
  refine lv_aload_n hx hb dX6_root_0 rfl (lv_at hl 0 rfl) ?_
  refine lv_aload_n hx hb dX6_root_1 rfl (lv_at hl 0 rfl) ?_
  refine pq_get S hK hP inX6 0 rfl rfl 0 (by decide) fl_X6_12 rfl (v := .ref (a 1)) rfl dX6_root_2 ?_
  refine pq_getN S hK (pq_P1 (pq_P2 hP)) inX1 0 rfl rfl 0 (by decide) (List.mem_of_getElem? (i := 3) rfl) rfl (v := .ref (a 2)) rfl dX6_root_5 ?_
  obtain ⟨q2, e1, hf⟩ := pq_bind hf
  refine pq_cV S (c_X4_topmost l g (pq_sh (pq_sh a 1) 1) T.1.1 q2 e1) vv_X6_149 hK (pq_P1 (pq_P2 (pq_P1 (pq_P2 hP)))) rfl rfl rfl rfl rfl hl.1 (Nat.le_of_ble_eq_true rfl) dX6_root_8 (by decide) (by decide) ⟨by decide, by decide⟩ ?_
  rcases pq_trE hf with ⟨E0, T5, e4, hz⟩ | ⟨q3, T5, e4, hf⟩
  · exact pq_cXV S (c_X6_keyInFound l g a T q2 hst (.inl E0) T5 e4) vv_X6_131 hK hT hP hD hS hA rfl rfl rfl rfl rfl hl.1 (Nat.le_of_ble_eq_true rfl) dX6_root_11 (by decide) (by decide) ⟨by decide, by decide⟩ (fun E ce q9 H1 locs1 hE hk hP1 hS1 hce hcv hcl => hout _ ls _ H1 locs1 _ _ E ce q9 (by rw [(Prod.mk.inj hz).1]; exact hE) (by rw [(Prod.mk.inj hz).2]; exact hP1) hS1 hce hcv hcl (by decide) (by decide)) (fun v H1 l1 h9 => by cases h9)
  refine pq_cXV S (c_X6_keyInFound l g a T q2 hst (.inr q3) T5 e4) vv_X6_131 hK hT hP hD hS hA rfl rfl rfl rfl rfl hl.1 (Nat.le_of_ble_eq_true rfl) dX6_root_11 (by decide) (by decide) ⟨by decide, by decide⟩ (fun E ce q9 H1 l1 h9 => by cases h9) (fun v H9 locs hv hk hP1 hS => ?_)
  obtain rfl : v = some (.int q3) := (Sum.inr.inj hv).symm
  change W _ _ _ _ _ _ _ _ _ _ _ _ _ _ _ (F0 _ _ _ [.int q3])
  replace hP := hP1
  replace hP : va_P g.1 pq_cl (mainW g a T5) H9 := hP
  replace hD : va_D A (mainW g a T5) := pq_adr hD (ad_X6 _ _)
  clear hk
  generalize H9 = H at hP hS ⊢
  obtain ⟨h8, h9⟩ := pq_pair hf
  exact hend 14 ls _ _ _ _ _ _ (Or.inl ⟨_, .int, rfl, rfl, dX6_root_14, rfl, rfl⟩) (by subst h8; rfl) (by subst h9; exact hP) hS (by decide) (by decide)
def f_X6_hasLeft (T : MainS) (p1 : Int32) : Option ((String ⊕ Int32) × MainS) :=
    pq_tr (f_X6_requirePoint T p1) fun q1 T3 =>
    (f_X4_leftIn T3.1.1 q1).bind fun q5 =>
    if q5 = 0 then
      some (.inr 0, T3)
    else
      some (.inr 1, T3)
set_option maxHeartbeats 4000000 in
set_option maxRecDepth 100000 in
theorem c_X6_hasLeft (l : Launch) (g : pq_g) (a : Nat → Nat) (T : MainS) (p1 : Int32) (hst : l.stackTraces = false) (o : String ⊕ Int32) (T1 : MainS) (hf : f_X6_hasLeft T p1 = some (o, T1)) : pq_X l yX6_hasLeft cX6_hasLeft 2 (some .boolean) 7 1 g (mainW g a T) [.ref (a 0), .int p1] (pq_oi o) (mainW g a T1) := by
  rw [f_X6_hasLeft] at hf
  refine pq_X.of hst (by decide) rfl (Nat.le_of_ble_eq_true rfl) rfl ?_
  intro p e s m below meth c ls Q A S hP hK hD hS hA hT hl hend hout hthr
  obtain ⟨hx, hb, hml, hown, hts⟩ := id S
  refine lv_aload_n hx hb dX6_hasLeft_0 rfl (lv_at hl 0 rfl) ?_
  refine pq_get S hK hP inX6 0 rfl rfl 0 (by decide) fl_X6_12 rfl (v := .ref (a 1)) rfl dX6_hasLeft_1 ?_
  refine pq_getN S hK (pq_P1 (pq_P2 hP)) inX1 0 rfl rfl 0 (by decide) (List.mem_of_getElem? (i := 3) rfl) rfl (v := .ref (a 2)) rfl dX6_hasLeft_4 ?_
  refine lv_aload_n hx hb dX6_hasLeft_7 rfl (lv_at hl 0 rfl) ?_
  refine lv_iload_n hx hb dX6_hasLeft_8 rfl (lv_at hl 1 rfl) ?_
  rcases pq_trE hf with ⟨E0, T3, e2, hz⟩ | ⟨q1, T3, e2, hf⟩
  · exact pq_cXV S (c_X6_requirePoint l g a T p1 hst (.inl E0) T3 e2) vv_X6_83 hK hT hP hD hS hA rfl rfl rfl rfl rfl hl.1 (Nat.le_of_ble_eq_true rfl) dX6_hasLeft_9 (by decide) (by decide) ⟨by decide, by decide⟩ (fun E ce q9 H1 locs1 hE hk hP1 hS1 hce hcv hcl => hout _ ls _ H1 locs1 _ _ E ce q9 (by rw [(Prod.mk.inj hz).1]; exact hE) (by rw [(Prod.mk.inj hz).2]; exact hP1) hS1 hce hcv hcl (by decide) (by decide)) (fun v H1 l1 h9 => by cases h9)
  refine pq_cXV S (c_X6_requirePoint l g a T p1 hst (.inr q1) T3 e2) vv_X6_83 hK hT hP hD hS hA rfl rfl rfl rfl rfl hl.1 (Nat.le_of_ble_eq_true rfl) dX6_hasLeft_9 (by decide) (by decide) ⟨by decide, by decide⟩ (fun E ce q9 H1 l1 h9 => by cases h9) (fun v H9 locs hv hk hP1 hS => ?_)
  obtain rfl : v = some (.int q1) := (Sum.inr.inj hv).symm
  change W _ _ _ _ _ _ _ _ _ _ _ _ _ _ _ (F0 _ _ _ [.int q1, .ref (a 2)])
  replace hP := hP1
  replace hP : va_P g.1 pq_cl (mainW g a T3) H9 := hP
  replace hD : va_D A (mainW g a T3) := pq_adr hD (ad_X6 _ _)
  clear hk
  generalize H9 = H at hP hS ⊢
  obtain ⟨q5, e4, hf⟩ := pq_bind hf
  refine pq_cV S (c_X4_leftIn l g (pq_sh (pq_sh a 1) 1) T3.1.1 q1 q5 e4) vv_X6_152 hK (pq_P1 (pq_P2 (pq_P1 (pq_P2 hP)))) rfl rfl rfl rfl rfl hl.1 (Nat.le_of_ble_eq_true rfl) dX6_hasLeft_12 (by decide) (by decide) ⟨by decide, by decide⟩ ?_
  refine lv_if_eq (tgt := 22) hx hb dX6_hasLeft_15 (by decide) (fun h6 => ?_) (fun h6 => ?_)
  · replace hf := pq_ifp h6 hf
    refine lv_iconst (v := 0) hx hb dX6_hasLeft_22 (by decide) ?_
    obtain ⟨h8, h9⟩ := pq_pair hf
    exact hend 23 ls _ _ _ _ _ _ (Or.inl ⟨_, .boolean, rfl, rfl, dX6_hasLeft_23, rfl, rfl⟩) (by subst h8; rfl) (by subst h9; exact hP) hS (by decide) (by decide)
  · replace hf := pq_ifn h6 hf
    refine lv_iconst (v := 1) hx hb dX6_hasLeft_18 (by decide) ?_
    refine lv_goto (tgt := 23) hx hb dX6_hasLeft_19 (by decide) ?_
    obtain ⟨h8, h9⟩ := pq_pair hf
    exact hend 23 ls _ _ _ _ _ _ (Or.inl ⟨_, .boolean, rfl, rfl, dX6_hasLeft_23, rfl, rfl⟩) (by subst h8; rfl) (by subst h9; exact hP) hS (by decide) (by decide)
def f_X6_hasRight (T : MainS) (p1 : Int32) : Option ((String ⊕ Int32) × MainS) :=
    pq_tr (f_X6_requirePoint T p1) fun q1 T3 =>
    (f_X4_rightIn T3.1.1 q1).bind fun q5 =>
    if q5 = 0 then
      some (.inr 0, T3)
    else
      some (.inr 1, T3)
set_option maxHeartbeats 4000000 in
set_option maxRecDepth 100000 in
theorem c_X6_hasRight (l : Launch) (g : pq_g) (a : Nat → Nat) (T : MainS) (p1 : Int32) (hst : l.stackTraces = false) (o : String ⊕ Int32) (T1 : MainS) (hf : f_X6_hasRight T p1 = some (o, T1)) : pq_X l yX6_hasRight cX6_hasRight 2 (some .boolean) 7 1 g (mainW g a T) [.ref (a 0), .int p1] (pq_oi o) (mainW g a T1) := by
  rw [f_X6_hasRight] at hf
  refine pq_X.of hst (by decide) rfl (Nat.le_of_ble_eq_true rfl) rfl ?_
  intro p e s m below meth c ls Q A S hP hK hD hS hA hT hl hend hout hthr
  obtain ⟨hx, hb, hml, hown, hts⟩ := id S
  refine lv_aload_n hx hb dX6_hasRight_0 rfl (lv_at hl 0 rfl) ?_
  refine pq_get S hK hP inX6 0 rfl rfl 0 (by decide) fl_X6_12 rfl (v := .ref (a 1)) rfl dX6_hasRight_1 ?_
  refine pq_getN S hK (pq_P1 (pq_P2 hP)) inX1 0 rfl rfl 0 (by decide) (List.mem_of_getElem? (i := 3) rfl) rfl (v := .ref (a 2)) rfl dX6_hasRight_4 ?_
  refine lv_aload_n hx hb dX6_hasRight_7 rfl (lv_at hl 0 rfl) ?_
  refine lv_iload_n hx hb dX6_hasRight_8 rfl (lv_at hl 1 rfl) ?_
  rcases pq_trE hf with ⟨E0, T3, e2, hz⟩ | ⟨q1, T3, e2, hf⟩
  · exact pq_cXV S (c_X6_requirePoint l g a T p1 hst (.inl E0) T3 e2) vv_X6_83 hK hT hP hD hS hA rfl rfl rfl rfl rfl hl.1 (Nat.le_of_ble_eq_true rfl) dX6_hasRight_9 (by decide) (by decide) ⟨by decide, by decide⟩ (fun E ce q9 H1 locs1 hE hk hP1 hS1 hce hcv hcl => hout _ ls _ H1 locs1 _ _ E ce q9 (by rw [(Prod.mk.inj hz).1]; exact hE) (by rw [(Prod.mk.inj hz).2]; exact hP1) hS1 hce hcv hcl (by decide) (by decide)) (fun v H1 l1 h9 => by cases h9)
  refine pq_cXV S (c_X6_requirePoint l g a T p1 hst (.inr q1) T3 e2) vv_X6_83 hK hT hP hD hS hA rfl rfl rfl rfl rfl hl.1 (Nat.le_of_ble_eq_true rfl) dX6_hasRight_9 (by decide) (by decide) ⟨by decide, by decide⟩ (fun E ce q9 H1 l1 h9 => by cases h9) (fun v H9 locs hv hk hP1 hS => ?_)
  obtain rfl : v = some (.int q1) := (Sum.inr.inj hv).symm
  change W _ _ _ _ _ _ _ _ _ _ _ _ _ _ _ (F0 _ _ _ [.int q1, .ref (a 2)])
  replace hP := hP1
  replace hP : va_P g.1 pq_cl (mainW g a T3) H9 := hP
  replace hD : va_D A (mainW g a T3) := pq_adr hD (ad_X6 _ _)
  clear hk
  generalize H9 = H at hP hS ⊢
  obtain ⟨q5, e4, hf⟩ := pq_bind hf
  refine pq_cV S (c_X4_rightIn l g (pq_sh (pq_sh a 1) 1) T3.1.1 q1 q5 e4) vv_X6_155 hK (pq_P1 (pq_P2 (pq_P1 (pq_P2 hP)))) rfl rfl rfl rfl rfl hl.1 (Nat.le_of_ble_eq_true rfl) dX6_hasRight_12 (by decide) (by decide) ⟨by decide, by decide⟩ ?_
  refine lv_if_eq (tgt := 22) hx hb dX6_hasRight_15 (by decide) (fun h6 => ?_) (fun h6 => ?_)
  · replace hf := pq_ifp h6 hf
    refine lv_iconst (v := 0) hx hb dX6_hasRight_22 (by decide) ?_
    obtain ⟨h8, h9⟩ := pq_pair hf
    exact hend 23 ls _ _ _ _ _ _ (Or.inl ⟨_, .boolean, rfl, rfl, dX6_hasRight_23, rfl, rfl⟩) (by subst h8; rfl) (by subst h9; exact hP) hS (by decide) (by decide)
  · replace hf := pq_ifn h6 hf
    refine lv_iconst (v := 1) hx hb dX6_hasRight_18 (by decide) ?_
    refine lv_goto (tgt := 23) hx hb dX6_hasRight_19 (by decide) ?_
    obtain ⟨h8, h9⟩ := pq_pair hf
    exact hend 23 ls _ _ _ _ _ _ (Or.inl ⟨_, .boolean, rfl, rfl, dX6_hasRight_23, rfl, rfl⟩) (by subst h8; rfl) (by subst h9; exact hP) hS (by decide) (by decide)
def f_X6_leftOf (T : MainS) (p1 : Int32) : Option ((String ⊕ Int32) × MainS) :=
    pq_tr (f_X6_requirePoint T p1) fun q1 T3 =>
    (f_X4_leftIn T3.1.1 q1).bind fun q5 =>
    pq_tr (f_X6_keyInFound T3 q5) fun q6 T8 =>
    some (.inr q6, T8)
set_option maxHeartbeats 4000000 in
set_option maxRecDepth 100000 in
theorem c_X6_leftOf (l : Launch) (g : pq_g) (a : Nat → Nat) (T : MainS) (p1 : Int32) (hst : l.stackTraces = false) (o : String ⊕ Int32) (T1 : MainS) (hf : f_X6_leftOf T p1 = some (o, T1)) : pq_X l yX6_leftOf cX6_leftOf 2 (some .int) 7 2 g (mainW g a T) [.ref (a 0), .int p1] (pq_oi o) (mainW g a T1) := by
  rw [f_X6_leftOf] at hf
  refine pq_X.of hst (by decide) rfl (Nat.le_of_ble_eq_true rfl) rfl ?_
  intro p e s m below meth c ls Q A S hP hK hD hS hA hT hl hend hout hthr
  obtain ⟨hx, hb, hml, hown, hts⟩ := id S
  refine lv_aload_n hx hb dX6_leftOf_0 rfl (lv_at hl 0 rfl) ?_
  refine lv_aload_n hx hb dX6_leftOf_1 rfl (lv_at hl 0 rfl) ?_
  refine pq_get S hK hP inX6 0 rfl rfl 0 (by decide) fl_X6_12 rfl (v := .ref (a 1)) rfl dX6_leftOf_2 ?_
  refine pq_getN S hK (pq_P1 (pq_P2 hP)) inX1 0 rfl rfl 0 (by decide) (List.mem_of_getElem? (i := 3) rfl) rfl (v := .ref (a 2)) rfl dX6_leftOf_5 ?_
  refine lv_aload_n hx hb dX6_leftOf_8 rfl (lv_at hl 0 rfl) ?_
  refine lv_iload_n hx hb dX6_leftOf_9 rfl (lv_at hl 1 rfl) ?_
  rcases pq_trE hf with ⟨E0, T3, e2, hz⟩ | ⟨q1, T3, e2, hf⟩
  · exact pq_cXV S (c_X6_requirePoint l g a T p1 hst (.inl E0) T3 e2) vv_X6_83 hK hT hP hD hS hA rfl rfl rfl rfl rfl hl.1 (Nat.le_of_ble_eq_true rfl) dX6_leftOf_10 (by decide) (by decide) ⟨by decide, by decide⟩ (fun E ce q9 H1 locs1 hE hk hP1 hS1 hce hcv hcl => hout _ ls _ H1 locs1 _ _ E ce q9 (by rw [(Prod.mk.inj hz).1]; exact hE) (by rw [(Prod.mk.inj hz).2]; exact hP1) hS1 hce hcv hcl (by decide) (by decide)) (fun v H1 l1 h9 => by cases h9)
  refine pq_cXV S (c_X6_requirePoint l g a T p1 hst (.inr q1) T3 e2) vv_X6_83 hK hT hP hD hS hA rfl rfl rfl rfl rfl hl.1 (Nat.le_of_ble_eq_true rfl) dX6_leftOf_10 (by decide) (by decide) ⟨by decide, by decide⟩ (fun E ce q9 H1 l1 h9 => by cases h9) (fun v H9 locs hv hk hP1 hS => ?_)
  obtain rfl : v = some (.int q1) := (Sum.inr.inj hv).symm
  change W _ _ _ _ _ _ _ _ _ _ _ _ _ _ _ (F0 _ _ _ [.int q1, .ref (a 2), .ref (a 0)])
  replace hP := hP1
  replace hP : va_P g.1 pq_cl (mainW g a T3) H9 := hP
  replace hD : va_D A (mainW g a T3) := pq_adr hD (ad_X6 _ _)
  clear hk
  generalize H9 = H at hP hS ⊢
  obtain ⟨q5, e4, hf⟩ := pq_bind hf
  refine pq_cV S (c_X4_leftIn l g (pq_sh (pq_sh a 1) 1) T3.1.1 q1 q5 e4) vv_X6_152 hK (pq_P1 (pq_P2 (pq_P1 (pq_P2 hP)))) rfl rfl rfl rfl rfl hl.1 (Nat.le_of_ble_eq_true rfl) dX6_leftOf_13 (by decide) (by decide) ⟨by decide, by decide⟩ ?_
  rcases pq_trE hf with ⟨E0, T8, e7, hz⟩ | ⟨q6, T8, e7, hf⟩
  · exact pq_cXV S (c_X6_keyInFound l g a T3 q5 hst (.inl E0) T8 e7) vv_X6_131 hK hT hP hD hS hA rfl rfl rfl rfl rfl hl.1 (Nat.le_of_ble_eq_true rfl) dX6_leftOf_16 (by decide) (by decide) ⟨by decide, by decide⟩ (fun E ce q9 H1 locs1 hE hk hP1 hS1 hce hcv hcl => hout _ ls _ H1 locs1 _ _ E ce q9 (by rw [(Prod.mk.inj hz).1]; exact hE) (by rw [(Prod.mk.inj hz).2]; exact hP1) hS1 hce hcv hcl (by decide) (by decide)) (fun v H1 l1 h9 => by cases h9)
  refine pq_cXV S (c_X6_keyInFound l g a T3 q5 hst (.inr q6) T8 e7) vv_X6_131 hK hT hP hD hS hA rfl rfl rfl rfl rfl hl.1 (Nat.le_of_ble_eq_true rfl) dX6_leftOf_16 (by decide) (by decide) ⟨by decide, by decide⟩ (fun E ce q9 H1 l1 h9 => by cases h9) (fun v H9 locs hv hk hP1 hS => ?_)
  obtain rfl : v = some (.int q6) := (Sum.inr.inj hv).symm
  change W _ _ _ _ _ _ _ _ _ _ _ _ _ _ _ (F0 _ _ _ [.int q6])
  replace hP := hP1
  replace hP : va_P g.1 pq_cl (mainW g a T8) H9 := hP
  replace hD : va_D A (mainW g a T8) := pq_adr hD (ad_X6 _ _)
  clear hk
  generalize H9 = H at hP hS ⊢
  obtain ⟨h8, h9⟩ := pq_pair hf
  exact hend 19 ls _ _ _ _ _ _ (Or.inl ⟨_, .int, rfl, rfl, dX6_leftOf_19, rfl, rfl⟩) (by subst h8; rfl) (by subst h9; exact hP) hS (by decide) (by decide)
def f_X6_rightOf (T : MainS) (p1 : Int32) : Option ((String ⊕ Int32) × MainS) :=
    pq_tr (f_X6_requirePoint T p1) fun q1 T3 =>
    (f_X4_rightIn T3.1.1 q1).bind fun q5 =>
    pq_tr (f_X6_keyInFound T3 q5) fun q6 T8 =>
    some (.inr q6, T8)
set_option maxHeartbeats 4000000 in
set_option maxRecDepth 100000 in
theorem c_X6_rightOf (l : Launch) (g : pq_g) (a : Nat → Nat) (T : MainS) (p1 : Int32) (hst : l.stackTraces = false) (o : String ⊕ Int32) (T1 : MainS) (hf : f_X6_rightOf T p1 = some (o, T1)) : pq_X l yX6_rightOf cX6_rightOf 2 (some .int) 7 2 g (mainW g a T) [.ref (a 0), .int p1] (pq_oi o) (mainW g a T1) := by
  rw [f_X6_rightOf] at hf
  refine pq_X.of hst (by decide) rfl (Nat.le_of_ble_eq_true rfl) rfl ?_
  intro p e s m below meth c ls Q A S hP hK hD hS hA hT hl hend hout hthr
  obtain ⟨hx, hb, hml, hown, hts⟩ := id S
  refine lv_aload_n hx hb dX6_rightOf_0 rfl (lv_at hl 0 rfl) ?_
  refine lv_aload_n hx hb dX6_rightOf_1 rfl (lv_at hl 0 rfl) ?_
  refine pq_get S hK hP inX6 0 rfl rfl 0 (by decide) fl_X6_12 rfl (v := .ref (a 1)) rfl dX6_rightOf_2 ?_
  refine pq_getN S hK (pq_P1 (pq_P2 hP)) inX1 0 rfl rfl 0 (by decide) (List.mem_of_getElem? (i := 3) rfl) rfl (v := .ref (a 2)) rfl dX6_rightOf_5 ?_
  refine lv_aload_n hx hb dX6_rightOf_8 rfl (lv_at hl 0 rfl) ?_
  refine lv_iload_n hx hb dX6_rightOf_9 rfl (lv_at hl 1 rfl) ?_
  rcases pq_trE hf with ⟨E0, T3, e2, hz⟩ | ⟨q1, T3, e2, hf⟩
  · exact pq_cXV S (c_X6_requirePoint l g a T p1 hst (.inl E0) T3 e2) vv_X6_83 hK hT hP hD hS hA rfl rfl rfl rfl rfl hl.1 (Nat.le_of_ble_eq_true rfl) dX6_rightOf_10 (by decide) (by decide) ⟨by decide, by decide⟩ (fun E ce q9 H1 locs1 hE hk hP1 hS1 hce hcv hcl => hout _ ls _ H1 locs1 _ _ E ce q9 (by rw [(Prod.mk.inj hz).1]; exact hE) (by rw [(Prod.mk.inj hz).2]; exact hP1) hS1 hce hcv hcl (by decide) (by decide)) (fun v H1 l1 h9 => by cases h9)
  refine pq_cXV S (c_X6_requirePoint l g a T p1 hst (.inr q1) T3 e2) vv_X6_83 hK hT hP hD hS hA rfl rfl rfl rfl rfl hl.1 (Nat.le_of_ble_eq_true rfl) dX6_rightOf_10 (by decide) (by decide) ⟨by decide, by decide⟩ (fun E ce q9 H1 l1 h9 => by cases h9) (fun v H9 locs hv hk hP1 hS => ?_)
  obtain rfl : v = some (.int q1) := (Sum.inr.inj hv).symm
  change W _ _ _ _ _ _ _ _ _ _ _ _ _ _ _ (F0 _ _ _ [.int q1, .ref (a 2), .ref (a 0)])
  replace hP := hP1
  replace hP : va_P g.1 pq_cl (mainW g a T3) H9 := hP
  replace hD : va_D A (mainW g a T3) := pq_adr hD (ad_X6 _ _)
  clear hk
  generalize H9 = H at hP hS ⊢
  obtain ⟨q5, e4, hf⟩ := pq_bind hf
  refine pq_cV S (c_X4_rightIn l g (pq_sh (pq_sh a 1) 1) T3.1.1 q1 q5 e4) vv_X6_155 hK (pq_P1 (pq_P2 (pq_P1 (pq_P2 hP)))) rfl rfl rfl rfl rfl hl.1 (Nat.le_of_ble_eq_true rfl) dX6_rightOf_13 (by decide) (by decide) ⟨by decide, by decide⟩ ?_
  rcases pq_trE hf with ⟨E0, T8, e7, hz⟩ | ⟨q6, T8, e7, hf⟩
  · exact pq_cXV S (c_X6_keyInFound l g a T3 q5 hst (.inl E0) T8 e7) vv_X6_131 hK hT hP hD hS hA rfl rfl rfl rfl rfl hl.1 (Nat.le_of_ble_eq_true rfl) dX6_rightOf_16 (by decide) (by decide) ⟨by decide, by decide⟩ (fun E ce q9 H1 locs1 hE hk hP1 hS1 hce hcv hcl => hout _ ls _ H1 locs1 _ _ E ce q9 (by rw [(Prod.mk.inj hz).1]; exact hE) (by rw [(Prod.mk.inj hz).2]; exact hP1) hS1 hce hcv hcl (by decide) (by decide)) (fun v H1 l1 h9 => by cases h9)
  refine pq_cXV S (c_X6_keyInFound l g a T3 q5 hst (.inr q6) T8 e7) vv_X6_131 hK hT hP hD hS hA rfl rfl rfl rfl rfl hl.1 (Nat.le_of_ble_eq_true rfl) dX6_rightOf_16 (by decide) (by decide) ⟨by decide, by decide⟩ (fun E ce q9 H1 l1 h9 => by cases h9) (fun v H9 locs hv hk hP1 hS => ?_)
  obtain rfl : v = some (.int q6) := (Sum.inr.inj hv).symm
  change W _ _ _ _ _ _ _ _ _ _ _ _ _ _ _ (F0 _ _ _ [.int q6])
  replace hP := hP1
  replace hP : va_P g.1 pq_cl (mainW g a T8) H9 := hP
  replace hD : va_D A (mainW g a T8) := pq_adr hD (ad_X6 _ _)
  clear hk
  generalize H9 = H at hP hS ⊢
  obtain ⟨h8, h9⟩ := pq_pair hf
  exact hend 19 ls _ _ _ _ _ _ (Or.inl ⟨_, .int, rfl, rfl, dX6_rightOf_19, rfl, rfl⟩) (by subst h8; rfl) (by subst h9; exact hP) hS (by decide) (by decide)
def f_X6_parentOf (T : MainS) (p1 : Int32) : Option ((String ⊕ Int32) × MainS) :=
    pq_tr (f_X6_requirePoint T p1) fun q1 T3 =>
    (f_X4_parentIn T3.1.1 q1).bind fun q5 =>
    pq_tr (f_X6_keyInFound T3 q5) fun q6 T8 =>
    some (.inr q6, T8)
set_option maxHeartbeats 4000000 in
set_option maxRecDepth 100000 in
theorem c_X6_parentOf (l : Launch) (g : pq_g) (a : Nat → Nat) (T : MainS) (p1 : Int32) (hst : l.stackTraces = false) (o : String ⊕ Int32) (T1 : MainS) (hf : f_X6_parentOf T p1 = some (o, T1)) : pq_X l yX6_parentOf cX6_parentOf 2 (some .int) 7 2 g (mainW g a T) [.ref (a 0), .int p1] (pq_oi o) (mainW g a T1) := by
  rw [f_X6_parentOf] at hf
  refine pq_X.of hst (by decide) rfl (Nat.le_of_ble_eq_true rfl) rfl ?_
  intro p e s m below meth c ls Q A S hP hK hD hS hA hT hl hend hout hthr
  obtain ⟨hx, hb, hml, hown, hts⟩ := id S
  refine lv_aload_n hx hb dX6_parentOf_0 rfl (lv_at hl 0 rfl) ?_
  refine lv_aload_n hx hb dX6_parentOf_1 rfl (lv_at hl 0 rfl) ?_
  refine pq_get S hK hP inX6 0 rfl rfl 0 (by decide) fl_X6_12 rfl (v := .ref (a 1)) rfl dX6_parentOf_2 ?_
  refine pq_getN S hK (pq_P1 (pq_P2 hP)) inX1 0 rfl rfl 0 (by decide) (List.mem_of_getElem? (i := 3) rfl) rfl (v := .ref (a 2)) rfl dX6_parentOf_5 ?_
  refine lv_aload_n hx hb dX6_parentOf_8 rfl (lv_at hl 0 rfl) ?_
  refine lv_iload_n hx hb dX6_parentOf_9 rfl (lv_at hl 1 rfl) ?_
  rcases pq_trE hf with ⟨E0, T3, e2, hz⟩ | ⟨q1, T3, e2, hf⟩
  · exact pq_cXV S (c_X6_requirePoint l g a T p1 hst (.inl E0) T3 e2) vv_X6_83 hK hT hP hD hS hA rfl rfl rfl rfl rfl hl.1 (Nat.le_of_ble_eq_true rfl) dX6_parentOf_10 (by decide) (by decide) ⟨by decide, by decide⟩ (fun E ce q9 H1 locs1 hE hk hP1 hS1 hce hcv hcl => hout _ ls _ H1 locs1 _ _ E ce q9 (by rw [(Prod.mk.inj hz).1]; exact hE) (by rw [(Prod.mk.inj hz).2]; exact hP1) hS1 hce hcv hcl (by decide) (by decide)) (fun v H1 l1 h9 => by cases h9)
  refine pq_cXV S (c_X6_requirePoint l g a T p1 hst (.inr q1) T3 e2) vv_X6_83 hK hT hP hD hS hA rfl rfl rfl rfl rfl hl.1 (Nat.le_of_ble_eq_true rfl) dX6_parentOf_10 (by decide) (by decide) ⟨by decide, by decide⟩ (fun E ce q9 H1 l1 h9 => by cases h9) (fun v H9 locs hv hk hP1 hS => ?_)
  obtain rfl : v = some (.int q1) := (Sum.inr.inj hv).symm
  change W _ _ _ _ _ _ _ _ _ _ _ _ _ _ _ (F0 _ _ _ [.int q1, .ref (a 2), .ref (a 0)])
  replace hP := hP1
  replace hP : va_P g.1 pq_cl (mainW g a T3) H9 := hP
  replace hD : va_D A (mainW g a T3) := pq_adr hD (ad_X6 _ _)
  clear hk
  generalize H9 = H at hP hS ⊢
  obtain ⟨q5, e4, hf⟩ := pq_bind hf
  refine pq_cV S (c_X4_parentIn l g (pq_sh (pq_sh a 1) 1) T3.1.1 q1 q5 e4) vv_X6_158 hK (pq_P1 (pq_P2 (pq_P1 (pq_P2 hP)))) rfl rfl rfl rfl rfl hl.1 (Nat.le_of_ble_eq_true rfl) dX6_parentOf_13 (by decide) (by decide) ⟨by decide, by decide⟩ ?_
  rcases pq_trE hf with ⟨E0, T8, e7, hz⟩ | ⟨q6, T8, e7, hf⟩
  · exact pq_cXV S (c_X6_keyInFound l g a T3 q5 hst (.inl E0) T8 e7) vv_X6_131 hK hT hP hD hS hA rfl rfl rfl rfl rfl hl.1 (Nat.le_of_ble_eq_true rfl) dX6_parentOf_16 (by decide) (by decide) ⟨by decide, by decide⟩ (fun E ce q9 H1 locs1 hE hk hP1 hS1 hce hcv hcl => hout _ ls _ H1 locs1 _ _ E ce q9 (by rw [(Prod.mk.inj hz).1]; exact hE) (by rw [(Prod.mk.inj hz).2]; exact hP1) hS1 hce hcv hcl (by decide) (by decide)) (fun v H1 l1 h9 => by cases h9)
  refine pq_cXV S (c_X6_keyInFound l g a T3 q5 hst (.inr q6) T8 e7) vv_X6_131 hK hT hP hD hS hA rfl rfl rfl rfl rfl hl.1 (Nat.le_of_ble_eq_true rfl) dX6_parentOf_16 (by decide) (by decide) ⟨by decide, by decide⟩ (fun E ce q9 H1 l1 h9 => by cases h9) (fun v H9 locs hv hk hP1 hS => ?_)
  obtain rfl : v = some (.int q6) := (Sum.inr.inj hv).symm
  change W _ _ _ _ _ _ _ _ _ _ _ _ _ _ _ (F0 _ _ _ [.int q6])
  replace hP := hP1
  replace hP : va_P g.1 pq_cl (mainW g a T8) H9 := hP
  replace hD : va_D A (mainW g a T8) := pq_adr hD (ad_X6 _ _)
  clear hk
  generalize H9 = H at hP hS ⊢
  obtain ⟨h8, h9⟩ := pq_pair hf
  exact hend 19 ls _ _ _ _ _ _ (Or.inl ⟨_, .int, rfl, rfl, dX6_parentOf_19, rfl, rfl⟩) (by subst h8; rfl) (by subst h9; exact hP) hS (by decide) (by decide)
def f_X6_depthOf (T : MainS) (p1 : Int32) : Option ((String ⊕ Int32) × MainS) :=
    pq_tr (f_X6_requirePoint T p1) fun q1 T3 =>
    (f_X4_depthIn T3.1.1 q1).bind fun q5 =>
    some (.inr q5, T3)
set_option maxHeartbeats 4000000 in
set_option maxRecDepth 100000 in
theorem c_X6_depthOf (l : Launch) (g : pq_g) (a : Nat → Nat) (T : MainS) (p1 : Int32) (hst : l.stackTraces = false) (o : String ⊕ Int32) (T1 : MainS) (hf : f_X6_depthOf T p1 = some (o, T1)) : pq_X l yX6_depthOf cX6_depthOf 2 (some .int) 7 1 g (mainW g a T) [.ref (a 0), .int p1] (pq_oi o) (mainW g a T1) := by
  rw [f_X6_depthOf] at hf
  refine pq_X.of hst (by decide) rfl (Nat.le_of_ble_eq_true rfl) rfl ?_
  intro p e s m below meth c ls Q A S hP hK hD hS hA hT hl hend hout hthr
  obtain ⟨hx, hb, hml, hown, hts⟩ := id S
  refine lv_aload_n hx hb dX6_depthOf_0 rfl (lv_at hl 0 rfl) ?_
  refine pq_get S hK hP inX6 0 rfl rfl 0 (by decide) fl_X6_12 rfl (v := .ref (a 1)) rfl dX6_depthOf_1 ?_
  refine pq_getN S hK (pq_P1 (pq_P2 hP)) inX1 0 rfl rfl 0 (by decide) (List.mem_of_getElem? (i := 3) rfl) rfl (v := .ref (a 2)) rfl dX6_depthOf_4 ?_
  refine lv_aload_n hx hb dX6_depthOf_7 rfl (lv_at hl 0 rfl) ?_
  refine lv_iload_n hx hb dX6_depthOf_8 rfl (lv_at hl 1 rfl) ?_
  rcases pq_trE hf with ⟨E0, T3, e2, hz⟩ | ⟨q1, T3, e2, hf⟩
  · exact pq_cXV S (c_X6_requirePoint l g a T p1 hst (.inl E0) T3 e2) vv_X6_83 hK hT hP hD hS hA rfl rfl rfl rfl rfl hl.1 (Nat.le_of_ble_eq_true rfl) dX6_depthOf_9 (by decide) (by decide) ⟨by decide, by decide⟩ (fun E ce q9 H1 locs1 hE hk hP1 hS1 hce hcv hcl => hout _ ls _ H1 locs1 _ _ E ce q9 (by rw [(Prod.mk.inj hz).1]; exact hE) (by rw [(Prod.mk.inj hz).2]; exact hP1) hS1 hce hcv hcl (by decide) (by decide)) (fun v H1 l1 h9 => by cases h9)
  refine pq_cXV S (c_X6_requirePoint l g a T p1 hst (.inr q1) T3 e2) vv_X6_83 hK hT hP hD hS hA rfl rfl rfl rfl rfl hl.1 (Nat.le_of_ble_eq_true rfl) dX6_depthOf_9 (by decide) (by decide) ⟨by decide, by decide⟩ (fun E ce q9 H1 l1 h9 => by cases h9) (fun v H9 locs hv hk hP1 hS => ?_)
  obtain rfl : v = some (.int q1) := (Sum.inr.inj hv).symm
  change W _ _ _ _ _ _ _ _ _ _ _ _ _ _ _ (F0 _ _ _ [.int q1, .ref (a 2)])
  replace hP := hP1
  replace hP : va_P g.1 pq_cl (mainW g a T3) H9 := hP
  replace hD : va_D A (mainW g a T3) := pq_adr hD (ad_X6 _ _)
  clear hk
  generalize H9 = H at hP hS ⊢
  obtain ⟨q5, e4, hf⟩ := pq_bind hf
  refine pq_cV S (c_X4_depthIn l g (pq_sh (pq_sh a 1) 1) T3.1.1 q1 q5 e4) vv_X6_161 hK (pq_P1 (pq_P2 (pq_P1 (pq_P2 hP)))) rfl rfl rfl rfl rfl hl.1 (Nat.le_of_ble_eq_true rfl) dX6_depthOf_12 (by decide) (by decide) ⟨by decide, by decide⟩ ?_
  obtain ⟨h8, h9⟩ := pq_pair hf
  exact hend 15 ls _ _ _ _ _ _ (Or.inl ⟨_, .int, rfl, rfl, dX6_depthOf_15, rfl, rfl⟩) (by subst h8; rfl) (by subst h9; exact hP) hS (by decide) (by decide)
def f_X6_subtreeSize (T : MainS) (p1 : Int32) : Option ((String ⊕ Int32) × MainS) :=
    pq_tr (f_X6_requirePoint T p1) fun q1 T3 =>
    (f_X4_countIn T3.1.1 q1).bind fun q5 =>
    some (.inr q5, T3)
set_option maxHeartbeats 4000000 in
set_option maxRecDepth 100000 in
theorem c_X6_subtreeSize (l : Launch) (g : pq_g) (a : Nat → Nat) (T : MainS) (p1 : Int32) (hst : l.stackTraces = false) (o : String ⊕ Int32) (T1 : MainS) (hf : f_X6_subtreeSize T p1 = some (o, T1)) : pq_X l yX6_subtreeSize cX6_subtreeSize 2 (some .int) 7 1 g (mainW g a T) [.ref (a 0), .int p1] (pq_oi o) (mainW g a T1) := by
  rw [f_X6_subtreeSize] at hf
  refine pq_X.of hst (by decide) rfl (Nat.le_of_ble_eq_true rfl) rfl ?_
  intro p e s m below meth c ls Q A S hP hK hD hS hA hT hl hend hout hthr
  obtain ⟨hx, hb, hml, hown, hts⟩ := id S
  refine lv_aload_n hx hb dX6_subtreeSize_0 rfl (lv_at hl 0 rfl) ?_
  refine pq_get S hK hP inX6 0 rfl rfl 0 (by decide) fl_X6_12 rfl (v := .ref (a 1)) rfl dX6_subtreeSize_1 ?_
  refine pq_getN S hK (pq_P1 (pq_P2 hP)) inX1 0 rfl rfl 0 (by decide) (List.mem_of_getElem? (i := 3) rfl) rfl (v := .ref (a 2)) rfl dX6_subtreeSize_4 ?_
  refine lv_aload_n hx hb dX6_subtreeSize_7 rfl (lv_at hl 0 rfl) ?_
  refine lv_iload_n hx hb dX6_subtreeSize_8 rfl (lv_at hl 1 rfl) ?_
  rcases pq_trE hf with ⟨E0, T3, e2, hz⟩ | ⟨q1, T3, e2, hf⟩
  · exact pq_cXV S (c_X6_requirePoint l g a T p1 hst (.inl E0) T3 e2) vv_X6_83 hK hT hP hD hS hA rfl rfl rfl rfl rfl hl.1 (Nat.le_of_ble_eq_true rfl) dX6_subtreeSize_9 (by decide) (by decide) ⟨by decide, by decide⟩ (fun E ce q9 H1 locs1 hE hk hP1 hS1 hce hcv hcl => hout _ ls _ H1 locs1 _ _ E ce q9 (by rw [(Prod.mk.inj hz).1]; exact hE) (by rw [(Prod.mk.inj hz).2]; exact hP1) hS1 hce hcv hcl (by decide) (by decide)) (fun v H1 l1 h9 => by cases h9)
  refine pq_cXV S (c_X6_requirePoint l g a T p1 hst (.inr q1) T3 e2) vv_X6_83 hK hT hP hD hS hA rfl rfl rfl rfl rfl hl.1 (Nat.le_of_ble_eq_true rfl) dX6_subtreeSize_9 (by decide) (by decide) ⟨by decide, by decide⟩ (fun E ce q9 H1 l1 h9 => by cases h9) (fun v H9 locs hv hk hP1 hS => ?_)
  obtain rfl : v = some (.int q1) := (Sum.inr.inj hv).symm
  change W _ _ _ _ _ _ _ _ _ _ _ _ _ _ _ (F0 _ _ _ [.int q1, .ref (a 2)])
  replace hP := hP1
  replace hP : va_P g.1 pq_cl (mainW g a T3) H9 := hP
  replace hD : va_D A (mainW g a T3) := pq_adr hD (ad_X6 _ _)
  clear hk
  generalize H9 = H at hP hS ⊢
  obtain ⟨q5, e4, hf⟩ := pq_bind hf
  refine pq_cV S (c_X4_countIn l g (pq_sh (pq_sh a 1) 1) T3.1.1 q1 q5 e4) vv_X6_164 hK (pq_P1 (pq_P2 (pq_P1 (pq_P2 hP)))) rfl rfl rfl rfl rfl hl.1 (Nat.le_of_ble_eq_true rfl) dX6_subtreeSize_12 (by decide) (by decide) ⟨by decide, by decide⟩ ?_
  obtain ⟨h8, h9⟩ := pq_pair hf
  exact hend 15 ls _ _ _ _ _ _ (Or.inl ⟨_, .int, rfl, rfl, dX6_subtreeSize_15, rfl, rfl⟩) (by subst h8; rfl) (by subst h9; exact hP) hS (by decide) (by decide)
def f_X6_imbalanceOf (T : MainS) (p1 : Int32) : Option ((String ⊕ Int32) × MainS) :=
    pq_tr (f_X6_requirePoint T p1) fun q1 T3 =>
    (f_X4_leftIn T3.1.1 q1).bind fun q5 =>
    (f_X4_countIn T3.1.1 q5).bind fun q7 =>
    (f_X4_rightIn T3.1.1 q1).bind fun q9 =>
    (f_X4_countIn T3.1.1 q9).bind fun q11 =>
    some (.inr (q7 - q11), T3)
set_option maxHeartbeats 4000000 in
set_option maxRecDepth 100000 in
theorem c_X6_imbalanceOf (l : Launch) (g : pq_g) (a : Nat → Nat) (T : MainS) (p1 : Int32) (hst : l.stackTraces = false) (o : String ⊕ Int32) (T1 : MainS) (hf : f_X6_imbalanceOf T p1 = some (o, T1)) : pq_X l yX6_imbalanceOf cX6_imbalanceOf 3 (some .int) 7 1 g (mainW g a T) [.ref (a 0), .int p1] (pq_oi o) (mainW g a T1) := by
  rw [f_X6_imbalanceOf] at hf
  refine pq_X.of hst (by decide) rfl (Nat.le_of_ble_eq_true rfl) rfl ?_
  intro p e s m below meth c ls Q A S hP hK hD hS hA hT hl hend hout hthr
  obtain ⟨hx, hb, hml, hown, hts⟩ := id S
  refine lv_aload_n hx hb dX6_imbalanceOf_0 rfl (lv_at hl 0 rfl) ?_
  refine lv_iload_n hx hb dX6_imbalanceOf_1 rfl (lv_at hl 1 rfl) ?_
  rcases pq_trE hf with ⟨E0, T3, e2, hz⟩ | ⟨q1, T3, e2, hf⟩
  · exact pq_cXV S (c_X6_requirePoint l g a T p1 hst (.inl E0) T3 e2) vv_X6_83 hK hT hP hD hS hA rfl rfl rfl rfl rfl hl.1 (Nat.le_of_ble_eq_true rfl) dX6_imbalanceOf_2 (by decide) (by decide) ⟨by decide, by decide⟩ (fun E ce q9 H1 locs1 hE hk hP1 hS1 hce hcv hcl => hout _ ls _ H1 locs1 _ _ E ce q9 (by rw [(Prod.mk.inj hz).1]; exact hE) (by rw [(Prod.mk.inj hz).2]; exact hP1) hS1 hce hcv hcl (by decide) (by decide)) (fun v H1 l1 h9 => by cases h9)
  refine pq_cXV S (c_X6_requirePoint l g a T p1 hst (.inr q1) T3 e2) vv_X6_83 hK hT hP hD hS hA rfl rfl rfl rfl rfl hl.1 (Nat.le_of_ble_eq_true rfl) dX6_imbalanceOf_2 (by decide) (by decide) ⟨by decide, by decide⟩ (fun E ce q9 H1 l1 h9 => by cases h9) (fun v H9 locs hv hk hP1 hS => ?_)
  obtain rfl : v = some (.int q1) := (Sum.inr.inj hv).symm
  change W _ _ _ _ _ _ _ _ _ _ _ _ _ _ _ (F0 _ _ _ [.int q1])
  replace hP := hP1
  replace hP : va_P g.1 pq_cl (mainW g a T3) H9 := hP
  replace hD : va_D A (mainW g a T3) := pq_adr hD (ad_X6 _ _)
  clear hk
  generalize H9 = H at hP hS ⊢
  refine lv_istore_n (lv' := [(2, .int q1), (0, .ref (a 0)), (1, .int p1)]) hx hb dX6_imbalanceOf_5 rfl hl (by decide) rfl (fun ls hl => ?_)
  refine lv_aload_n hx hb dX6_imbalanceOf_6 rfl (lv_at hl 1 rfl) ?_
  refine pq_get S hK hP inX6 0 rfl rfl 0 (by decide) fl_X6_12 rfl (v := .ref (a 1)) rfl dX6_imbalanceOf_7 ?_
  refine pq_getN S hK (pq_P1 (pq_P2 hP)) inX1 0 rfl rfl 0 (by decide) (List.mem_of_getElem? (i := 3) rfl) rfl (v := .ref (a 2)) rfl dX6_imbalanceOf_10 ?_
  refine lv_aload_n hx hb dX6_imbalanceOf_13 rfl (lv_at hl 1 rfl) ?_
  refine pq_get S hK hP inX6 0 rfl rfl 0 (by decide) fl_X6_12 rfl (v := .ref (a 1)) rfl dX6_imbalanceOf_14 ?_
  refine pq_getN S hK (pq_P1 (pq_P2 hP)) inX1 0 rfl rfl 0 (by decide) (List.mem_of_getElem? (i := 3) rfl) rfl (v := .ref (a 2)) rfl dX6_imbalanceOf_17 ?_
  refine lv_iload_n hx hb dX6_imbalanceOf_20 rfl (lv_at hl 0 rfl) ?_
  obtain ⟨q5, e4, hf⟩ := pq_bind hf
  refine pq_cV S (c_X4_leftIn l g (pq_sh (pq_sh a 1) 1) T3.1.1 q1 q5 e4) vv_X6_152 hK (pq_P1 (pq_P2 (pq_P1 (pq_P2 hP)))) rfl rfl rfl rfl rfl hl.1 (Nat.le_of_ble_eq_true rfl) dX6_imbalanceOf_21 (by decide) (by decide) ⟨by decide, by decide⟩ ?_
  obtain ⟨q7, e6, hf⟩ := pq_bind hf
  refine pq_cV S (c_X4_countIn l g (pq_sh (pq_sh a 1) 1) T3.1.1 q5 q7 e6) vv_X6_164 hK (pq_P1 (pq_P2 (pq_P1 (pq_P2 hP)))) rfl rfl rfl rfl rfl hl.1 (Nat.le_of_ble_eq_true rfl) dX6_imbalanceOf_24 (by decide) (by decide) ⟨by decide, by decide⟩ ?_
  refine lv_aload_n hx hb dX6_imbalanceOf_27 rfl (lv_at hl 1 rfl) ?_
  refine pq_get S hK hP inX6 0 rfl rfl 0 (by decide) fl_X6_12 rfl (v := .ref (a 1)) rfl dX6_imbalanceOf_28 ?_
  refine pq_getN S hK (pq_P1 (pq_P2 hP)) inX1 0 rfl rfl 0 (by decide) (List.mem_of_getElem? (i := 3) rfl) rfl (v := .ref (a 2)) rfl dX6_imbalanceOf_31 ?_
  refine lv_aload_n hx hb dX6_imbalanceOf_34 rfl (lv_at hl 1 rfl) ?_
  refine pq_get S hK hP inX6 0 rfl rfl 0 (by decide) fl_X6_12 rfl (v := .ref (a 1)) rfl dX6_imbalanceOf_35 ?_
  refine pq_getN S hK (pq_P1 (pq_P2 hP)) inX1 0 rfl rfl 0 (by decide) (List.mem_of_getElem? (i := 3) rfl) rfl (v := .ref (a 2)) rfl dX6_imbalanceOf_38 ?_
  refine lv_iload_n hx hb dX6_imbalanceOf_41 rfl (lv_at hl 0 rfl) ?_
  obtain ⟨q9, e8, hf⟩ := pq_bind hf
  refine pq_cV S (c_X4_rightIn l g (pq_sh (pq_sh a 1) 1) T3.1.1 q1 q9 e8) vv_X6_155 hK (pq_P1 (pq_P2 (pq_P1 (pq_P2 hP)))) rfl rfl rfl rfl rfl hl.1 (Nat.le_of_ble_eq_true rfl) dX6_imbalanceOf_42 (by decide) (by decide) ⟨by decide, by decide⟩ ?_
  obtain ⟨q11, e10, hf⟩ := pq_bind hf
  refine pq_cV S (c_X4_countIn l g (pq_sh (pq_sh a 1) 1) T3.1.1 q9 q11 e10) vv_X6_164 hK (pq_P1 (pq_P2 (pq_P1 (pq_P2 hP)))) rfl rfl rfl rfl rfl hl.1 (Nat.le_of_ble_eq_true rfl) dX6_imbalanceOf_45 (by decide) (by decide) ⟨by decide, by decide⟩ ?_
  refine lv_isub hx hb dX6_imbalanceOf_48 ?_
  obtain ⟨h8, h9⟩ := pq_pair hf
  exact hend 49 ls _ _ _ _ _ _ (Or.inl ⟨_, .int, rfl, rfl, dX6_imbalanceOf_49, rfl, rfl⟩) (by subst h8; rfl) (by subst h9; exact hP) hS (by decide) (by decide)
def f_X6_height (T : MainS) : Option (Int32) :=
    (f_X4_greatestDepth T.1.1).bind fun q2 =>
    some q2
set_option maxHeartbeats 4000000 in
set_option maxRecDepth 100000 in
theorem c_X6_height (l : Launch) (g : pq_g) (a : Nat → Nat) (T : MainS) (r : Int32) (hf : f_X6_height T = some r) : pq_R l yX6_height cX6_height 1 .int 4 g (mainW g a T) [.ref (a 0)] r := by
  rw [f_X6_height] at hf
  refine pq_R.of (own := RX6) (by decide) rfl (Nat.le_of_ble_eq_true rfl) rfl ?_
  intro p e s m below meth c ls Q S hP hK hl hend
  obtain ⟨hx, hb, hml, hown, hts⟩ := id S
  refine lv_aload_n hx hb dX6_height_0 rfl (lv_at hl 0 rfl) ?_
  refine pq_get S hK hP inX6 0 rfl rfl 0 (by decide) fl_X6_12 rfl (v := .ref (a 1)) rfl dX6_height_1 ?_
  refine pq_getN S hK (pq_P1 (pq_P2 hP)) inX1 0 rfl rfl 0 (by decide) (List.mem_of_getElem? (i := 3) rfl) rfl (v := .ref (a 2)) rfl dX6_height_4 ?_
  obtain ⟨q2, e1, hf⟩ := pq_bind hf
  refine pq_cV S (c_X4_greatestDepth l g (pq_sh (pq_sh a 1) 1) T.1.1 q2 e1) vv_X6_167 hK (pq_P1 (pq_P2 (pq_P1 (pq_P2 hP)))) rfl rfl rfl rfl rfl hl.1 (Nat.le_of_ble_eq_true rfl) dX6_height_7 (by decide) (by decide) ⟨Nat.le_refl _, Nat.le_refl _⟩ ?_
  exact hend _ _ _ dX6_height_10 rfl hf
def f_X6_leafCount (T : MainS) : Option (Int32) :=
    (f_X4_countLeaves T.1.1).bind fun q2 =>
    some q2
set_option maxHeartbeats 4000000 in
set_option maxRecDepth 100000 in
theorem c_X6_leafCount (l : Launch) (g : pq_g) (a : Nat → Nat) (T : MainS) (r : Int32) (hf : f_X6_leafCount T = some r) : pq_R l yX6_leafCount cX6_leafCount 1 .int 3 g (mainW g a T) [.ref (a 0)] r := by
  rw [f_X6_leafCount] at hf
  refine pq_R.of (own := RX6) (by decide) rfl (Nat.le_of_ble_eq_true rfl) rfl ?_
  intro p e s m below meth c ls Q S hP hK hl hend
  obtain ⟨hx, hb, hml, hown, hts⟩ := id S
  refine lv_aload_n hx hb dX6_leafCount_0 rfl (lv_at hl 0 rfl) ?_
  refine pq_get S hK hP inX6 0 rfl rfl 0 (by decide) fl_X6_12 rfl (v := .ref (a 1)) rfl dX6_leafCount_1 ?_
  refine pq_getN S hK (pq_P1 (pq_P2 hP)) inX1 0 rfl rfl 0 (by decide) (List.mem_of_getElem? (i := 3) rfl) rfl (v := .ref (a 2)) rfl dX6_leafCount_4 ?_
  obtain ⟨q2, e1, hf⟩ := pq_bind hf
  refine pq_cV S (c_X4_countLeaves l g (pq_sh (pq_sh a 1) 1) T.1.1 q2 e1) vv_X6_170 hK (pq_P1 (pq_P2 (pq_P1 (pq_P2 hP)))) rfl rfl rfl rfl rfl hl.1 (Nat.le_of_ble_eq_true rfl) dX6_leafCount_7 (by decide) (by decide) ⟨Nat.le_refl _, Nat.le_refl _⟩ ?_
  exact hend _ _ _ dX6_leafCount_10 rfl hf
def f_X6_commonAncestor (T : MainS) (p1 : Int32) (p2 : Int32) : Option ((String ⊕ Int32) × MainS) :=
    pq_tr (f_X6_requirePoint T p1) fun q1 T3 =>
    pq_tr (f_X6_requirePoint T3 p2) fun q4 T6 =>
    (f_X4_topSlot T6.1.1 (if p2 < p1 then p2 else p1) (if p1 < p2 then p2 else p1)).bind fun q8 =>
    (f_X4_keyIn T6.1.1 q8).bind fun q10 =>
    some (.inr q10, T6)
set_option maxHeartbeats 4000000 in
set_option maxRecDepth 100000 in
theorem c_X6_commonAncestor (l : Launch) (g : pq_g) (a : Nat → Nat) (T : MainS) (p1 : Int32) (p2 : Int32) (hst : l.stackTraces = false) (o : String ⊕ Int32) (T1 : MainS) (hf : f_X6_commonAncestor T p1 p2 = some (o, T1)) : pq_X l yX6_commonAncestor cX6_commonAncestor 3 (some .int) 7 2 g (mainW g a T) [.ref (a 0), .int p1, .int p2] (pq_oi o) (mainW g a T1) := by
  rw [f_X6_commonAncestor] at hf
  refine pq_X.of hst (by decide) rfl (Nat.le_of_ble_eq_true rfl) rfl ?_
  intro p e s m below meth c ls Q A S hP hK hD hS hA hT hl hend hout hthr
  obtain ⟨hx, hb, hml, hown, hts⟩ := id S
  refine lv_aload_n hx hb dX6_commonAncestor_0 rfl (lv_at hl 0 rfl) ?_
  refine lv_iload_n hx hb dX6_commonAncestor_1 rfl (lv_at hl 1 rfl) ?_
  rcases pq_trE hf with ⟨E0, T3, e2, hz⟩ | ⟨q1, T3, e2, hf⟩
  · exact pq_cXV S (c_X6_requirePoint l g a T p1 hst (.inl E0) T3 e2) vv_X6_83 hK hT hP hD hS hA rfl rfl rfl rfl rfl hl.1 (Nat.le_of_ble_eq_true rfl) dX6_commonAncestor_2 (by decide) (by decide) ⟨by decide, by decide⟩ (fun E ce q9 H1 locs1 hE hk hP1 hS1 hce hcv hcl => hout _ ls _ H1 locs1 _ _ E ce q9 (by rw [(Prod.mk.inj hz).1]; exact hE) (by rw [(Prod.mk.inj hz).2]; exact hP1) hS1 hce hcv hcl (by decide) (by decide)) (fun v H1 l1 h9 => by cases h9)
  refine pq_cXV S (c_X6_requirePoint l g a T p1 hst (.inr q1) T3 e2) vv_X6_83 hK hT hP hD hS hA rfl rfl rfl rfl rfl hl.1 (Nat.le_of_ble_eq_true rfl) dX6_commonAncestor_2 (by decide) (by decide) ⟨by decide, by decide⟩ (fun E ce q9 H1 l1 h9 => by cases h9) (fun v H9 locs hv hk hP1 hS => ?_)
  obtain rfl : v = some (.int q1) := (Sum.inr.inj hv).symm
  change W _ _ _ _ _ _ _ _ _ _ _ _ _ _ _ (F0 _ _ _ [.int q1])
  replace hP := hP1
  replace hP : va_P g.1 pq_cl (mainW g a T3) H9 := hP
  replace hD : va_D A (mainW g a T3) := pq_adr hD (ad_X6 _ _)
  clear hk
  generalize H9 = H at hP hS ⊢
  refine lv_pop hx hb dX6_commonAncestor_5 rfl ?_
  refine lv_aload_n hx hb dX6_commonAncestor_6 rfl (lv_at hl 0 rfl) ?_
  refine lv_iload_n hx hb dX6_commonAncestor_7 rfl (lv_at hl 2 rfl) ?_
  rcases pq_trE hf with ⟨E0, T6, e5, hz⟩ | ⟨q4, T6, e5, hf⟩
  · exact pq_cXV S (c_X6_requirePoint l g a T3 p2 hst (.inl E0) T6 e5) vv_X6_83 hK hT hP hD hS hA rfl rfl rfl rfl rfl hl.1 (Nat.le_of_ble_eq_true rfl) dX6_commonAncestor_8 (by decide) (by decide) ⟨by decide, by decide⟩ (fun E ce q9 H1 locs1 hE hk hP1 hS1 hce hcv hcl => hout _ ls _ H1 locs1 _ _ E ce q9 (by rw [(Prod.mk.inj hz).1]; exact hE) (by rw [(Prod.mk.inj hz).2]; exact hP1) hS1 hce hcv hcl (by decide) (by decide)) (fun v H1 l1 h9 => by cases h9)
  refine pq_cXV S (c_X6_requirePoint l g a T3 p2 hst (.inr q4) T6 e5) vv_X6_83 hK hT hP hD hS hA rfl rfl rfl rfl rfl hl.1 (Nat.le_of_ble_eq_true rfl) dX6_commonAncestor_8 (by decide) (by decide) ⟨by decide, by decide⟩ (fun E ce q9 H1 l1 h9 => by cases h9) (fun v H9 locs hv hk hP1 hS => ?_)
  obtain rfl : v = some (.int q4) := (Sum.inr.inj hv).symm
  change W _ _ _ _ _ _ _ _ _ _ _ _ _ _ _ (F0 _ _ _ [.int q4])
  replace hP := hP1
  replace hP : va_P g.1 pq_cl (mainW g a T6) H9 := hP
  replace hD : va_D A (mainW g a T6) := pq_adr hD (ad_X6 _ _)
  clear hk
  generalize H9 = H at hP hS ⊢
  refine lv_pop hx hb dX6_commonAncestor_11 rfl ?_
  refine lv_aload_n hx hb dX6_commonAncestor_12 rfl (lv_at hl 0 rfl) ?_
  refine pq_get S hK hP inX6 0 rfl rfl 0 (by decide) fl_X6_12 rfl (v := .ref (a 1)) rfl dX6_commonAncestor_13 ?_
  refine pq_getN S hK (pq_P1 (pq_P2 hP)) inX1 0 rfl rfl 0 (by decide) (List.mem_of_getElem? (i := 3) rfl) rfl (v := .ref (a 2)) rfl dX6_commonAncestor_16 ?_
  refine lv_aload_n hx hb dX6_commonAncestor_19 rfl (lv_at hl 0 rfl) ?_
  refine pq_get S hK hP inX6 0 rfl rfl 0 (by decide) fl_X6_12 rfl (v := .ref (a 1)) rfl dX6_commonAncestor_20 ?_
  refine pq_getN S hK (pq_P1 (pq_P2 hP)) inX1 0 rfl rfl 0 (by decide) (List.mem_of_getElem? (i := 3) rfl) rfl (v := .ref (a 2)) rfl dX6_commonAncestor_23 ?_
  refine lv_iload_n hx hb dX6_commonAncestor_26 rfl (lv_at hl 1 rfl) ?_
  refine lv_iload_n hx hb dX6_commonAncestor_27 rfl (lv_at hl 2 rfl) ?_
  refine pq_min S vm_X6_173 hl.1 (Nat.le_of_ble_eq_true rfl) dX6_commonAncestor_28 (by decide) ⟨by decide, by decide⟩ ?_
  refine lv_iload_n hx hb dX6_commonAncestor_31 rfl (lv_at hl 1 rfl) ?_
  refine lv_iload_n hx hb dX6_commonAncestor_32 rfl (lv_at hl 2 rfl) ?_
  refine pq_max S vm_X6_178 hl.1 (Nat.le_of_ble_eq_true rfl) dX6_commonAncestor_33 (by decide) ⟨by decide, by decide⟩ ?_
  obtain ⟨q8, e7, hf⟩ := pq_bind hf
  refine pq_cV S (c_X4_topSlot l g (pq_sh (pq_sh a 1) 1) T6.1.1 (if p2 < p1 then p2 else p1) (if p1 < p2 then p2 else p1) q8 e7) vv_X6_181 hK (pq_P1 (pq_P2 (pq_P1 (pq_P2 hP)))) rfl rfl rfl rfl rfl hl.1 (Nat.le_of_ble_eq_true rfl) dX6_commonAncestor_36 (by decide) (by decide) ⟨by decide, by decide⟩ ?_
  obtain ⟨q10, e9, hf⟩ := pq_bind hf
  refine pq_cV S (c_X4_keyIn l g (pq_sh (pq_sh a 1) 1) T6.1.1 q8 q10 e9) vv_X6_140 hK (pq_P1 (pq_P2 (pq_P1 (pq_P2 hP)))) rfl rfl rfl rfl rfl hl.1 (Nat.le_of_ble_eq_true rfl) dX6_commonAncestor_39 (by decide) (by decide) ⟨by decide, by decide⟩ ?_
  obtain ⟨h8, h9⟩ := pq_pair hf
  exact hend 42 ls _ _ _ _ _ _ (Or.inl ⟨_, .int, rfl, rfl, dX6_commonAncestor_42, rfl, rfl⟩) (by subst h8; rfl) (by subst h9; exact hP) hS (by decide) (by decide)
def f_X6_distance (T : MainS) (p1 : Int32) (p2 : Int32) : Option ((String ⊕ Int32) × MainS) :=
    pq_tr (f_X6_requirePoint T p1) fun q1 T3 =>
    pq_tr (f_X6_requirePoint T3 p2) fun q4 T6 =>
    (f_X4_topSlot T6.1.1 (if p2 < p1 then p2 else p1) (if p1 < p2 then p2 else p1)).bind fun q8 =>
    (f_X4_depthIn T6.1.1 q1).bind fun q10 =>
    (f_X4_depthIn T6.1.1 q4).bind fun q12 =>
    (f_X4_depthIn T6.1.1 q8).bind fun q14 =>
    some (.inr ((q10 + q12) - (2 * q14)), T6)
set_option maxHeartbeats 4000000 in
set_option maxRecDepth 100000 in
theorem c_X6_distance (l : Launch) (g : pq_g) (a : Nat → Nat) (T : MainS) (p1 : Int32) (p2 : Int32) (hst : l.stackTraces = false) (o : String ⊕ Int32) (T1 : MainS) (hf : f_X6_distance T p1 p2 = some (o, T1)) : pq_X l yX6_distance cX6_distance 6 (some .int) 7 2 g (mainW g a T) [.ref (a 0), .int p1, .int p2] (pq_oi o) (mainW g a T1) := by
  rw [f_X6_distance] at hf
  refine pq_X.of hst (by decide) rfl (Nat.le_of_ble_eq_true rfl) rfl ?_
  intro p e s m below meth c ls Q A S hP hK hD hS hA hT hl hend hout hthr
  obtain ⟨hx, hb, hml, hown, hts⟩ := id S
  refine lv_aload_n hx hb dX6_distance_0 rfl (lv_at hl 0 rfl) ?_
  refine lv_iload_n hx hb dX6_distance_1 rfl (lv_at hl 1 rfl) ?_
  rcases pq_trE hf with ⟨E0, T3, e2, hz⟩ | ⟨q1, T3, e2, hf⟩
  · exact pq_cXV S (c_X6_requirePoint l g a T p1 hst (.inl E0) T3 e2) vv_X6_83 hK hT hP hD hS hA rfl rfl rfl rfl rfl hl.1 (Nat.le_of_ble_eq_true rfl) dX6_distance_2 (by decide) (by decide) ⟨by decide, by decide⟩ (fun E ce q9 H1 locs1 hE hk hP1 hS1 hce hcv hcl => hout _ ls _ H1 locs1 _ _ E ce q9 (by rw [(Prod.mk.inj hz).1]; exact hE) (by rw [(Prod.mk.inj hz).2]; exact hP1) hS1 hce hcv hcl (by decide) (by decide)) (fun v H1 l1 h9 => by cases h9)
  refine pq_cXV S (c_X6_requirePoint l g a T p1 hst (.inr q1) T3 e2) vv_X6_83 hK hT hP hD hS hA rfl rfl rfl rfl rfl hl.1 (Nat.le_of_ble_eq_true rfl) dX6_distance_2 (by decide) (by decide) ⟨by decide, by decide⟩ (fun E ce q9 H1 l1 h9 => by cases h9) (fun v H9 locs hv hk hP1 hS => ?_)
  obtain rfl : v = some (.int q1) := (Sum.inr.inj hv).symm
  change W _ _ _ _ _ _ _ _ _ _ _ _ _ _ _ (F0 _ _ _ [.int q1])
  replace hP := hP1
  replace hP : va_P g.1 pq_cl (mainW g a T3) H9 := hP
  replace hD : va_D A (mainW g a T3) := pq_adr hD (ad_X6 _ _)
  clear hk
  generalize H9 = H at hP hS ⊢
  refine lv_istore_n (lv' := [(3, .int q1), (0, .ref (a 0)), (1, .int p1), (2, .int p2)]) hx hb dX6_distance_5 rfl hl (by decide) rfl (fun ls hl => ?_)
  refine lv_aload_n hx hb dX6_distance_6 rfl (lv_at hl 1 rfl) ?_
  refine lv_iload_n hx hb dX6_distance_7 rfl (lv_at hl 3 rfl) ?_
  rcases pq_trE hf with ⟨E0, T6, e5, hz⟩ | ⟨q4, T6, e5, hf⟩
  · exact pq_cXV S (c_X6_requirePoint l g a T3 p2 hst (.inl E0) T6 e5) vv_X6_83 hK hT hP hD hS hA rfl rfl rfl rfl rfl hl.1 (Nat.le_of_ble_eq_true rfl) dX6_distance_8 (by decide) (by decide) ⟨by decide, by decide⟩ (fun E ce q9 H1 locs1 hE hk hP1 hS1 hce hcv hcl => hout _ ls _ H1 locs1 _ _ E ce q9 (by rw [(Prod.mk.inj hz).1]; exact hE) (by rw [(Prod.mk.inj hz).2]; exact hP1) hS1 hce hcv hcl (by decide) (by decide)) (fun v H1 l1 h9 => by cases h9)
  refine pq_cXV S (c_X6_requirePoint l g a T3 p2 hst (.inr q4) T6 e5) vv_X6_83 hK hT hP hD hS hA rfl rfl rfl rfl rfl hl.1 (Nat.le_of_ble_eq_true rfl) dX6_distance_8 (by decide) (by decide) ⟨by decide, by decide⟩ (fun E ce q9 H1 l1 h9 => by cases h9) (fun v H9 locs hv hk hP1 hS => ?_)
  obtain rfl : v = some (.int q4) := (Sum.inr.inj hv).symm
  change W _ _ _ _ _ _ _ _ _ _ _ _ _ _ _ (F0 _ _ _ [.int q4])
  replace hP := hP1
  replace hP : va_P g.1 pq_cl (mainW g a T6) H9 := hP
  replace hD : va_D A (mainW g a T6) := pq_adr hD (ad_X6 _ _)
  clear hk
  generalize H9 = H at hP hS ⊢
  refine lv_istore (lv' := [(4, .int q4), (3, .int q1), (0, .ref (a 0)), (1, .int p1), (2, .int p2)]) hx hb dX6_distance_11 hl (by decide) rfl (fun ls hl => ?_)
  refine lv_aload_n hx hb dX6_distance_13 rfl (lv_at hl 2 rfl) ?_
  refine pq_get S hK hP inX6 0 rfl rfl 0 (by decide) fl_X6_12 rfl (v := .ref (a 1)) rfl dX6_distance_14 ?_
  refine pq_getN S hK (pq_P1 (pq_P2 hP)) inX1 0 rfl rfl 0 (by decide) (List.mem_of_getElem? (i := 3) rfl) rfl (v := .ref (a 2)) rfl dX6_distance_17 ?_
  refine lv_iload_n hx hb dX6_distance_20 rfl (lv_at hl 3 rfl) ?_
  refine lv_iload_n hx hb dX6_distance_21 rfl (lv_at hl 4 rfl) ?_
  refine pq_min S vm_X6_173 hl.1 (Nat.le_of_ble_eq_true rfl) dX6_distance_22 (by decide) ⟨by decide, by decide⟩ ?_
  refine lv_iload_n hx hb dX6_distance_25 rfl (lv_at hl 3 rfl) ?_
  refine lv_iload_n hx hb dX6_distance_26 rfl (lv_at hl 4 rfl) ?_
  refine pq_max S vm_X6_178 hl.1 (Nat.le_of_ble_eq_true rfl) dX6_distance_27 (by decide) ⟨by decide, by decide⟩ ?_
  obtain ⟨q8, e7, hf⟩ := pq_bind hf
  refine pq_cV S (c_X4_topSlot l g (pq_sh (pq_sh a 1) 1) T6.1.1 (if p2 < p1 then p2 else p1) (if p1 < p2 then p2 else p1) q8 e7) vv_X6_181 hK (pq_P1 (pq_P2 (pq_P1 (pq_P2 hP)))) rfl rfl rfl rfl rfl hl.1 (Nat.le_of_ble_eq_true rfl) dX6_distance_30 (by decide) (by decide) ⟨by decide, by decide⟩ ?_
  refine lv_istore (lv' := [(5, .int q8), (4, .int q4), (3, .int q1), (0, .ref (a 0)), (1, .int p1), (2, .int p2)]) hx hb dX6_distance_33 hl (by decide) rfl (fun ls hl => ?_)
  refine lv_aload_n hx hb dX6_distance_35 rfl (lv_at hl 3 rfl) ?_
  refine pq_get S hK hP inX6 0 rfl rfl 0 (by decide) fl_X6_12 rfl (v := .ref (a 1)) rfl dX6_distance_36 ?_
  refine pq_getN S hK (pq_P1 (pq_P2 hP)) inX1 0 rfl rfl 0 (by decide) (List.mem_of_getElem? (i := 3) rfl) rfl (v := .ref (a 2)) rfl dX6_distance_39 ?_
  refine lv_iload_n hx hb dX6_distance_42 rfl (lv_at hl 2 rfl) ?_
  obtain ⟨q10, e9, hf⟩ := pq_bind hf
  refine pq_cV S (c_X4_depthIn l g (pq_sh (pq_sh a 1) 1) T6.1.1 q1 q10 e9) vv_X6_161 hK (pq_P1 (pq_P2 (pq_P1 (pq_P2 hP)))) rfl rfl rfl rfl rfl hl.1 (Nat.le_of_ble_eq_true rfl) dX6_distance_43 (by decide) (by decide) ⟨by decide, by decide⟩ ?_
  refine lv_aload_n hx hb dX6_distance_46 rfl (lv_at hl 3 rfl) ?_
  refine pq_get S hK hP inX6 0 rfl rfl 0 (by decide) fl_X6_12 rfl (v := .ref (a 1)) rfl dX6_distance_47 ?_
  refine pq_getN S hK (pq_P1 (pq_P2 hP)) inX1 0 rfl rfl 0 (by decide) (List.mem_of_getElem? (i := 3) rfl) rfl (v := .ref (a 2)) rfl dX6_distance_50 ?_
  refine lv_iload hx hb dX6_distance_53 (lv_at hl 1 rfl) ?_
  obtain ⟨q12, e11, hf⟩ := pq_bind hf
  refine pq_cV S (c_X4_depthIn l g (pq_sh (pq_sh a 1) 1) T6.1.1 q4 q12 e11) vv_X6_161 hK (pq_P1 (pq_P2 (pq_P1 (pq_P2 hP)))) rfl rfl rfl rfl rfl hl.1 (Nat.le_of_ble_eq_true rfl) dX6_distance_55 (by decide) (by decide) ⟨by decide, by decide⟩ ?_
  refine lv_iadd hx hb dX6_distance_58 ?_
  refine lv_iconst (v := 2) hx hb dX6_distance_59 (by decide) ?_
  refine lv_aload_n hx hb dX6_distance_60 rfl (lv_at hl 3 rfl) ?_
  refine pq_get S hK hP inX6 0 rfl rfl 0 (by decide) fl_X6_12 rfl (v := .ref (a 1)) rfl dX6_distance_61 ?_
  refine pq_getN S hK (pq_P1 (pq_P2 hP)) inX1 0 rfl rfl 0 (by decide) (List.mem_of_getElem? (i := 3) rfl) rfl (v := .ref (a 2)) rfl dX6_distance_64 ?_
  refine lv_iload hx hb dX6_distance_67 (lv_at hl 0 rfl) ?_
  obtain ⟨q14, e13, hf⟩ := pq_bind hf
  refine pq_cV S (c_X4_depthIn l g (pq_sh (pq_sh a 1) 1) T6.1.1 q8 q14 e13) vv_X6_161 hK (pq_P1 (pq_P2 (pq_P1 (pq_P2 hP)))) rfl rfl rfl rfl rfl hl.1 (Nat.le_of_ble_eq_true rfl) dX6_distance_69 (by decide) (by decide) ⟨by decide, by decide⟩ ?_
  refine lv_imul hx hb dX6_distance_72 ?_
  refine lv_isub hx hb dX6_distance_73 ?_
  obtain ⟨h8, h9⟩ := pq_pair hf
  exact hend 74 ls _ _ _ _ _ _ (Or.inl ⟨_, .int, rfl, rfl, dX6_distance_74, rfl, rfl⟩) (by subst h8; rfl) (by subst h9; exact hP) hS (by decide) (by decide)
def f_X6_countInRange (T : MainS) (p1 : Int32) (p2 : Int32) : Option ((String ⊕ Int32) × MainS) :=
    pq_tu T (f_X6_requireRange p1 p2) fun q1 =>
    (f_X4_countBetween T.1.1 p1 p2).bind fun q4 =>
    some (.inr q4, T)
set_option maxHeartbeats 4000000 in
set_option maxRecDepth 100000 in
theorem c_X6_countInRange (l : Launch) (g : pq_g) (a : Nat → Nat) (T : MainS) (p1 : Int32) (p2 : Int32) (hst : l.stackTraces = false) (o : String ⊕ Int32) (T1 : MainS) (hf : f_X6_countInRange T p1 p2 = some (o, T1)) : pq_X l yX6_countInRange cX6_countInRange 3 (some .int) 7 1 g (mainW g a T) [.ref (a 0), .int p1, .int p2] (pq_oi o) (mainW g a T1) := by
  rw [f_X6_countInRange] at hf
  refine pq_X.of hst (by decide) rfl (Nat.le_of_ble_eq_true rfl) rfl ?_
  intro p e s m below meth c ls Q A S hP hK hD hS hA hT hl hend hout hthr
  obtain ⟨hx, hb, hml, hown, hts⟩ := id S
  refine lv_iload_n hx hb dX6_countInRange_0 rfl (lv_at hl 1 rfl) ?_
  refine lv_iload_n hx hb dX6_countInRange_1 rfl (lv_at hl 2 rfl) ?_
  rcases pq_tuE hf with ⟨E0, u0, e2, hz⟩ | ⟨q1, u0, e2, hf⟩
  · exact pq_cXS S (c_X6_requireRange l g p1 p2 hst (.inl E0) u0 e2) vs_X6_115 hK hT pq_P0 pq_D0 hS hA rfl rfl hl.1 (Nat.le_of_ble_eq_true rfl) dX6_countInRange_2 (by decide) (by decide) ⟨by decide, by decide⟩ (fun E ce q9 H1 locs1 hE hk hP1 hS1 hce hcv hcl => hout _ ls _ H1 locs1 _ _ E ce q9 (by rw [(Prod.mk.inj hz).1]; exact hE) (by rw [(Prod.mk.inj hz).2]; exact (pq_kp0 hP hk)) hS1 hce hcv hcl (by decide) (by decide)) (fun v H1 l1 h9 => by cases h9)
  refine pq_cXS S (c_X6_requireRange l g p1 p2 hst (.inr q1) u0 e2) vs_X6_115 hK hT pq_P0 pq_D0 hS hA rfl rfl hl.1 (Nat.le_of_ble_eq_true rfl) dX6_countInRange_2 (by decide) (by decide) ⟨by decide, by decide⟩ (fun E ce q9 H1 l1 h9 => by cases h9) (fun v H9 locs hv hk hP1 hS => ?_)
  obtain rfl : v = none := (Sum.inr.inj hv).symm
  change W _ _ _ _ _ _ _ _ _ _ _ _ _ _ _ (F0 _ _ _ [])
  replace hP := (pq_kp0 hP hk)
  replace hP : va_P g.1 pq_cl (mainW g a T) H9 := hP
  replace hD : va_D A (mainW g a T) := pq_adr hD (ad_X6 _ _)
  clear hk
  generalize H9 = H at hP hS ⊢
  refine lv_aload_n hx hb dX6_countInRange_5 rfl (lv_at hl 0 rfl) ?_
  refine pq_get S hK hP inX6 0 rfl rfl 0 (by decide) fl_X6_12 rfl (v := .ref (a 1)) rfl dX6_countInRange_6 ?_
  refine pq_getN S hK (pq_P1 (pq_P2 hP)) inX1 0 rfl rfl 0 (by decide) (List.mem_of_getElem? (i := 3) rfl) rfl (v := .ref (a 2)) rfl dX6_countInRange_9 ?_
  refine lv_iload_n hx hb dX6_countInRange_12 rfl (lv_at hl 1 rfl) ?_
  refine lv_iload_n hx hb dX6_countInRange_13 rfl (lv_at hl 2 rfl) ?_
  obtain ⟨q4, e3, hf⟩ := pq_bind hf
  refine pq_cV S (c_X4_countBetween l g (pq_sh (pq_sh a 1) 1) T.1.1 p1 p2 q4 e3) vv_X6_184 hK (pq_P1 (pq_P2 (pq_P1 (pq_P2 hP)))) rfl rfl rfl rfl rfl hl.1 (Nat.le_of_ble_eq_true rfl) dX6_countInRange_14 (by decide) (by decide) ⟨by decide, by decide⟩ ?_
  obtain ⟨h8, h9⟩ := pq_pair hf
  exact hend 17 ls _ _ _ _ _ _ (Or.inl ⟨_, .int, rfl, rfl, dX6_countInRange_17, rfl, rfl⟩) (by subst h8; rfl) (by subst h9; exact hP) hS (by decide) (by decide)
def f_X6_countInRangeByScan (T : MainS) (p1 : Int32) (p2 : Int32) : Option ((String ⊕ Int32) × MainS) :=
    pq_tu T (f_X6_requireRange p1 p2) fun q1 =>
    (f_X4_scanAbove T.1.1 p1 p2 0).bind fun q4 =>
    some (.inr q4, T)
set_option maxHeartbeats 4000000 in
set_option maxRecDepth 100000 in
theorem c_X6_countInRangeByScan (l : Launch) (g : pq_g) (a : Nat → Nat) (T : MainS) (p1 : Int32) (p2 : Int32) (hst : l.stackTraces = false) (o : String ⊕ Int32) (T1 : MainS) (hf : f_X6_countInRangeByScan T p1 p2 = some (o, T1)) : pq_X l yX6_countInRangeByScan cX6_countInRangeByScan 3 (some .int) 7 1 g (mainW g a T) [.ref (a 0), .int p1, .int p2] (pq_oi o) (mainW g a T1) := by
  rw [f_X6_countInRangeByScan] at hf
  refine pq_X.of hst (by decide) rfl (Nat.le_of_ble_eq_true rfl) rfl ?_
  intro p e s m below meth c ls Q A S hP hK hD hS hA hT hl hend hout hthr
  obtain ⟨hx, hb, hml, hown, hts⟩ := id S
  refine lv_iload_n hx hb dX6_countInRangeByScan_0 rfl (lv_at hl 1 rfl) ?_
  refine lv_iload_n hx hb dX6_countInRangeByScan_1 rfl (lv_at hl 2 rfl) ?_
  rcases pq_tuE hf with ⟨E0, u0, e2, hz⟩ | ⟨q1, u0, e2, hf⟩
  · exact pq_cXS S (c_X6_requireRange l g p1 p2 hst (.inl E0) u0 e2) vs_X6_115 hK hT pq_P0 pq_D0 hS hA rfl rfl hl.1 (Nat.le_of_ble_eq_true rfl) dX6_countInRangeByScan_2 (by decide) (by decide) ⟨by decide, by decide⟩ (fun E ce q9 H1 locs1 hE hk hP1 hS1 hce hcv hcl => hout _ ls _ H1 locs1 _ _ E ce q9 (by rw [(Prod.mk.inj hz).1]; exact hE) (by rw [(Prod.mk.inj hz).2]; exact (pq_kp0 hP hk)) hS1 hce hcv hcl (by decide) (by decide)) (fun v H1 l1 h9 => by cases h9)
  refine pq_cXS S (c_X6_requireRange l g p1 p2 hst (.inr q1) u0 e2) vs_X6_115 hK hT pq_P0 pq_D0 hS hA rfl rfl hl.1 (Nat.le_of_ble_eq_true rfl) dX6_countInRangeByScan_2 (by decide) (by decide) ⟨by decide, by decide⟩ (fun E ce q9 H1 l1 h9 => by cases h9) (fun v H9 locs hv hk hP1 hS => ?_)
  obtain rfl : v = none := (Sum.inr.inj hv).symm
  change W _ _ _ _ _ _ _ _ _ _ _ _ _ _ _ (F0 _ _ _ [])
  replace hP := (pq_kp0 hP hk)
  replace hP : va_P g.1 pq_cl (mainW g a T) H9 := hP
  replace hD : va_D A (mainW g a T) := pq_adr hD (ad_X6 _ _)
  clear hk
  generalize H9 = H at hP hS ⊢
  refine lv_aload_n hx hb dX6_countInRangeByScan_5 rfl (lv_at hl 0 rfl) ?_
  refine pq_get S hK hP inX6 0 rfl rfl 0 (by decide) fl_X6_12 rfl (v := .ref (a 1)) rfl dX6_countInRangeByScan_6 ?_
  refine pq_getN S hK (pq_P1 (pq_P2 hP)) inX1 0 rfl rfl 0 (by decide) (List.mem_of_getElem? (i := 3) rfl) rfl (v := .ref (a 2)) rfl dX6_countInRangeByScan_9 ?_
  refine lv_iload_n hx hb dX6_countInRangeByScan_12 rfl (lv_at hl 1 rfl) ?_
  refine lv_iload_n hx hb dX6_countInRangeByScan_13 rfl (lv_at hl 2 rfl) ?_
  refine lv_iconst (v := 0) hx hb dX6_countInRangeByScan_14 (by decide) ?_
  obtain ⟨q4, e3, hf⟩ := pq_bind hf
  refine pq_cV S (c_X4_scanAbove l g (pq_sh (pq_sh a 1) 1) T.1.1 p1 p2 0 q4 e3) vv_X6_187 hK (pq_P1 (pq_P2 (pq_P1 (pq_P2 hP)))) rfl rfl rfl rfl rfl hl.1 (Nat.le_of_ble_eq_true rfl) dX6_countInRangeByScan_15 (by decide) (by decide) ⟨by decide, by decide⟩ ?_
  obtain ⟨h8, h9⟩ := pq_pair hf
  exact hend 18 ls _ _ _ _ _ _ (Or.inl ⟨_, .int, rfl, rfl, dX6_countInRangeByScan_18, rfl, rfl⟩) (by subst h8; rfl) (by subst h9; exact hP) hS (by decide) (by decide)
def f_X6_topInRange (T : MainS) (p1 : Int32) (p2 : Int32) : Option ((String ⊕ Int32) × MainS) :=
    pq_tu T (f_X6_requireRange p1 p2) fun q1 =>
    (f_X4_topSlot T.1.1 p1 p2).bind fun q4 =>
    pq_tr (f_X6_keyInFound T q4) fun q5 T7 =>
    some (.inr q5, T7)
set_option maxHeartbeats 4000000 in
set_option maxRecDepth 100000 in
theorem c_X6_topInRange (l : Launch) (g : pq_g) (a : Nat → Nat) (T : MainS) (p1 : Int32) (p2 : Int32) (hst : l.stackTraces = false) (o : String ⊕ Int32) (T1 : MainS) (hf : f_X6_topInRange T p1 p2 = some (o, T1)) : pq_X l yX6_topInRange cX6_topInRange 3 (some .int) 7 2 g (mainW g a T) [.ref (a 0), .int p1, .int p2] (pq_oi o) (mainW g a T1) := by
  rw [f_X6_topInRange] at hf
  refine pq_X.of hst (by decide) rfl (Nat.le_of_ble_eq_true rfl) rfl ?_
  intro p e s m below meth c ls Q A S hP hK hD hS hA hT hl hend hout hthr
  obtain ⟨hx, hb, hml, hown, hts⟩ := id S
  refine lv_iload_n hx hb dX6_topInRange_0 rfl (lv_at hl 1 rfl) ?_
  refine lv_iload_n hx hb dX6_topInRange_1 rfl (lv_at hl 2 rfl) ?_
  rcases pq_tuE hf with ⟨E0, u0, e2, hz⟩ | ⟨q1, u0, e2, hf⟩
  · exact pq_cXS S (c_X6_requireRange l g p1 p2 hst (.inl E0) u0 e2) vs_X6_115 hK hT pq_P0 pq_D0 hS hA rfl rfl hl.1 (Nat.le_of_ble_eq_true rfl) dX6_topInRange_2 (by decide) (by decide) ⟨by decide, by decide⟩ (fun E ce q9 H1 locs1 hE hk hP1 hS1 hce hcv hcl => hout _ ls _ H1 locs1 _ _ E ce q9 (by rw [(Prod.mk.inj hz).1]; exact hE) (by rw [(Prod.mk.inj hz).2]; exact (pq_kp0 hP hk)) hS1 hce hcv hcl (by decide) (by decide)) (fun v H1 l1 h9 => by cases h9)
  refine pq_cXS S (c_X6_requireRange l g p1 p2 hst (.inr q1) u0 e2) vs_X6_115 hK hT pq_P0 pq_D0 hS hA rfl rfl hl.1 (Nat.le_of_ble_eq_true rfl) dX6_topInRange_2 (by decide) (by decide) ⟨by decide, by decide⟩ (fun E ce q9 H1 l1 h9 => by cases h9) (fun v H9 locs hv hk hP1 hS => ?_)
  obtain rfl : v = none := (Sum.inr.inj hv).symm
  change W _ _ _ _ _ _ _ _ _ _ _ _ _ _ _ (F0 _ _ _ [])
  replace hP := (pq_kp0 hP hk)
  replace hP : va_P g.1 pq_cl (mainW g a T) H9 := hP
  replace hD : va_D A (mainW g a T) := pq_adr hD (ad_X6 _ _)
  clear hk
  generalize H9 = H at hP hS ⊢
  refine lv_aload_n hx hb dX6_topInRange_5 rfl (lv_at hl 0 rfl) ?_
  refine lv_aload_n hx hb dX6_topInRange_6 rfl (lv_at hl 0 rfl) ?_
  refine pq_get S hK hP inX6 0 rfl rfl 0 (by decide) fl_X6_12 rfl (v := .ref (a 1)) rfl dX6_topInRange_7 ?_
  refine pq_getN S hK (pq_P1 (pq_P2 hP)) inX1 0 rfl rfl 0 (by decide) (List.mem_of_getElem? (i := 3) rfl) rfl (v := .ref (a 2)) rfl dX6_topInRange_10 ?_
  refine lv_iload_n hx hb dX6_topInRange_13 rfl (lv_at hl 1 rfl) ?_
  refine lv_iload_n hx hb dX6_topInRange_14 rfl (lv_at hl 2 rfl) ?_
  obtain ⟨q4, e3, hf⟩ := pq_bind hf
  refine pq_cV S (c_X4_topSlot l g (pq_sh (pq_sh a 1) 1) T.1.1 p1 p2 q4 e3) vv_X6_181 hK (pq_P1 (pq_P2 (pq_P1 (pq_P2 hP)))) rfl rfl rfl rfl rfl hl.1 (Nat.le_of_ble_eq_true rfl) dX6_topInRange_15 (by decide) (by decide) ⟨by decide, by decide⟩ ?_
  rcases pq_trE hf with ⟨E0, T7, e6, hz⟩ | ⟨q5, T7, e6, hf⟩
  · exact pq_cXV S (c_X6_keyInFound l g a T q4 hst (.inl E0) T7 e6) vv_X6_131 hK hT hP hD hS hA rfl rfl rfl rfl rfl hl.1 (Nat.le_of_ble_eq_true rfl) dX6_topInRange_18 (by decide) (by decide) ⟨by decide, by decide⟩ (fun E ce q9 H1 locs1 hE hk hP1 hS1 hce hcv hcl => hout _ ls _ H1 locs1 _ _ E ce q9 (by rw [(Prod.mk.inj hz).1]; exact hE) (by rw [(Prod.mk.inj hz).2]; exact hP1) hS1 hce hcv hcl (by decide) (by decide)) (fun v H1 l1 h9 => by cases h9)
  refine pq_cXV S (c_X6_keyInFound l g a T q4 hst (.inr q5) T7 e6) vv_X6_131 hK hT hP hD hS hA rfl rfl rfl rfl rfl hl.1 (Nat.le_of_ble_eq_true rfl) dX6_topInRange_18 (by decide) (by decide) ⟨by decide, by decide⟩ (fun E ce q9 H1 l1 h9 => by cases h9) (fun v H9 locs hv hk hP1 hS => ?_)
  obtain rfl : v = some (.int q5) := (Sum.inr.inj hv).symm
  change W _ _ _ _ _ _ _ _ _ _ _ _ _ _ _ (F0 _ _ _ [.int q5])
  replace hP := hP1
  replace hP : va_P g.1 pq_cl (mainW g a T7) H9 := hP
  replace hD : va_D A (mainW g a T7) := pq_adr hD (ad_X6 _ _)
  clear hk
  generalize H9 = H at hP hS ⊢
  obtain ⟨h8, h9⟩ := pq_pair hf
  exact hend 21 ls _ _ _ _ _ _ (Or.inl ⟨_, .int, rfl, rfl, dX6_topInRange_21, rfl, rfl⟩) (by subst h8; rfl) (by subst h9; exact hP) hS (by decide) (by decide)
def f_X6_topInRangeByScan (T : MainS) (p1 : Int32) (p2 : Int32) : Option ((String ⊕ Int32) × MainS) :=
    pq_tu T (f_X6_requireRange p1 p2) fun q1 =>
    (f_X4_scanTop T.1.1 p1 p2).bind fun q4 =>
    pq_tr (f_X6_keyInFound T q4) fun q5 T7 =>
    some (.inr q5, T7)
set_option maxHeartbeats 4000000 in
set_option maxRecDepth 100000 in
theorem c_X6_topInRangeByScan (l : Launch) (g : pq_g) (a : Nat → Nat) (T : MainS) (p1 : Int32) (p2 : Int32) (hst : l.stackTraces = false) (o : String ⊕ Int32) (T1 : MainS) (hf : f_X6_topInRangeByScan T p1 p2 = some (o, T1)) : pq_X l yX6_topInRangeByScan cX6_topInRangeByScan 3 (some .int) 7 2 g (mainW g a T) [.ref (a 0), .int p1, .int p2] (pq_oi o) (mainW g a T1) := by
  rw [f_X6_topInRangeByScan] at hf
  refine pq_X.of hst (by decide) rfl (Nat.le_of_ble_eq_true rfl) rfl ?_
  intro p e s m below meth c ls Q A S hP hK hD hS hA hT hl hend hout hthr
  obtain ⟨hx, hb, hml, hown, hts⟩ := id S
  refine lv_iload_n hx hb dX6_topInRangeByScan_0 rfl (lv_at hl 1 rfl) ?_
  refine lv_iload_n hx hb dX6_topInRangeByScan_1 rfl (lv_at hl 2 rfl) ?_
  rcases pq_tuE hf with ⟨E0, u0, e2, hz⟩ | ⟨q1, u0, e2, hf⟩
  · exact pq_cXS S (c_X6_requireRange l g p1 p2 hst (.inl E0) u0 e2) vs_X6_115 hK hT pq_P0 pq_D0 hS hA rfl rfl hl.1 (Nat.le_of_ble_eq_true rfl) dX6_topInRangeByScan_2 (by decide) (by decide) ⟨by decide, by decide⟩ (fun E ce q9 H1 locs1 hE hk hP1 hS1 hce hcv hcl => hout _ ls _ H1 locs1 _ _ E ce q9 (by rw [(Prod.mk.inj hz).1]; exact hE) (by rw [(Prod.mk.inj hz).2]; exact (pq_kp0 hP hk)) hS1 hce hcv hcl (by decide) (by decide)) (fun v H1 l1 h9 => by cases h9)
  refine pq_cXS S (c_X6_requireRange l g p1 p2 hst (.inr q1) u0 e2) vs_X6_115 hK hT pq_P0 pq_D0 hS hA rfl rfl hl.1 (Nat.le_of_ble_eq_true rfl) dX6_topInRangeByScan_2 (by decide) (by decide) ⟨by decide, by decide⟩ (fun E ce q9 H1 l1 h9 => by cases h9) (fun v H9 locs hv hk hP1 hS => ?_)
  obtain rfl : v = none := (Sum.inr.inj hv).symm
  change W _ _ _ _ _ _ _ _ _ _ _ _ _ _ _ (F0 _ _ _ [])
  replace hP := (pq_kp0 hP hk)
  replace hP : va_P g.1 pq_cl (mainW g a T) H9 := hP
  replace hD : va_D A (mainW g a T) := pq_adr hD (ad_X6 _ _)
  clear hk
  generalize H9 = H at hP hS ⊢
  refine lv_aload_n hx hb dX6_topInRangeByScan_5 rfl (lv_at hl 0 rfl) ?_
  refine lv_aload_n hx hb dX6_topInRangeByScan_6 rfl (lv_at hl 0 rfl) ?_
  refine pq_get S hK hP inX6 0 rfl rfl 0 (by decide) fl_X6_12 rfl (v := .ref (a 1)) rfl dX6_topInRangeByScan_7 ?_
  refine pq_getN S hK (pq_P1 (pq_P2 hP)) inX1 0 rfl rfl 0 (by decide) (List.mem_of_getElem? (i := 3) rfl) rfl (v := .ref (a 2)) rfl dX6_topInRangeByScan_10 ?_
  refine lv_iload_n hx hb dX6_topInRangeByScan_13 rfl (lv_at hl 1 rfl) ?_
  refine lv_iload_n hx hb dX6_topInRangeByScan_14 rfl (lv_at hl 2 rfl) ?_
  obtain ⟨q4, e3, hf⟩ := pq_bind hf
  refine pq_cV S (c_X4_scanTop l g (pq_sh (pq_sh a 1) 1) T.1.1 p1 p2 q4 e3) vv_X6_191 hK (pq_P1 (pq_P2 (pq_P1 (pq_P2 hP)))) rfl rfl rfl rfl rfl hl.1 (Nat.le_of_ble_eq_true rfl) dX6_topInRangeByScan_15 (by decide) (by decide) ⟨by decide, by decide⟩ ?_
  rcases pq_trE hf with ⟨E0, T7, e6, hz⟩ | ⟨q5, T7, e6, hf⟩
  · exact pq_cXV S (c_X6_keyInFound l g a T q4 hst (.inl E0) T7 e6) vv_X6_131 hK hT hP hD hS hA rfl rfl rfl rfl rfl hl.1 (Nat.le_of_ble_eq_true rfl) dX6_topInRangeByScan_18 (by decide) (by decide) ⟨by decide, by decide⟩ (fun E ce q9 H1 locs1 hE hk hP1 hS1 hce hcv hcl => hout _ ls _ H1 locs1 _ _ E ce q9 (by rw [(Prod.mk.inj hz).1]; exact hE) (by rw [(Prod.mk.inj hz).2]; exact hP1) hS1 hce hcv hcl (by decide) (by decide)) (fun v H1 l1 h9 => by cases h9)
  refine pq_cXV S (c_X6_keyInFound l g a T q4 hst (.inr q5) T7 e6) vv_X6_131 hK hT hP hD hS hA rfl rfl rfl rfl rfl hl.1 (Nat.le_of_ble_eq_true rfl) dX6_topInRangeByScan_18 (by decide) (by decide) ⟨by decide, by decide⟩ (fun E ce q9 H1 l1 h9 => by cases h9) (fun v H9 locs hv hk hP1 hS => ?_)
  obtain rfl : v = some (.int q5) := (Sum.inr.inj hv).symm
  change W _ _ _ _ _ _ _ _ _ _ _ _ _ _ _ (F0 _ _ _ [.int q5])
  replace hP := hP1
  replace hP : va_P g.1 pq_cl (mainW g a T7) H9 := hP
  replace hD : va_D A (mainW g a T7) := pq_adr hD (ad_X6 _ _)
  clear hk
  generalize H9 = H at hP hS ⊢
  obtain ⟨h8, h9⟩ := pq_pair hf
  exact hend 21 ls _ _ _ _ _ _ (Or.inl ⟨_, .int, rfl, rfl, dX6_topInRangeByScan_21, rfl, rfl⟩) (by subst h8; rfl) (by subst h9; exact hP) hS (by decide) (by decide)
def f_X6_countAbove (T : MainS) (p1 : Int32) (p2 : Int32) (p3 : Int32) : Option ((String ⊕ Int32) × MainS) :=
    pq_tu T (f_X6_requireRange p1 p2) fun q1 =>
    pq_tu T (f_X6_requireNumber p3) fun q3 =>
    (f_X4_searchAbove T.1.1 p1 p2 p3).bind fun q6 =>
    some (.inr q6, T)
set_option maxHeartbeats 4000000 in
set_option maxRecDepth 100000 in
theorem c_X6_countAbove (l : Launch) (g : pq_g) (a : Nat → Nat) (T : MainS) (p1 : Int32) (p2 : Int32) (p3 : Int32) (hst : l.stackTraces = false) (o : String ⊕ Int32) (T1 : MainS) (hf : f_X6_countAbove T p1 p2 p3 = some (o, T1)) : pq_X l yX6_countAbove cX6_countAbove 4 (some .int) 45 2 g (mainW g a T) [.ref (a 0), .int p1, .int p2, .int p3] (pq_oi o) (mainW g a T1) := by
  rw [f_X6_countAbove] at hf
  refine pq_X.of hst (by decide) rfl (Nat.le_of_ble_eq_true rfl) rfl ?_
  intro p e s m below meth c ls Q A S hP hK hD hS hA hT hl hend hout hthr
  obtain ⟨hx, hb, hml, hown, hts⟩ := id S
  refine lv_iload_n hx hb dX6_countAbove_0 rfl (lv_at hl 1 rfl) ?_
  refine lv_iload_n hx hb dX6_countAbove_1 rfl (lv_at hl 2 rfl) ?_
  rcases pq_tuE hf with ⟨E0, u0, e2, hz⟩ | ⟨q1, u0, e2, hf⟩
  · exact pq_cXS S (c_X6_requireRange l g p1 p2 hst (.inl E0) u0 e2) vs_X6_115 hK hT pq_P0 pq_D0 hS hA rfl rfl hl.1 (Nat.le_of_ble_eq_true rfl) dX6_countAbove_2 (by decide) (by decide) ⟨by decide, by decide⟩ (fun E ce q9 H1 locs1 hE hk hP1 hS1 hce hcv hcl => hout _ ls _ H1 locs1 _ _ E ce q9 (by rw [(Prod.mk.inj hz).1]; exact hE) (by rw [(Prod.mk.inj hz).2]; exact (pq_kp0 hP hk)) hS1 hce hcv hcl (by decide) (by decide)) (fun v H1 l1 h9 => by cases h9)
  refine pq_cXS S (c_X6_requireRange l g p1 p2 hst (.inr q1) u0 e2) vs_X6_115 hK hT pq_P0 pq_D0 hS hA rfl rfl hl.1 (Nat.le_of_ble_eq_true rfl) dX6_countAbove_2 (by decide) (by decide) ⟨by decide, by decide⟩ (fun E ce q9 H1 l1 h9 => by cases h9) (fun v H9 locs hv hk hP1 hS => ?_)
  obtain rfl : v = none := (Sum.inr.inj hv).symm
  change W _ _ _ _ _ _ _ _ _ _ _ _ _ _ _ (F0 _ _ _ [])
  replace hP := (pq_kp0 hP hk)
  replace hP : va_P g.1 pq_cl (mainW g a T) H9 := hP
  replace hD : va_D A (mainW g a T) := pq_adr hD (ad_X6 _ _)
  clear hk
  generalize H9 = H at hP hS ⊢
  refine lv_iload_n hx hb dX6_countAbove_5 rfl (lv_at hl 3 rfl) ?_
  rcases pq_tuE hf with ⟨E0, u0, e4, hz⟩ | ⟨q3, u0, e4, hf⟩
  · exact pq_cXS S (c_X6_requireNumber l g p3 hst (.inl E0) u0 e4) vs_X6_53 hK hT pq_P0 pq_D0 hS hA rfl rfl hl.1 (Nat.le_of_ble_eq_true rfl) dX6_countAbove_6 (by decide) (by decide) ⟨by decide, by decide⟩ (fun E ce q9 H1 locs1 hE hk hP1 hS1 hce hcv hcl => hout _ ls _ H1 locs1 _ _ E ce q9 (by rw [(Prod.mk.inj hz).1]; exact hE) (by rw [(Prod.mk.inj hz).2]; exact (pq_kp0 hP hk)) hS1 hce hcv hcl (by decide) (by decide)) (fun v H1 l1 h9 => by cases h9)
  refine pq_cXS S (c_X6_requireNumber l g p3 hst (.inr q3) u0 e4) vs_X6_53 hK hT pq_P0 pq_D0 hS hA rfl rfl hl.1 (Nat.le_of_ble_eq_true rfl) dX6_countAbove_6 (by decide) (by decide) ⟨by decide, by decide⟩ (fun E ce q9 H1 l1 h9 => by cases h9) (fun v H9 locs hv hk hP1 hS => ?_)
  obtain rfl : v = none := (Sum.inr.inj hv).symm
  change W _ _ _ _ _ _ _ _ _ _ _ _ _ _ _ (F0 _ _ _ [])
  replace hP := (pq_kp0 hP hk)
  replace hP : va_P g.1 pq_cl (mainW g a T) H9 := hP
  replace hD : va_D A (mainW g a T) := pq_adr hD (ad_X6 _ _)
  clear hk
  generalize H9 = H at hP hS ⊢
  refine lv_aload_n hx hb dX6_countAbove_9 rfl (lv_at hl 0 rfl) ?_
  refine pq_get S hK hP inX6 0 rfl rfl 0 (by decide) fl_X6_12 rfl (v := .ref (a 1)) rfl dX6_countAbove_10 ?_
  refine pq_getN S hK (pq_P1 (pq_P2 hP)) inX1 0 rfl rfl 0 (by decide) (List.mem_of_getElem? (i := 3) rfl) rfl (v := .ref (a 2)) rfl dX6_countAbove_13 ?_
  refine lv_iload_n hx hb dX6_countAbove_16 rfl (lv_at hl 1 rfl) ?_
  refine lv_iload_n hx hb dX6_countAbove_17 rfl (lv_at hl 2 rfl) ?_
  refine lv_iload_n hx hb dX6_countAbove_18 rfl (lv_at hl 3 rfl) ?_
  obtain ⟨q6, e5, hf⟩ := pq_bind hf
  refine pq_cV S (c_X4_searchAbove l g (pq_sh (pq_sh a 1) 1) T.1.1 p1 p2 p3 q6 e5) vv_X6_194 hK (pq_P1 (pq_P2 (pq_P1 (pq_P2 hP)))) rfl rfl rfl rfl rfl hl.1 (Nat.le_of_ble_eq_true rfl) dX6_countAbove_19 (by decide) (by decide) ⟨by decide, by decide⟩ ?_
  obtain ⟨h8, h9⟩ := pq_pair hf
  exact hend 22 ls _ _ _ _ _ _ (Or.inl ⟨_, .int, rfl, rfl, dX6_countAbove_22, rfl, rfl⟩) (by subst h8; rfl) (by subst h9; exact hP) hS (by decide) (by decide)
def f_X6_countAboveByScan (T : MainS) (p1 : Int32) (p2 : Int32) (p3 : Int32) : Option ((String ⊕ Int32) × MainS) :=
    pq_tu T (f_X6_requireRange p1 p2) fun q1 =>
    pq_tu T (f_X6_requireNumber p3) fun q3 =>
    (f_X4_scanAbove T.1.1 p1 p2 p3).bind fun q6 =>
    some (.inr q6, T)
set_option maxHeartbeats 4000000 in
set_option maxRecDepth 100000 in
theorem c_X6_countAboveByScan (l : Launch) (g : pq_g) (a : Nat → Nat) (T : MainS) (p1 : Int32) (p2 : Int32) (p3 : Int32) (hst : l.stackTraces = false) (o : String ⊕ Int32) (T1 : MainS) (hf : f_X6_countAboveByScan T p1 p2 p3 = some (o, T1)) : pq_X l yX6_countAboveByScan cX6_countAboveByScan 4 (some .int) 7 2 g (mainW g a T) [.ref (a 0), .int p1, .int p2, .int p3] (pq_oi o) (mainW g a T1) := by
  rw [f_X6_countAboveByScan] at hf
  refine pq_X.of hst (by decide) rfl (Nat.le_of_ble_eq_true rfl) rfl ?_
  intro p e s m below meth c ls Q A S hP hK hD hS hA hT hl hend hout hthr
  obtain ⟨hx, hb, hml, hown, hts⟩ := id S
  refine lv_iload_n hx hb dX6_countAboveByScan_0 rfl (lv_at hl 1 rfl) ?_
  refine lv_iload_n hx hb dX6_countAboveByScan_1 rfl (lv_at hl 2 rfl) ?_
  rcases pq_tuE hf with ⟨E0, u0, e2, hz⟩ | ⟨q1, u0, e2, hf⟩
  · exact pq_cXS S (c_X6_requireRange l g p1 p2 hst (.inl E0) u0 e2) vs_X6_115 hK hT pq_P0 pq_D0 hS hA rfl rfl hl.1 (Nat.le_of_ble_eq_true rfl) dX6_countAboveByScan_2 (by decide) (by decide) ⟨by decide, by decide⟩ (fun E ce q9 H1 locs1 hE hk hP1 hS1 hce hcv hcl => hout _ ls _ H1 locs1 _ _ E ce q9 (by rw [(Prod.mk.inj hz).1]; exact hE) (by rw [(Prod.mk.inj hz).2]; exact (pq_kp0 hP hk)) hS1 hce hcv hcl (by decide) (by decide)) (fun v H1 l1 h9 => by cases h9)
  refine pq_cXS S (c_X6_requireRange l g p1 p2 hst (.inr q1) u0 e2) vs_X6_115 hK hT pq_P0 pq_D0 hS hA rfl rfl hl.1 (Nat.le_of_ble_eq_true rfl) dX6_countAboveByScan_2 (by decide) (by decide) ⟨by decide, by decide⟩ (fun E ce q9 H1 l1 h9 => by cases h9) (fun v H9 locs hv hk hP1 hS => ?_)
  obtain rfl : v = none := (Sum.inr.inj hv).symm
  change W _ _ _ _ _ _ _ _ _ _ _ _ _ _ _ (F0 _ _ _ [])
  replace hP := (pq_kp0 hP hk)
  replace hP : va_P g.1 pq_cl (mainW g a T) H9 := hP
  replace hD : va_D A (mainW g a T) := pq_adr hD (ad_X6 _ _)
  clear hk
  generalize H9 = H at hP hS ⊢
  refine lv_iload_n hx hb dX6_countAboveByScan_5 rfl (lv_at hl 3 rfl) ?_
  rcases pq_tuE hf with ⟨E0, u0, e4, hz⟩ | ⟨q3, u0, e4, hf⟩
  · exact pq_cXS S (c_X6_requireNumber l g p3 hst (.inl E0) u0 e4) vs_X6_53 hK hT pq_P0 pq_D0 hS hA rfl rfl hl.1 (Nat.le_of_ble_eq_true rfl) dX6_countAboveByScan_6 (by decide) (by decide) ⟨by decide, by decide⟩ (fun E ce q9 H1 locs1 hE hk hP1 hS1 hce hcv hcl => hout _ ls _ H1 locs1 _ _ E ce q9 (by rw [(Prod.mk.inj hz).1]; exact hE) (by rw [(Prod.mk.inj hz).2]; exact (pq_kp0 hP hk)) hS1 hce hcv hcl (by decide) (by decide)) (fun v H1 l1 h9 => by cases h9)
  refine pq_cXS S (c_X6_requireNumber l g p3 hst (.inr q3) u0 e4) vs_X6_53 hK hT pq_P0 pq_D0 hS hA rfl rfl hl.1 (Nat.le_of_ble_eq_true rfl) dX6_countAboveByScan_6 (by decide) (by decide) ⟨by decide, by decide⟩ (fun E ce q9 H1 l1 h9 => by cases h9) (fun v H9 locs hv hk hP1 hS => ?_)
  obtain rfl : v = none := (Sum.inr.inj hv).symm
  change W _ _ _ _ _ _ _ _ _ _ _ _ _ _ _ (F0 _ _ _ [])
  replace hP := (pq_kp0 hP hk)
  replace hP : va_P g.1 pq_cl (mainW g a T) H9 := hP
  replace hD : va_D A (mainW g a T) := pq_adr hD (ad_X6 _ _)
  clear hk
  generalize H9 = H at hP hS ⊢
  refine lv_aload_n hx hb dX6_countAboveByScan_9 rfl (lv_at hl 0 rfl) ?_
  refine pq_get S hK hP inX6 0 rfl rfl 0 (by decide) fl_X6_12 rfl (v := .ref (a 1)) rfl dX6_countAboveByScan_10 ?_
  refine pq_getN S hK (pq_P1 (pq_P2 hP)) inX1 0 rfl rfl 0 (by decide) (List.mem_of_getElem? (i := 3) rfl) rfl (v := .ref (a 2)) rfl dX6_countAboveByScan_13 ?_
  refine lv_iload_n hx hb dX6_countAboveByScan_16 rfl (lv_at hl 1 rfl) ?_
  refine lv_iload_n hx hb dX6_countAboveByScan_17 rfl (lv_at hl 2 rfl) ?_
  refine lv_iload_n hx hb dX6_countAboveByScan_18 rfl (lv_at hl 3 rfl) ?_
  obtain ⟨q6, e5, hf⟩ := pq_bind hf
  refine pq_cV S (c_X4_scanAbove l g (pq_sh (pq_sh a 1) 1) T.1.1 p1 p2 p3 q6 e5) vv_X6_187 hK (pq_P1 (pq_P2 (pq_P1 (pq_P2 hP)))) rfl rfl rfl rfl rfl hl.1 (Nat.le_of_ble_eq_true rfl) dX6_countAboveByScan_19 (by decide) (by decide) ⟨by decide, by decide⟩ ?_
  obtain ⟨h8, h9⟩ := pq_pair hf
  exact hend 22 ls _ _ _ _ _ _ (Or.inl ⟨_, .int, rfl, rfl, dX6_countAboveByScan_22, rfl, rfl⟩) (by subst h8; rfl) (by subst h9; exact hP) hS (by decide) (by decide)
def f_X6_sumInRange (T : MainS) (p1 : Int32) (p2 : Int32) : Option ((String ⊕ Int64) × MainS) :=
    pq_tu T (f_X6_requireRange p1 p2) fun q1 =>
    (f_X4_sumBetween T.1.1 p1 p2).bind fun q4 =>
    some (.inr q4, T)
set_option maxHeartbeats 4000000 in
set_option maxRecDepth 100000 in
theorem c_X6_sumInRange (l : Launch) (g : pq_g) (a : Nat → Nat) (T : MainS) (p1 : Int32) (p2 : Int32) (hst : l.stackTraces = false) (o : String ⊕ Int64) (T1 : MainS) (hf : f_X6_sumInRange T p1 p2 = some (o, T1)) : pq_X l yX6_sumInRange cX6_sumInRange 3 (some .long) 7 1 g (mainW g a T) [.ref (a 0), .int p1, .int p2] (pq_ol o) (mainW g a T1) := by
  rw [f_X6_sumInRange] at hf
  refine pq_X.of hst (by decide) rfl (Nat.le_of_ble_eq_true rfl) rfl ?_
  intro p e s m below meth c ls Q A S hP hK hD hS hA hT hl hend hout hthr
  obtain ⟨hx, hb, hml, hown, hts⟩ := id S
  refine lv_iload_n hx hb dX6_sumInRange_0 rfl (lv_at hl 1 rfl) ?_
  refine lv_iload_n hx hb dX6_sumInRange_1 rfl (lv_at hl 2 rfl) ?_
  rcases pq_tuE hf with ⟨E0, u0, e2, hz⟩ | ⟨q1, u0, e2, hf⟩
  · exact pq_cXS S (c_X6_requireRange l g p1 p2 hst (.inl E0) u0 e2) vs_X6_115 hK hT pq_P0 pq_D0 hS hA rfl rfl hl.1 (Nat.le_of_ble_eq_true rfl) dX6_sumInRange_2 (by decide) (by decide) ⟨by decide, by decide⟩ (fun E ce q9 H1 locs1 hE hk hP1 hS1 hce hcv hcl => hout _ ls _ H1 locs1 _ _ E ce q9 (by rw [(Prod.mk.inj hz).1]; exact hE) (by rw [(Prod.mk.inj hz).2]; exact (pq_kp0 hP hk)) hS1 hce hcv hcl (by decide) (by decide)) (fun v H1 l1 h9 => by cases h9)
  refine pq_cXS S (c_X6_requireRange l g p1 p2 hst (.inr q1) u0 e2) vs_X6_115 hK hT pq_P0 pq_D0 hS hA rfl rfl hl.1 (Nat.le_of_ble_eq_true rfl) dX6_sumInRange_2 (by decide) (by decide) ⟨by decide, by decide⟩ (fun E ce q9 H1 l1 h9 => by cases h9) (fun v H9 locs hv hk hP1 hS => ?_)
  obtain rfl : v = none := (Sum.inr.inj hv).symm
  change W _ _ _ _ _ _ _ _ _ _ _ _ _ _ _ (F0 _ _ _ [])
  replace hP := (pq_kp0 hP hk)
  replace hP : va_P g.1 pq_cl (mainW g a T) H9 := hP
  replace hD : va_D A (mainW g a T) := pq_adr hD (ad_X6 _ _)
  clear hk
  generalize H9 = H at hP hS ⊢
  refine lv_aload_n hx hb dX6_sumInRange_5 rfl (lv_at hl 0 rfl) ?_
  refine pq_get S hK hP inX6 0 rfl rfl 0 (by decide) fl_X6_12 rfl (v := .ref (a 1)) rfl dX6_sumInRange_6 ?_
  refine pq_getN S hK (pq_P1 (pq_P2 hP)) inX1 0 rfl rfl 0 (by decide) (List.mem_of_getElem? (i := 3) rfl) rfl (v := .ref (a 2)) rfl dX6_sumInRange_9 ?_
  refine lv_iload_n hx hb dX6_sumInRange_12 rfl (lv_at hl 1 rfl) ?_
  refine lv_iload_n hx hb dX6_sumInRange_13 rfl (lv_at hl 2 rfl) ?_
  obtain ⟨q4, e3, hf⟩ := pq_bind hf
  refine pq_cVl S (c_X4_sumBetween l g (pq_sh (pq_sh a 1) 1) T.1.1 p1 p2 q4 e3) vv_X6_197 hK (pq_P1 (pq_P2 (pq_P1 (pq_P2 hP)))) rfl rfl rfl rfl rfl hl.1 (Nat.le_of_ble_eq_true rfl) dX6_sumInRange_14 (by decide) (by decide) ⟨by decide, by decide⟩ ?_
  obtain ⟨h8, h9⟩ := pq_pair hf
  exact hend 17 ls _ _ _ _ _ _ (Or.inr (Or.inr (Or.inl ⟨_, rfl, dX6_sumInRange_17, rfl, rfl⟩))) (by subst h8; rfl) (by subst h9; exact hP) hS (by decide) (by decide)
def f_X6_isWindow (p1 : Int32) : Option (Int32) :=
    if p1 < 0 then
      some 0
    else
      if 4 ≤ p1 then
        some 0
      else
        some 1
set_option maxHeartbeats 4000000 in
set_option maxRecDepth 100000 in
theorem c_X6_isWindow (l : Launch) (g : pq_g) (p1 : Int32) (r : Int32) (hf : f_X6_isWindow p1 = some r) : pq_R l yX6_isWindow cX6_isWindow 1 .boolean 1 g ([]) [.int p1] r := by
  rw [f_X6_isWindow] at hf
  refine pq_R.of (own := RX6) (by decide) rfl (Nat.le_of_ble_eq_true rfl) rfl ?_
  intro p e s m below meth c ls Q S hP hK hl hend
  obtain ⟨hx, hb, hml, hown, hts⟩ := id S
  refine lv_iload_n hx hb dX6_isWindow_0 rfl (lv_at hl 0 rfl) ?_
  refine lv_if_lt (tgt := 13) hx hb dX6_isWindow_1 (by decide) (fun h1 => ?_) (fun h1 => ?_)
  · replace hf := pq_ifp h1 hf
    refine lv_iconst (v := 0) hx hb dX6_isWindow_13 (by decide) ?_
    exact hend _ _ _ dX6_isWindow_14 rfl hf
  · replace hf := pq_ifn h1 hf
    refine lv_iload_n hx hb dX6_isWindow_4 rfl (lv_at hl 0 rfl) ?_
    refine lv_iconst (v := 4) hx hb dX6_isWindow_5 (by decide) ?_
    refine lv_icmp_ge (tgt := 13) hx hb dX6_isWindow_6 (by decide) (fun h2 => ?_) (fun h2 => ?_)
    · replace hf := pq_ifp h2 hf
      refine lv_iconst (v := 0) hx hb dX6_isWindow_13 (by decide) ?_
      exact hend _ _ _ dX6_isWindow_14 rfl hf
    · replace hf := pq_ifn h2 hf
      refine lv_iconst (v := 1) hx hb dX6_isWindow_9 (by decide) ?_
      refine lv_goto (tgt := 14) hx hb dX6_isWindow_10 (by decide) ?_
      exact hend _ _ _ dX6_isWindow_14 rfl hf
def f_X6_requireWindow (p1 : Int32) : Option ((String ⊕ Unit) × Unit) :=
    (f_X6_isWindow p1).bind fun q2 =>
    if q2 = 0 then
      some (.inl "java/lang/IndexOutOfBoundsException", ())
    else
      some (.inr (), ())
set_option maxHeartbeats 4000000 in
set_option maxRecDepth 100000 in
theorem c_X6_requireWindow (l : Launch) (g : pq_g) (p1 : Int32) (hst : l.stackTraces = false) (o : String ⊕ Unit) (T1 : Unit) (hf : f_X6_requireWindow p1 = some (o, T1)) : pq_X l yX6_requireWindow cX6_requireWindow 1 none 6 1 g ([]) [.int p1] (pq_ov o) ([]) := by
  rw [f_X6_requireWindow] at hf
  refine pq_X.of hst (by decide) rfl (Nat.le_of_ble_eq_true rfl) rfl ?_
  intro p e s m below meth c ls Q A S hP hK hD hS hA hT hl hend hout hthr
  obtain ⟨hx, hb, hml, hown, hts⟩ := id S
  refine lv_iload_n hx hb dX6_requireWindow_0 rfl (lv_at hl 0 rfl) ?_
  obtain ⟨q2, e1, hf⟩ := pq_bind hf
  refine pq_cS S (c_X6_isWindow l g  p1 q2 e1) vs_X6_368 hK (hP.sub [] rfl) rfl rfl hl.1 (Nat.le_of_ble_eq_true rfl) dX6_requireWindow_1 (by decide) (by decide) ⟨by decide, by decide⟩ ?_
  refine lv_if_ne (tgt := 18) hx hb dX6_requireWindow_4 (by decide) (fun h3 => ?_) (fun h3 => ?_)
  · replace hf := pq_ifn h3 hf
    obtain ⟨h8, h9⟩ := pq_pair hf
    exact hend 18 ls _ _ _ _ _ _ (Or.inr (Or.inl ⟨rfl, dX6_requireWindow_18, rfl, rfl⟩)) (by subst h8; rfl) (by subst h9; exact hP) hS (by decide) (by decide)
  · replace hf := pq_ifp h3 hf
    obtain ⟨h8, h9⟩ := pq_pair hf
    exact hthr 7 ls _ _ _ _ "java/lang/IndexOutOfBoundsException" _ 283 371 287 vt_283_287 (List.mem_of_getElem? (i := 4) rfl) dX6_requireWindow_7 dX6_requireWindow_10 (Or.inr ⟨dX6_requireWindow_11, dX6_requireWindow_14, dX6_requireWindow_17⟩) (by subst h8; rfl) (by subst h9; exact hP) hS hl.1 (by decide) (by decide) (by decide)
def f_X6_isLimit (p1 : Int32) : Option (Int32) :=
    if p1 < 1 then
      some 0
    else
      if 24 < p1 then
        some 0
      else
        some 1
set_option maxHeartbeats 4000000 in
set_option maxRecDepth 100000 in
theorem c_X6_isLimit (l : Launch) (g : pq_g) (p1 : Int32) (r : Int32) (hf : f_X6_isLimit p1 = some r) : pq_R l yX6_isLimit cX6_isLimit 1 .boolean 1 g ([]) [.int p1] r := by
  rw [f_X6_isLimit] at hf
  refine pq_R.of (own := RX6) (by decide) rfl (Nat.le_of_ble_eq_true rfl) rfl ?_
  intro p e s m below meth c ls Q S hP hK hl hend
  obtain ⟨hx, hb, hml, hown, hts⟩ := id S
  refine lv_iload_n hx hb dX6_isLimit_0 rfl (lv_at hl 0 rfl) ?_
  refine lv_iconst (v := 1) hx hb dX6_isLimit_1 (by decide) ?_
  refine lv_icmp_lt (tgt := 15) hx hb dX6_isLimit_2 (by decide) (fun h1 => ?_) (fun h1 => ?_)
  · replace hf := pq_ifp h1 hf
    refine lv_iconst (v := 0) hx hb dX6_isLimit_15 (by decide) ?_
    exact hend _ _ _ dX6_isLimit_16 rfl hf
  · replace hf := pq_ifn h1 hf
    refine lv_iload_n hx hb dX6_isLimit_5 rfl (lv_at hl 0 rfl) ?_
    refine lv_bipush (v := 24) hx hb dX6_isLimit_6 (by decide) ?_
    refine lv_icmp_gt (tgt := 15) hx hb dX6_isLimit_8 (by decide) (fun h2 => ?_) (fun h2 => ?_)
    · replace hf := pq_ifp h2 hf
      refine lv_iconst (v := 0) hx hb dX6_isLimit_15 (by decide) ?_
      exact hend _ _ _ dX6_isLimit_16 rfl hf
    · replace hf := pq_ifn h2 hf
      refine lv_iconst (v := 1) hx hb dX6_isLimit_11 (by decide) ?_
      refine lv_goto (tgt := 16) hx hb dX6_isLimit_12 (by decide) ?_
      exact hend _ _ _ dX6_isLimit_16 rfl hf
def f_X6_setWindow (T : MainS) (p1 : Int32) (p2 : Int32) (p3 : Int32) (p4 : Int32) (p5 : Int32) : Option ((String ⊕ Int32) × MainS) :=
    pq_tu T (f_X6_requireWindow p1) fun q1 =>
    pq_tu T (f_X6_requireRange p2 p3) fun q3 =>
    pq_tu T (f_X6_requireNumber p4) fun q5 =>
    (f_X6_isLimit p5).bind fun q8 =>
    if q8 = 0 then
      some (.inl "java/lang/IllegalArgumentException", T)
    else
      (f_X1_reasonAgainstWindow T.1 p2 p3 p4 p5).bind fun q11 =>
      if q11 = 0 then
        (f_X2_push T.2.2.2.2.1 T.1).bind fun q14 =>
        (f_X5_open T.1.2.1 p1 p2 p3 p4 p5).bind fun q16 =>
        (f_X1_countInWindow (T.1.1, q16, T.1.2.2) p1).bind fun q18 =>
        some (.inr q18, ((T.1.1, q16, T.1.2.2), T.2.1, T.2.2.1, T.2.2.2.1, q14, T.2.2.2.2.2.1, T.2.2.2.2.2.2.1, T.2.2.2.2.2.2.2.1, T.2.2.2.2.2.2.2.2.1, T.2.2.2.2.2.2.2.2.2.1, T.2.2.2.2.2.2.2.2.2.2))
      else
        (f_X6_reject T q11 p1).bind fun q20 =>
        some (.inl "java/lang/UnsupportedOperationException", q20)
set_option maxHeartbeats 4000000 in
set_option maxRecDepth 100000 in
theorem c_X6_setWindow (l : Launch) (g : pq_g) (a : Nat → Nat) (T : MainS) (p1 : Int32) (p2 : Int32) (p3 : Int32) (p4 : Int32) (p5 : Int32) (hst : l.stackTraces = false) (o : String ⊕ Int32) (T1 : MainS) (hf : f_X6_setWindow T p1 p2 p3 p4 p5 = some (o, T1)) : pq_X l yX6_setWindow cX6_setWindow 7 (some .int) 7 5 g (mainW g a T) [.ref (a 0), .int p1, .int p2, .int p3, .int p4, .int p5] (pq_oi o) (mainW g a T1) := by
  rw [f_X6_setWindow] at hf
  refine pq_X.of hst (by decide) rfl (Nat.le_of_ble_eq_true rfl) rfl ?_
  intro p e s m below meth c ls Q A S hP hK hD hS hA hT hl hend hout hthr
  obtain ⟨hx, hb, hml, hown, hts⟩ := id S
  refine lv_iload_n hx hb dX6_setWindow_0 rfl (lv_at hl 1 rfl) ?_
  rcases pq_tuE hf with ⟨E0, u0, e2, hz⟩ | ⟨q1, u0, e2, hf⟩
  · exact pq_cXS S (c_X6_requireWindow l g p1 hst (.inl E0) u0 e2) vs_X6_201 hK hT pq_P0 pq_D0 hS hA rfl rfl hl.1 (Nat.le_of_ble_eq_true rfl) dX6_setWindow_1 (by decide) (by decide) ⟨by decide, by decide⟩ (fun E ce q9 H1 locs1 hE hk hP1 hS1 hce hcv hcl => hout _ ls _ H1 locs1 _ _ E ce q9 (by rw [(Prod.mk.inj hz).1]; exact hE) (by rw [(Prod.mk.inj hz).2]; exact (pq_kp0 hP hk)) hS1 hce hcv hcl (by decide) (by decide)) (fun v H1 l1 h9 => by cases h9)
  refine pq_cXS S (c_X6_requireWindow l g p1 hst (.inr q1) u0 e2) vs_X6_201 hK hT pq_P0 pq_D0 hS hA rfl rfl hl.1 (Nat.le_of_ble_eq_true rfl) dX6_setWindow_1 (by decide) (by decide) ⟨by decide, by decide⟩ (fun E ce q9 H1 l1 h9 => by cases h9) (fun v H9 locs hv hk hP1 hS => ?_)
  obtain rfl : v = none := (Sum.inr.inj hv).symm
  change W _ _ _ _ _ _ _ _ _ _ _ _ _ _ _ (F0 _ _ _ [])
  replace hP := (pq_kp0 hP hk)
  replace hP : va_P g.1 pq_cl (mainW g a T) H9 := hP
  replace hD : va_D A (mainW g a T) := pq_adr hD (ad_X6 _ _)
  clear hk
  generalize H9 = H at hP hS ⊢
  refine lv_iload_n hx hb dX6_setWindow_4 rfl (lv_at hl 2 rfl) ?_
  refine lv_iload_n hx hb dX6_setWindow_5 rfl (lv_at hl 3 rfl) ?_
  rcases pq_tuE hf with ⟨E0, u0, e4, hz⟩ | ⟨q3, u0, e4, hf⟩
  · exact pq_cXS S (c_X6_requireRange l g p2 p3 hst (.inl E0) u0 e4) vs_X6_115 hK hT pq_P0 pq_D0 hS hA rfl rfl hl.1 (Nat.le_of_ble_eq_true rfl) dX6_setWindow_6 (by decide) (by decide) ⟨by decide, by decide⟩ (fun E ce q9 H1 locs1 hE hk hP1 hS1 hce hcv hcl => hout _ ls _ H1 locs1 _ _ E ce q9 (by rw [(Prod.mk.inj hz).1]; exact hE) (by rw [(Prod.mk.inj hz).2]; exact (pq_kp0 hP hk)) hS1 hce hcv hcl (by decide) (by decide)) (fun v H1 l1 h9 => by cases h9)
  refine pq_cXS S (c_X6_requireRange l g p2 p3 hst (.inr q3) u0 e4) vs_X6_115 hK hT pq_P0 pq_D0 hS hA rfl rfl hl.1 (Nat.le_of_ble_eq_true rfl) dX6_setWindow_6 (by decide) (by decide) ⟨by decide, by decide⟩ (fun E ce q9 H1 l1 h9 => by cases h9) (fun v H9 locs hv hk hP1 hS => ?_)
  obtain rfl : v = none := (Sum.inr.inj hv).symm
  change W _ _ _ _ _ _ _ _ _ _ _ _ _ _ _ (F0 _ _ _ [])
  replace hP := (pq_kp0 hP hk)
  replace hP : va_P g.1 pq_cl (mainW g a T) H9 := hP
  replace hD : va_D A (mainW g a T) := pq_adr hD (ad_X6 _ _)
  clear hk
  generalize H9 = H at hP hS ⊢
  refine lv_iload hx hb dX6_setWindow_9 (lv_at hl 4 rfl) ?_
  rcases pq_tuE hf with ⟨E0, u0, e6, hz⟩ | ⟨q5, u0, e6, hf⟩
  · exact pq_cXS S (c_X6_requireNumber l g p4 hst (.inl E0) u0 e6) vs_X6_53 hK hT pq_P0 pq_D0 hS hA rfl rfl hl.1 (Nat.le_of_ble_eq_true rfl) dX6_setWindow_11 (by decide) (by decide) ⟨by decide, by decide⟩ (fun E ce q9 H1 locs1 hE hk hP1 hS1 hce hcv hcl => hout _ ls _ H1 locs1 _ _ E ce q9 (by rw [(Prod.mk.inj hz).1]; exact hE) (by rw [(Prod.mk.inj hz).2]; exact (pq_kp0 hP hk)) hS1 hce hcv hcl (by decide) (by decide)) (fun v H1 l1 h9 => by cases h9)
  refine pq_cXS S (c_X6_requireNumber l g p4 hst (.inr q5) u0 e6) vs_X6_53 hK hT pq_P0 pq_D0 hS hA rfl rfl hl.1 (Nat.le_of_ble_eq_true rfl) dX6_setWindow_11 (by decide) (by decide) ⟨by decide, by decide⟩ (fun E ce q9 H1 l1 h9 => by cases h9) (fun v H9 locs hv hk hP1 hS => ?_)
  obtain rfl : v = none := (Sum.inr.inj hv).symm
  change W _ _ _ _ _ _ _ _ _ _ _ _ _ _ _ (F0 _ _ _ [])
  replace hP := (pq_kp0 hP hk)
  replace hP : va_P g.1 pq_cl (mainW g a T) H9 := hP
  replace hD : va_D A (mainW g a T) := pq_adr hD (ad_X6 _ _)
  clear hk
  generalize H9 = H at hP hS ⊢
  refine lv_iload hx hb dX6_setWindow_14 (lv_at hl 5 rfl) ?_
  obtain ⟨q8, e7, hf⟩ := pq_bind hf
  refine pq_cS S (c_X6_isLimit l g  p5 q8 e7) vs_X6_204 hK (hP.sub [] rfl) rfl rfl hl.1 (Nat.le_of_ble_eq_true rfl) dX6_setWindow_16 (by decide) (by decide) ⟨by decide, by decide⟩ ?_
  refine lv_if_ne (tgt := 32) hx hb dX6_setWindow_19 (by decide) (fun h9 => ?_) (fun h9 => ?_)
  · replace hf := pq_ifn h9 hf
    refine lv_aload_n hx hb dX6_setWindow_32 rfl (lv_at hl 0 rfl) ?_
    refine pq_get S hK hP inX6 0 rfl rfl 0 (by decide) fl_X6_12 rfl (v := .ref (a 1)) rfl dX6_setWindow_33 ?_
    refine lv_iload_n hx hb dX6_setWindow_36 rfl (lv_at hl 2 rfl) ?_
    refine lv_iload_n hx hb dX6_setWindow_37 rfl (lv_at hl 3 rfl) ?_
    refine lv_iload hx hb dX6_setWindow_38 (lv_at hl 4 rfl) ?_
    refine lv_iload hx hb dX6_setWindow_40 (lv_at hl 5 rfl) ?_
    obtain ⟨q11, e10, hf⟩ := pq_bind hf
    refine pq_cV S (c_X1_reasonAgainstWindow l g (pq_sh a 1) T.1 p2 p3 p4 p5 q11 e10) vv_X6_213 hK (pq_P1 (pq_P2 hP)) rfl rfl rfl rfl rfl hl.1 (Nat.le_of_ble_eq_true rfl) dX6_setWindow_42 (by decide) (by decide) ⟨by decide, by decide⟩ ?_
    refine lv_istore (lv' := [(6, .int q11), (0, .ref (a 0)), (1, .int p1), (2, .int p2), (3, .int p3), (4, .int p4), (5, .int p5)]) hx hb dX6_setWindow_45 hl (by decide) rfl (fun ls hl => ?_)
    refine lv_iload hx hb dX6_setWindow_47 (lv_at hl 0 rfl) ?_
    refine lv_if_eq (tgt := 69) hx hb dX6_setWindow_49 (by decide) (fun h12 => ?_) (fun h12 => ?_)
    · replace hf := pq_ifp h12 hf
      refine lv_aload_n hx hb dX6_setWindow_69 rfl (lv_at hl 1 rfl) ?_
      refine pq_get S hK hP inX6 0 rfl rfl 4 (by decide) fl_X6_25 rfl (v := .ref (a 40)) rfl dX6_setWindow_70 ?_
      refine lv_aload_n hx hb dX6_setWindow_73 rfl (lv_at hl 1 rfl) ?_
      refine pq_get S hK hP inX6 0 rfl rfl 0 (by decide) fl_X6_12 rfl (v := .ref (a 1)) rfl dX6_setWindow_74 ?_
      obtain ⟨q14, e13, hf⟩ := pq_bind hf
      refine pq_cVv S (c_X2_push l g (pq_sh a 40) (pq_sh a 1) T.2.2.2.2.1 T.1 q14 e13) vv_X6_76 hK (va_P.app (pq_P1 (pq_P2 (pq_P2 (pq_P2 (pq_P2 hP))))) (pq_P1 (pq_P2 hP))) (pq_Da (pq_D1 (pq_D2 (pq_D2 (pq_D2 (pq_D2 hD))))) (pq_D1 (pq_D2 hD)) (pq_aps (pq_ap1 (pq_ap2 (pq_ap2 (pq_Dx (pq_D2 hD))))))) hS hA rfl rfl rfl rfl rfl hl.1 (Nat.le_of_ble_eq_true rfl) dX6_setWindow_77 (by decide) (by decide) ⟨by decide, by decide⟩ (fun H9 locs hk hP1 hS => ?_)
      replace hP := (va_P.app (pq_kp (pq_P1 hP) (pq_apA (pq_ap1 (pq_ap2 (pq_ap2 (pq_ap2 (pq_Dx hD))))) (pq_ap1 (pq_Dx hD))) hk) (va_P.app (pq_P2 hP1) (va_P.app (pq_kp (pq_P1 (pq_P2 (pq_P2 hP))) (pq_apA (pq_ap1 (pq_ap2 (pq_Dx (pq_D2 (pq_D2 hD))))) (pq_aps (pq_ap1 (pq_Dx (pq_D2 hD))))) hk) (va_P.app (pq_kp (pq_P1 (pq_P2 (pq_P2 (pq_P2 hP)))) (pq_apA (pq_ap1 (pq_Dx (pq_D2 (pq_D2 (pq_D2 hD))))) (pq_aps (pq_ap1 (pq_ap2 (pq_Dx (pq_D2 hD)))))) hk) (va_P.app (pq_P1 hP1) (pq_kp (pq_P2 (pq_P2 (pq_P2 (pq_P2 (pq_P2 hP))))) (pq_apA (pq_aps (pq_Dx (pq_D2 (pq_D2 (pq_D2 (pq_D2 hD)))))) (pq_aps (pq_ap2 (pq_ap2 (pq_ap2 (pq_Dx (pq_D2 hD))))))) hk))))))
      replace hP : va_P g.1 pq_cl (mainW g a (T.1, T.2.1, T.2.2.1, T.2.2.2.1, q14, T.2.2.2.2.2.1, T.2.2.2.2.2.2.1, T.2.2.2.2.2.2.2.1, T.2.2.2.2.2.2.2.2.1, T.2.2.2.2.2.2.2.2.2.1, T.2.2.2.2.2.2.2.2.2.2)) H9 := hP
      replace hD : va_D A (mainW g a (T.1, T.2.1, T.2.2.1, T.2.2.2.1, q14, T.2.2.2.2.2.1, T.2.2.2.2.2.2.1, T.2.2.2.2.2.2.2.1, T.2.2.2.2.2.2.2.2.1, T.2.2.2.2.2.2.2.2.2.1, T.2.2.2.2.2.2.2.2.2.2)) := pq_adr hD (ad_X6 _ _)
      clear hk
      generalize H9 = H at hP hS ⊢
      refine lv_aload_n hx hb dX6_setWindow_80 rfl (lv_at hl 1 rfl) ?_
      refine pq_get S hK hP inX6 0 rfl rfl 0 (by decide) fl_X6_12 rfl (v := .ref (a 1)) rfl dX6_setWindow_81 ?_
      refine pq_getN S hK (pq_P1 (pq_P2 hP)) inX1 0 rfl rfl 1 (by decide) (List.mem_of_getElem? (i := 4) rfl) rfl (v := .ref (a 9)) rfl dX6_setWindow_84 ?_
      refine lv_iload_n hx hb dX6_setWindow_87 rfl (lv_at hl 2 rfl) ?_
      refine lv_iload_n hx hb dX6_setWindow_88 rfl (lv_at hl 3 rfl) ?_
      refine lv_iload_n hx hb dX6_setWindow_89 rfl (lv_at hl 4 rfl) ?_
      refine lv_iload hx hb dX6_setWindow_90 (lv_at hl 5 rfl) ?_
      refine lv_iload hx hb dX6_setWindow_92 (lv_at hl 6 rfl) ?_
      obtain ⟨q16, e15, hf⟩ := pq_bind hf
      refine pq_cVv S (c_X5_open l g (pq_sh (pq_sh a 1) 8) T.1.2.1 p1 p2 p3 p4 p5 q16 e15) vv_X6_222 hK (pq_P2 (pq_P2 (pq_P1 (pq_P2 hP)))) (pq_D2 (pq_D2 (pq_D1 (pq_D2 hD)))) hS hA rfl rfl rfl rfl rfl hl.1 (Nat.le_of_ble_eq_true rfl) dX6_setWindow_94 (by decide) (by decide) ⟨by decide, by decide⟩ (fun H9 locs hk hP1 hS => ?_)
      replace hP := (va_P.app (pq_kp (pq_P1 hP) (pq_ap2 (pq_ap2 (pq_ap1 (pq_Dx hD)))) hk) (va_P.app (va_P.app (pq_kp (pq_P1 (pq_P1 (pq_P2 hP))) (pq_ap2 (pq_Dx (pq_D1 (pq_D2 hD)))) hk) (va_P.app (pq_kp (pq_P1 (pq_P2 (pq_P1 (pq_P2 hP)))) (pq_Dx (pq_D2 (pq_D1 (pq_D2 hD)))) hk) hP1)) (pq_kp (pq_P2 (pq_P2 hP)) (pq_aps (pq_apl2 (pq_apl2 (pq_Dx (pq_D2 hD))))) hk)))
      replace hP : va_P g.1 pq_cl (mainW g a ((T.1.1, q16, T.1.2.2), T.2.1, T.2.2.1, T.2.2.2.1, q14, T.2.2.2.2.2.1, T.2.2.2.2.2.2.1, T.2.2.2.2.2.2.2.1, T.2.2.2.2.2.2.2.2.1, T.2.2.2.2.2.2.2.2.2.1, T.2.2.2.2.2.2.2.2.2.2)) H9 := hP
      replace hD : va_D A (mainW g a ((T.1.1, q16, T.1.2.2), T.2.1, T.2.2.1, T.2.2.2.1, q14, T.2.2.2.2.2.1, T.2.2.2.2.2.2.1, T.2.2.2.2.2.2.2.1, T.2.2.2.2.2.2.2.2.1, T.2.2.2.2.2.2.2.2.2.1, T.2.2.2.2.2.2.2.2.2.2)) := pq_adr hD (ad_X6 _ _)
      clear hk
      generalize H9 = H at hP hS ⊢
      refine lv_aload_n hx hb dX6_setWindow_97 rfl (lv_at hl 1 rfl) ?_
      refine pq_get S hK hP inX6 0 rfl rfl 0 (by decide) fl_X6_12 rfl (v := .ref (a 1)) rfl dX6_setWindow_98 ?_
      refine lv_iload_n hx hb dX6_setWindow_101 rfl (lv_at hl 2 rfl) ?_
      obtain ⟨q18, e17, hf⟩ := pq_bind hf
      refine pq_cV S (c_X1_countInWindow l g (pq_sh a 1) (T.1.1, q16, T.1.2.2) p1 q18 e17) vv_X6_228 hK (pq_P1 (pq_P2 hP)) rfl rfl rfl rfl rfl hl.1 (Nat.le_of_ble_eq_true rfl) dX6_setWindow_102 (by decide) (by decide) ⟨by decide, by decide⟩ ?_
      obtain ⟨h8, h9⟩ := pq_pair hf
      exact hend 105 ls _ _ _ _ _ _ (Or.inl ⟨_, .int, rfl, rfl, dX6_setWindow_105, rfl, rfl⟩) (by subst h8; rfl) (by subst h9; exact hP) hS (by decide) (by decide)
    · replace hf := pq_ifn h12 hf
      refine lv_aload_n hx hb dX6_setWindow_52 rfl (lv_at hl 1 rfl) ?_
      refine lv_iload hx hb dX6_setWindow_53 (lv_at hl 0 rfl) ?_
      refine lv_iload_n hx hb dX6_setWindow_55 rfl (lv_at hl 2 rfl) ?_
      obtain ⟨q20, e19, hf⟩ := pq_bind hf
      refine pq_cVv S (c_X6_reject l g a T q11 p1 q20 e19) vv_X6_65 hK hP hD hS hA rfl rfl rfl rfl rfl hl.1 (Nat.le_of_ble_eq_true rfl) dX6_setWindow_56 (by decide) (by decide) ⟨by decide, by decide⟩ (fun H9 locs hk hP1 hS => ?_)
      replace hP := hP1
      replace hP : va_P g.1 pq_cl (mainW g a q20) H9 := hP
      replace hD : va_D A (mainW g a q20) := pq_adr hD (ad_X6 _ _)
      clear hk
      generalize H9 = H at hP hS ⊢
      obtain ⟨h8, h9⟩ := pq_pair hf
      exact hthr 59 ls _ _ _ _ "java/lang/UnsupportedOperationException" _ 69 216 73 vt_69_73 (List.mem_of_getElem? (i := 12) rfl) dX6_setWindow_59 dX6_setWindow_62 (Or.inl ⟨dX6_setWindow_63, dX6_setWindow_65, dX6_setWindow_68⟩) (by subst h8; rfl) (by subst h9; exact hP) hS hl.1 (by decide) (by decide) (by decide)
  · replace hf := pq_ifp h9 hf
    obtain ⟨h8, h9⟩ := pq_pair hf
    exact hthr 22 ls _ _ _ _ "java/lang/IllegalArgumentException" _ 208 210 212 vt_208_212 (List.mem_of_getElem? (i := 11) rfl) dX6_setWindow_22 dX6_setWindow_25 (Or.inl ⟨dX6_setWindow_26, dX6_setWindow_28, dX6_setWindow_31⟩) (by subst h8; rfl) (by subst h9; exact hP) hS hl.1 (by decide) (by decide) (by decide)
def f_X6_requireOpenWindow (T : MainS) (p1 : Int32) : Option ((String ⊕ Unit) × MainS) :=
    pq_tu T (f_X6_requireWindow p1) fun q1 =>
    (f_X5_isOpen T.1.2.1 p1).bind fun q4 =>
    if q4 = 0 then
      some (.inl "java/util/NoSuchElementException", T)
    else
      some (.inr (), T)
set_option maxHeartbeats 4000000 in
set_option maxRecDepth 100000 in
theorem c_X6_requireOpenWindow (l : Launch) (g : pq_g) (a : Nat → Nat) (T : MainS) (p1 : Int32) (hst : l.stackTraces = false) (o : String ⊕ Unit) (T1 : MainS) (hf : f_X6_requireOpenWindow T p1 = some (o, T1)) : pq_X l yX6_requireOpenWindow cX6_requireOpenWindow 2 none 7 2 g (mainW g a T) [.ref (a 0), .int p1] (pq_ov o) (mainW g a T1) := by
  rw [f_X6_requireOpenWindow] at hf
  refine pq_X.of hst (by decide) rfl (Nat.le_of_ble_eq_true rfl) rfl ?_
  intro p e s m below meth c ls Q A S hP hK hD hS hA hT hl hend hout hthr
  obtain ⟨hx, hb, hml, hown, hts⟩ := id S
  refine lv_iload_n hx hb dX6_requireOpenWindow_0 rfl (lv_at hl 1 rfl) ?_
  rcases pq_tuE hf with ⟨E0, u0, e2, hz⟩ | ⟨q1, u0, e2, hf⟩
  · exact pq_cXS S (c_X6_requireWindow l g p1 hst (.inl E0) u0 e2) vs_X6_201 hK hT pq_P0 pq_D0 hS hA rfl rfl hl.1 (Nat.le_of_ble_eq_true rfl) dX6_requireOpenWindow_1 (by decide) (by decide) ⟨by decide, by decide⟩ (fun E ce q9 H1 locs1 hE hk hP1 hS1 hce hcv hcl => hout _ ls _ H1 locs1 _ _ E ce q9 (by rw [(Prod.mk.inj hz).1]; exact hE) (by rw [(Prod.mk.inj hz).2]; exact (pq_kp0 hP hk)) hS1 hce hcv hcl (by decide) (by decide)) (fun v H1 l1 h9 => by cases h9)
  refine pq_cXS S (c_X6_requireWindow l g p1 hst (.inr q1) u0 e2) vs_X6_201 hK hT pq_P0 pq_D0 hS hA rfl rfl hl.1 (Nat.le_of_ble_eq_true rfl) dX6_requireOpenWindow_1 (by decide) (by decide) ⟨by decide, by decide⟩ (fun E ce q9 H1 l1 h9 => by cases h9) (fun v H9 locs hv hk hP1 hS => ?_)
  obtain rfl : v = none := (Sum.inr.inj hv).symm
  change W _ _ _ _ _ _ _ _ _ _ _ _ _ _ _ (F0 _ _ _ [])
  replace hP := (pq_kp0 hP hk)
  replace hP : va_P g.1 pq_cl (mainW g a T) H9 := hP
  replace hD : va_D A (mainW g a T) := pq_adr hD (ad_X6 _ _)
  clear hk
  generalize H9 = H at hP hS ⊢
  refine lv_aload_n hx hb dX6_requireOpenWindow_4 rfl (lv_at hl 0 rfl) ?_
  refine pq_get S hK hP inX6 0 rfl rfl 0 (by decide) fl_X6_12 rfl (v := .ref (a 1)) rfl dX6_requireOpenWindow_5 ?_
  refine pq_getN S hK (pq_P1 (pq_P2 hP)) inX1 0 rfl rfl 1 (by decide) (List.mem_of_getElem? (i := 4) rfl) rfl (v := .ref (a 9)) rfl dX6_requireOpenWindow_8 ?_
  refine lv_iload_n hx hb dX6_requireOpenWindow_11 rfl (lv_at hl 1 rfl) ?_
  obtain ⟨q4, e3, hf⟩ := pq_bind hf
  refine pq_cV S (c_X5_isOpen l g (pq_sh (pq_sh a 1) 8) T.1.2.1 p1 q4 e3) vv_X6_237 hK (pq_P2 (pq_P2 (pq_P1 (pq_P2 hP)))) rfl rfl rfl rfl rfl hl.1 (Nat.le_of_ble_eq_true rfl) dX6_requireOpenWindow_12 (by decide) (by decide) ⟨by decide, by decide⟩ ?_
  refine lv_if_ne (tgt := 29) hx hb dX6_requireOpenWindow_15 (by decide) (fun h5 => ?_) (fun h5 => ?_)
  · replace hf := pq_ifn h5 hf
    obtain ⟨h8, h9⟩ := pq_pair hf
    exact hend 29 ls _ _ _ _ _ _ (Or.inr (Or.inl ⟨rfl, dX6_requireOpenWindow_29, rfl, rfl⟩)) (by subst h8; rfl) (by subst h9; exact hP) hS (by decide) (by decide)
  · replace hf := pq_ifp h5 hf
    obtain ⟨h8, h9⟩ := pq_pair hf
    exact hthr 18 ls _ _ _ _ "java/util/NoSuchElementException" _ 335 373 339 vt_335_339 (List.mem_of_getElem? (i := 5) rfl) dX6_requireOpenWindow_18 dX6_requireOpenWindow_21 (Or.inr ⟨dX6_requireOpenWindow_22, dX6_requireOpenWindow_25, dX6_requireOpenWindow_28⟩) (by subst h8; rfl) (by subst h9; exact hP) hS hl.1 (by decide) (by decide) (by decide)
def f_X6_removeWindow (T : MainS) (p1 : Int32) : Option ((String ⊕ Int32) × MainS) :=
    pq_tr (f_X6_requireOpenWindow T p1) fun q1 T3 =>
    (f_X1_countInWindow T3.1 p1).bind fun q5 =>
    (f_X2_push T3.2.2.2.2.1 T3.1).bind fun q7 =>
    (f_X5_close T3.1.2.1 p1).bind fun q9 =>
    some (.inr q5, ((T3.1.1, q9, T3.1.2.2), T3.2.1, T3.2.2.1, T3.2.2.2.1, q7, T3.2.2.2.2.2.1, T3.2.2.2.2.2.2.1, T3.2.2.2.2.2.2.2.1, T3.2.2.2.2.2.2.2.2.1, T3.2.2.2.2.2.2.2.2.2.1, T3.2.2.2.2.2.2.2.2.2.2))
set_option maxHeartbeats 4000000 in
set_option maxRecDepth 100000 in
theorem c_X6_removeWindow (l : Launch) (g : pq_g) (a : Nat → Nat) (T : MainS) (p1 : Int32) (hst : l.stackTraces = false) (o : String ⊕ Int32) (T1 : MainS) (hf : f_X6_removeWindow T p1 = some (o, T1)) : pq_X l yX6_removeWindow cX6_removeWindow 3 (some .int) 8 2 g (mainW g a T) [.ref (a 0), .int p1] (pq_oi o) (mainW g a T1) := by
  rw [f_X6_removeWindow] at hf
  refine pq_X.of hst (by decide) rfl (Nat.le_of_ble_eq_true rfl) rfl ?_
  intro p e s m below meth c ls Q A S hP hK hD hS hA hT hl hend hout hthr
  obtain ⟨hx, hb, hml, hown, hts⟩ := id S
  refine lv_aload_n hx hb dX6_removeWindow_0 rfl (lv_at hl 0 rfl) ?_
  refine lv_iload_n hx hb dX6_removeWindow_1 rfl (lv_at hl 1 rfl) ?_
  rcases pq_trE hf with ⟨E0, T3, e2, hz⟩ | ⟨q1, T3, e2, hf⟩
  · exact pq_cXV S (c_X6_requireOpenWindow l g a T p1 hst (.inl E0) T3 e2) vv_X6_231 hK hT hP hD hS hA rfl rfl rfl rfl rfl hl.1 (Nat.le_of_ble_eq_true rfl) dX6_removeWindow_2 (by decide) (by decide) ⟨by decide, by decide⟩ (fun E ce q9 H1 locs1 hE hk hP1 hS1 hce hcv hcl => hout _ ls _ H1 locs1 _ _ E ce q9 (by rw [(Prod.mk.inj hz).1]; exact hE) (by rw [(Prod.mk.inj hz).2]; exact hP1) hS1 hce hcv hcl (by decide) (by decide)) (fun v H1 l1 h9 => by cases h9)
  refine pq_cXV S (c_X6_requireOpenWindow l g a T p1 hst (.inr q1) T3 e2) vv_X6_231 hK hT hP hD hS hA rfl rfl rfl rfl rfl hl.1 (Nat.le_of_ble_eq_true rfl) dX6_removeWindow_2 (by decide) (by decide) ⟨by decide, by decide⟩ (fun E ce q9 H1 l1 h9 => by cases h9) (fun v H9 locs hv hk hP1 hS => ?_)
  obtain rfl : v = none := (Sum.inr.inj hv).symm
  change W _ _ _ _ _ _ _ _ _ _ _ _ _ _ _ (F0 _ _ _ [])
  replace hP := hP1
  replace hP : va_P g.1 pq_cl (mainW g a T3) H9 := hP
  replace hD : va_D A (mainW g a T3) := pq_adr hD (ad_X6 _ _)
  clear hk
  generalize H9 = H at hP hS ⊢
  refine lv_aload_n hx hb dX6_removeWindow_5 rfl (lv_at hl 0 rfl) ?_
  refine pq_get S hK hP inX6 0 rfl rfl 0 (by decide) fl_X6_12 rfl (v := .ref (a 1)) rfl dX6_removeWindow_6 ?_
  refine lv_iload_n hx hb dX6_removeWindow_9 rfl (lv_at hl 1 rfl) ?_
  obtain ⟨q5, e4, hf⟩ := pq_bind hf
  refine pq_cV S (c_X1_countInWindow l g (pq_sh a 1) T3.1 p1 q5 e4) vv_X6_228 hK (pq_P1 (pq_P2 hP)) rfl rfl rfl rfl rfl hl.1 (Nat.le_of_ble_eq_true rfl) dX6_removeWindow_10 (by decide) (by decide) ⟨by decide, by decide⟩ ?_
  refine lv_istore_n (lv' := [(2, .int q5), (0, .ref (a 0)), (1, .int p1)]) hx hb dX6_removeWindow_13 rfl hl (by decide) rfl (fun ls hl => ?_)
  refine lv_aload_n hx hb dX6_removeWindow_14 rfl (lv_at hl 1 rfl) ?_
  refine pq_get S hK hP inX6 0 rfl rfl 4 (by decide) fl_X6_25 rfl (v := .ref (a 40)) rfl dX6_removeWindow_15 ?_
  refine lv_aload_n hx hb dX6_removeWindow_18 rfl (lv_at hl 1 rfl) ?_
  refine pq_get S hK hP inX6 0 rfl rfl 0 (by decide) fl_X6_12 rfl (v := .ref (a 1)) rfl dX6_removeWindow_19 ?_
  obtain ⟨q7, e6, hf⟩ := pq_bind hf
  refine pq_cVv S (c_X2_push l g (pq_sh a 40) (pq_sh a 1) T3.2.2.2.2.1 T3.1 q7 e6) vv_X6_76 hK (va_P.app (pq_P1 (pq_P2 (pq_P2 (pq_P2 (pq_P2 hP))))) (pq_P1 (pq_P2 hP))) (pq_Da (pq_D1 (pq_D2 (pq_D2 (pq_D2 (pq_D2 hD))))) (pq_D1 (pq_D2 hD)) (pq_aps (pq_ap1 (pq_ap2 (pq_ap2 (pq_Dx (pq_D2 hD))))))) hS hA rfl rfl rfl rfl rfl hl.1 (Nat.le_of_ble_eq_true rfl) dX6_removeWindow_22 (by decide) (by decide) ⟨by decide, by decide⟩ (fun H9 locs hk hP1 hS => ?_)
  replace hP := (va_P.app (pq_kp (pq_P1 hP) (pq_apA (pq_ap1 (pq_ap2 (pq_ap2 (pq_ap2 (pq_Dx hD))))) (pq_ap1 (pq_Dx hD))) hk) (va_P.app (pq_P2 hP1) (va_P.app (pq_kp (pq_P1 (pq_P2 (pq_P2 hP))) (pq_apA (pq_ap1 (pq_ap2 (pq_Dx (pq_D2 (pq_D2 hD))))) (pq_aps (pq_ap1 (pq_Dx (pq_D2 hD))))) hk) (va_P.app (pq_kp (pq_P1 (pq_P2 (pq_P2 (pq_P2 hP)))) (pq_apA (pq_ap1 (pq_Dx (pq_D2 (pq_D2 (pq_D2 hD))))) (pq_aps (pq_ap1 (pq_ap2 (pq_Dx (pq_D2 hD)))))) hk) (va_P.app (pq_P1 hP1) (pq_kp (pq_P2 (pq_P2 (pq_P2 (pq_P2 (pq_P2 hP))))) (pq_apA (pq_aps (pq_Dx (pq_D2 (pq_D2 (pq_D2 (pq_D2 hD)))))) (pq_aps (pq_ap2 (pq_ap2 (pq_ap2 (pq_Dx (pq_D2 hD))))))) hk))))))
  replace hP : va_P g.1 pq_cl (mainW g a (T3.1, T3.2.1, T3.2.2.1, T3.2.2.2.1, q7, T3.2.2.2.2.2.1, T3.2.2.2.2.2.2.1, T3.2.2.2.2.2.2.2.1, T3.2.2.2.2.2.2.2.2.1, T3.2.2.2.2.2.2.2.2.2.1, T3.2.2.2.2.2.2.2.2.2.2)) H9 := hP
  replace hD : va_D A (mainW g a (T3.1, T3.2.1, T3.2.2.1, T3.2.2.2.1, q7, T3.2.2.2.2.2.1, T3.2.2.2.2.2.2.1, T3.2.2.2.2.2.2.2.1, T3.2.2.2.2.2.2.2.2.1, T3.2.2.2.2.2.2.2.2.2.1, T3.2.2.2.2.2.2.2.2.2.2)) := pq_adr hD (ad_X6 _ _)
  clear hk
  generalize H9 = H at hP hS ⊢
  refine lv_aload_n hx hb dX6_removeWindow_25 rfl (lv_at hl 1 rfl) ?_
  refine pq_get S hK hP inX6 0 rfl rfl 0 (by decide) fl_X6_12 rfl (v := .ref (a 1)) rfl dX6_removeWindow_26 ?_
  refine pq_getN S hK (pq_P1 (pq_P2 hP)) inX1 0 rfl rfl 1 (by decide) (List.mem_of_getElem? (i := 4) rfl) rfl (v := .ref (a 9)) rfl dX6_removeWindow_29 ?_
  refine lv_iload_n hx hb dX6_removeWindow_32 rfl (lv_at hl 2 rfl) ?_
  obtain ⟨q9, e8, hf⟩ := pq_bind hf
  refine pq_cVv S (c_X5_close l g (pq_sh (pq_sh a 1) 8) T3.1.2.1 p1 q9 e8) vv_X6_234 hK (pq_P2 (pq_P2 (pq_P1 (pq_P2 hP)))) (pq_D2 (pq_D2 (pq_D1 (pq_D2 hD)))) hS hA rfl rfl rfl rfl rfl hl.1 (Nat.le_of_ble_eq_true rfl) dX6_removeWindow_33 (by decide) (by decide) ⟨by decide, by decide⟩ (fun H9 locs hk hP1 hS => ?_)
  replace hP := (va_P.app (pq_kp (pq_P1 hP) (pq_ap2 (pq_ap2 (pq_ap1 (pq_Dx hD)))) hk) (va_P.app (va_P.app (pq_kp (pq_P1 (pq_P1 (pq_P2 hP))) (pq_ap2 (pq_Dx (pq_D1 (pq_D2 hD)))) hk) (va_P.app (pq_kp (pq_P1 (pq_P2 (pq_P1 (pq_P2 hP)))) (pq_Dx (pq_D2 (pq_D1 (pq_D2 hD)))) hk) hP1)) (pq_kp (pq_P2 (pq_P2 hP)) (pq_aps (pq_apl2 (pq_apl2 (pq_Dx (pq_D2 hD))))) hk)))
  replace hP : va_P g.1 pq_cl (mainW g a ((T3.1.1, q9, T3.1.2.2), T3.2.1, T3.2.2.1, T3.2.2.2.1, q7, T3.2.2.2.2.2.1, T3.2.2.2.2.2.2.1, T3.2.2.2.2.2.2.2.1, T3.2.2.2.2.2.2.2.2.1, T3.2.2.2.2.2.2.2.2.2.1, T3.2.2.2.2.2.2.2.2.2.2)) H9 := hP
  replace hD : va_D A (mainW g a ((T3.1.1, q9, T3.1.2.2), T3.2.1, T3.2.2.1, T3.2.2.2.1, q7, T3.2.2.2.2.2.1, T3.2.2.2.2.2.2.1, T3.2.2.2.2.2.2.2.1, T3.2.2.2.2.2.2.2.2.1, T3.2.2.2.2.2.2.2.2.2.1, T3.2.2.2.2.2.2.2.2.2.2)) := pq_adr hD (ad_X6 _ _)
  clear hk
  generalize H9 = H at hP hS ⊢
  refine lv_iload_n hx hb dX6_removeWindow_36 rfl (lv_at hl 0 rfl) ?_
  obtain ⟨h8, h9⟩ := pq_pair hf
  exact hend 37 ls _ _ _ _ _ _ (Or.inl ⟨_, .int, rfl, rfl, dX6_removeWindow_37, rfl, rfl⟩) (by subst h8; rfl) (by subst h9; exact hP) hS (by decide) (by decide)
def f_X6_isWindowSet (T : MainS) (p1 : Int32) : Option ((String ⊕ Int32) × MainS) :=
    pq_tu T (f_X6_requireWindow p1) fun q1 =>
    (f_X5_isOpen T.1.2.1 p1).bind fun q4 =>
    if q4 = 0 ∨ q4 = 1 then
      some (.inr q4, T)
    else none
set_option maxHeartbeats 4000000 in
set_option maxRecDepth 100000 in
theorem c_X6_isWindowSet (l : Launch) (g : pq_g) (a : Nat → Nat) (T : MainS) (p1 : Int32) (hst : l.stackTraces = false) (o : String ⊕ Int32) (T1 : MainS) (hf : f_X6_isWindowSet T p1 = some (o, T1)) : pq_X l yX6_isWindowSet cX6_isWindowSet 2 (some .boolean) 7 1 g (mainW g a T) [.ref (a 0), .int p1] (pq_oi o) (mainW g a T1) := by
  rw [f_X6_isWindowSet] at hf
  refine pq_X.of hst (by decide) rfl (Nat.le_of_ble_eq_true rfl) rfl ?_
  intro p e s m below meth c ls Q A S hP hK hD hS hA hT hl hend hout hthr
  obtain ⟨hx, hb, hml, hown, hts⟩ := id S
  refine lv_iload_n hx hb dX6_isWindowSet_0 rfl (lv_at hl 1 rfl) ?_
  rcases pq_tuE hf with ⟨E0, u0, e2, hz⟩ | ⟨q1, u0, e2, hf⟩
  · exact pq_cXS S (c_X6_requireWindow l g p1 hst (.inl E0) u0 e2) vs_X6_201 hK hT pq_P0 pq_D0 hS hA rfl rfl hl.1 (Nat.le_of_ble_eq_true rfl) dX6_isWindowSet_1 (by decide) (by decide) ⟨by decide, by decide⟩ (fun E ce q9 H1 locs1 hE hk hP1 hS1 hce hcv hcl => hout _ ls _ H1 locs1 _ _ E ce q9 (by rw [(Prod.mk.inj hz).1]; exact hE) (by rw [(Prod.mk.inj hz).2]; exact (pq_kp0 hP hk)) hS1 hce hcv hcl (by decide) (by decide)) (fun v H1 l1 h9 => by cases h9)
  refine pq_cXS S (c_X6_requireWindow l g p1 hst (.inr q1) u0 e2) vs_X6_201 hK hT pq_P0 pq_D0 hS hA rfl rfl hl.1 (Nat.le_of_ble_eq_true rfl) dX6_isWindowSet_1 (by decide) (by decide) ⟨by decide, by decide⟩ (fun E ce q9 H1 l1 h9 => by cases h9) (fun v H9 locs hv hk hP1 hS => ?_)
  obtain rfl : v = none := (Sum.inr.inj hv).symm
  change W _ _ _ _ _ _ _ _ _ _ _ _ _ _ _ (F0 _ _ _ [])
  replace hP := (pq_kp0 hP hk)
  replace hP : va_P g.1 pq_cl (mainW g a T) H9 := hP
  replace hD : va_D A (mainW g a T) := pq_adr hD (ad_X6 _ _)
  clear hk
  generalize H9 = H at hP hS ⊢
  refine lv_aload_n hx hb dX6_isWindowSet_4 rfl (lv_at hl 0 rfl) ?_
  refine pq_get S hK hP inX6 0 rfl rfl 0 (by decide) fl_X6_12 rfl (v := .ref (a 1)) rfl dX6_isWindowSet_5 ?_
  refine pq_getN S hK (pq_P1 (pq_P2 hP)) inX1 0 rfl rfl 1 (by decide) (List.mem_of_getElem? (i := 4) rfl) rfl (v := .ref (a 9)) rfl dX6_isWindowSet_8 ?_
  refine lv_iload_n hx hb dX6_isWindowSet_11 rfl (lv_at hl 1 rfl) ?_
  obtain ⟨q4, e3, hf⟩ := pq_bind hf
  refine pq_cV S (c_X5_isOpen l g (pq_sh (pq_sh a 1) 8) T.1.2.1 p1 q4 e3) vv_X6_237 hK (pq_P2 (pq_P2 (pq_P1 (pq_P2 hP)))) rfl rfl rfl rfl rfl hl.1 (Nat.le_of_ble_eq_true rfl) dX6_isWindowSet_12 (by decide) (by decide) ⟨by decide, by decide⟩ ?_
  by_cases h5 : q4 = 0 ∨ q4 = 1
  case neg => exact absurd (pq_ifn h5 hf) (fun h9 => by cases h9)
  replace hf := pq_ifp h5 hf
  obtain ⟨h8, h9⟩ := pq_pair hf
  exact hend 15 ls _ _ _ _ _ _ (Or.inl ⟨_, .boolean, rfl, (pq_nb h5), dX6_isWindowSet_15, rfl, rfl⟩) (by subst h8; rfl) (by subst h9; exact hP) hS (by decide) (by decide)
def f_X6_pointsInWindow (T : MainS) (p1 : Int32) : Option ((String ⊕ Int32) × MainS) :=
    pq_tr (f_X6_requireOpenWindow T p1) fun q1 T3 =>
    (f_X1_countInWindow T3.1 p1).bind fun q5 =>
    some (.inr q5, T3)
set_option maxHeartbeats 4000000 in
set_option maxRecDepth 100000 in
theorem c_X6_pointsInWindow (l : Launch) (g : pq_g) (a : Nat → Nat) (T : MainS) (p1 : Int32) (hst : l.stackTraces = false) (o : String ⊕ Int32) (T1 : MainS) (hf : f_X6_pointsInWindow T p1 = some (o, T1)) : pq_X l yX6_pointsInWindow cX6_pointsInWindow 2 (some .int) 8 2 g (mainW g a T) [.ref (a 0), .int p1] (pq_oi o) (mainW g a T1) := by
  rw [f_X6_pointsInWindow] at hf
  refine pq_X.of hst (by decide) rfl (Nat.le_of_ble_eq_true rfl) rfl ?_
  intro p e s m below meth c ls Q A S hP hK hD hS hA hT hl hend hout hthr
  obtain ⟨hx, hb, hml, hown, hts⟩ := id S
  refine lv_aload_n hx hb dX6_pointsInWindow_0 rfl (lv_at hl 0 rfl) ?_
  refine lv_iload_n hx hb dX6_pointsInWindow_1 rfl (lv_at hl 1 rfl) ?_
  rcases pq_trE hf with ⟨E0, T3, e2, hz⟩ | ⟨q1, T3, e2, hf⟩
  · exact pq_cXV S (c_X6_requireOpenWindow l g a T p1 hst (.inl E0) T3 e2) vv_X6_231 hK hT hP hD hS hA rfl rfl rfl rfl rfl hl.1 (Nat.le_of_ble_eq_true rfl) dX6_pointsInWindow_2 (by decide) (by decide) ⟨by decide, by decide⟩ (fun E ce q9 H1 locs1 hE hk hP1 hS1 hce hcv hcl => hout _ ls _ H1 locs1 _ _ E ce q9 (by rw [(Prod.mk.inj hz).1]; exact hE) (by rw [(Prod.mk.inj hz).2]; exact hP1) hS1 hce hcv hcl (by decide) (by decide)) (fun v H1 l1 h9 => by cases h9)
  refine pq_cXV S (c_X6_requireOpenWindow l g a T p1 hst (.inr q1) T3 e2) vv_X6_231 hK hT hP hD hS hA rfl rfl rfl rfl rfl hl.1 (Nat.le_of_ble_eq_true rfl) dX6_pointsInWindow_2 (by decide) (by decide) ⟨by decide, by decide⟩ (fun E ce q9 H1 l1 h9 => by cases h9) (fun v H9 locs hv hk hP1 hS => ?_)
  obtain rfl : v = none := (Sum.inr.inj hv).symm
  change W _ _ _ _ _ _ _ _ _ _ _ _ _ _ _ (F0 _ _ _ [])
  replace hP := hP1
  replace hP : va_P g.1 pq_cl (mainW g a T3) H9 := hP
  replace hD : va_D A (mainW g a T3) := pq_adr hD (ad_X6 _ _)
  clear hk
  generalize H9 = H at hP hS ⊢
  refine lv_aload_n hx hb dX6_pointsInWindow_5 rfl (lv_at hl 0 rfl) ?_
  refine pq_get S hK hP inX6 0 rfl rfl 0 (by decide) fl_X6_12 rfl (v := .ref (a 1)) rfl dX6_pointsInWindow_6 ?_
  refine lv_iload_n hx hb dX6_pointsInWindow_9 rfl (lv_at hl 1 rfl) ?_
  obtain ⟨q5, e4, hf⟩ := pq_bind hf
  refine pq_cV S (c_X1_countInWindow l g (pq_sh a 1) T3.1 p1 q5 e4) vv_X6_228 hK (pq_P1 (pq_P2 hP)) rfl rfl rfl rfl rfl hl.1 (Nat.le_of_ble_eq_true rfl) dX6_pointsInWindow_10 (by decide) (by decide) ⟨by decide, by decide⟩ ?_
  obtain ⟨h8, h9⟩ := pq_pair hf
  exact hend 13 ls _ _ _ _ _ _ (Or.inl ⟨_, .int, rfl, rfl, dX6_pointsInWindow_13, rfl, rfl⟩) (by subst h8; rfl) (by subst h9; exact hP) hS (by decide) (by decide)
def f_X6_roomInWindow (T : MainS) (p1 : Int32) : Option ((String ⊕ Int32) × MainS) :=
    pq_tr (f_X6_requireOpenWindow T p1) fun q1 T3 =>
    (f_X5_limitIn T3.1.2.1 p1).bind fun q5 =>
    (f_X1_countInWindow T3.1 p1).bind fun q7 =>
    some (.inr (q5 - q7), T3)
set_option maxHeartbeats 4000000 in
set_option maxRecDepth 100000 in
theorem c_X6_roomInWindow (l : Launch) (g : pq_g) (a : Nat → Nat) (T : MainS) (p1 : Int32) (hst : l.stackTraces = false) (o : String ⊕ Int32) (T1 : MainS) (hf : f_X6_roomInWindow T p1 = some (o, T1)) : pq_X l yX6_roomInWindow cX6_roomInWindow 2 (some .int) 8 2 g (mainW g a T) [.ref (a 0), .int p1] (pq_oi o) (mainW g a T1) := by
  rw [f_X6_roomInWindow] at hf
  refine pq_X.of hst (by decide) rfl (Nat.le_of_ble_eq_true rfl) rfl ?_
  intro p e s m below meth c ls Q A S hP hK hD hS hA hT hl hend hout hthr
  obtain ⟨hx, hb, hml, hown, hts⟩ := id S
  refine lv_aload_n hx hb dX6_roomInWindow_0 rfl (lv_at hl 0 rfl) ?_
  refine lv_iload_n hx hb dX6_roomInWindow_1 rfl (lv_at hl 1 rfl) ?_
  rcases pq_trE hf with ⟨E0, T3, e2, hz⟩ | ⟨q1, T3, e2, hf⟩
  · exact pq_cXV S (c_X6_requireOpenWindow l g a T p1 hst (.inl E0) T3 e2) vv_X6_231 hK hT hP hD hS hA rfl rfl rfl rfl rfl hl.1 (Nat.le_of_ble_eq_true rfl) dX6_roomInWindow_2 (by decide) (by decide) ⟨by decide, by decide⟩ (fun E ce q9 H1 locs1 hE hk hP1 hS1 hce hcv hcl => hout _ ls _ H1 locs1 _ _ E ce q9 (by rw [(Prod.mk.inj hz).1]; exact hE) (by rw [(Prod.mk.inj hz).2]; exact hP1) hS1 hce hcv hcl (by decide) (by decide)) (fun v H1 l1 h9 => by cases h9)
  refine pq_cXV S (c_X6_requireOpenWindow l g a T p1 hst (.inr q1) T3 e2) vv_X6_231 hK hT hP hD hS hA rfl rfl rfl rfl rfl hl.1 (Nat.le_of_ble_eq_true rfl) dX6_roomInWindow_2 (by decide) (by decide) ⟨by decide, by decide⟩ (fun E ce q9 H1 l1 h9 => by cases h9) (fun v H9 locs hv hk hP1 hS => ?_)
  obtain rfl : v = none := (Sum.inr.inj hv).symm
  change W _ _ _ _ _ _ _ _ _ _ _ _ _ _ _ (F0 _ _ _ [])
  replace hP := hP1
  replace hP : va_P g.1 pq_cl (mainW g a T3) H9 := hP
  replace hD : va_D A (mainW g a T3) := pq_adr hD (ad_X6 _ _)
  clear hk
  generalize H9 = H at hP hS ⊢
  refine lv_aload_n hx hb dX6_roomInWindow_5 rfl (lv_at hl 0 rfl) ?_
  refine pq_get S hK hP inX6 0 rfl rfl 0 (by decide) fl_X6_12 rfl (v := .ref (a 1)) rfl dX6_roomInWindow_6 ?_
  refine pq_getN S hK (pq_P1 (pq_P2 hP)) inX1 0 rfl rfl 1 (by decide) (List.mem_of_getElem? (i := 4) rfl) rfl (v := .ref (a 9)) rfl dX6_roomInWindow_9 ?_
  refine lv_iload_n hx hb dX6_roomInWindow_12 rfl (lv_at hl 1 rfl) ?_
  obtain ⟨q5, e4, hf⟩ := pq_bind hf
  refine pq_cV S (c_X5_limitIn l g (pq_sh (pq_sh a 1) 8) T3.1.2.1 p1 q5 e4) vv_X6_240 hK (pq_P2 (pq_P2 (pq_P1 (pq_P2 hP)))) rfl rfl rfl rfl rfl hl.1 (Nat.le_of_ble_eq_true rfl) dX6_roomInWindow_13 (by decide) (by decide) ⟨by decide, by decide⟩ ?_
  refine lv_aload_n hx hb dX6_roomInWindow_16 rfl (lv_at hl 0 rfl) ?_
  refine pq_get S hK hP inX6 0 rfl rfl 0 (by decide) fl_X6_12 rfl (v := .ref (a 1)) rfl dX6_roomInWindow_17 ?_
  refine lv_iload_n hx hb dX6_roomInWindow_20 rfl (lv_at hl 1 rfl) ?_
  obtain ⟨q7, e6, hf⟩ := pq_bind hf
  refine pq_cV S (c_X1_countInWindow l g (pq_sh a 1) T3.1 p1 q7 e6) vv_X6_228 hK (pq_P1 (pq_P2 hP)) rfl rfl rfl rfl rfl hl.1 (Nat.le_of_ble_eq_true rfl) dX6_roomInWindow_21 (by decide) (by decide) ⟨by decide, by decide⟩ ?_
  refine lv_isub hx hb dX6_roomInWindow_24 ?_
  obtain ⟨h8, h9⟩ := pq_pair hf
  exact hend 25 ls _ _ _ _ _ _ (Or.inl ⟨_, .int, rfl, rfl, dX6_roomInWindow_25, rfl, rfl⟩) (by subst h8; rfl) (by subst h9; exact hP) hS (by decide) (by decide)
def f_X6_windowKeyAt (T : MainS) (p1 : Int32) (p2 : Int32) : Option ((String ⊕ Int32) × MainS) :=
    pq_tr (f_X6_requireOpenWindow T p1) fun q1 T3 =>
    (f_X1_slotInWindow T3.1 p1 p2).bind fun q5 =>
    pq_tr (f_X6_keyInFound T3 q5) fun q6 T8 =>
    some (.inr q6, T8)
set_option maxHeartbeats 4000000 in
set_option maxRecDepth 100000 in
theorem c_X6_windowKeyAt (l : Launch) (g : pq_g) (a : Nat → Nat) (T : MainS) (p1 : Int32) (p2 : Int32) (hst : l.stackTraces = false) (o : String ⊕ Int32) (T1 : MainS) (hf : f_X6_windowKeyAt T p1 p2 = some (o, T1)) : pq_X l yX6_windowKeyAt cX6_windowKeyAt 3 (some .int) 8 3 g (mainW g a T) [.ref (a 0), .int p1, .int p2] (pq_oi o) (mainW g a T1) := by
  rw [f_X6_windowKeyAt] at hf
  refine pq_X.of hst (by decide) rfl (Nat.le_of_ble_eq_true rfl) rfl ?_
  intro p e s m below meth c ls Q A S hP hK hD hS hA hT hl hend hout hthr
  obtain ⟨hx, hb, hml, hown, hts⟩ := id S
  refine lv_aload_n hx hb dX6_windowKeyAt_0 rfl (lv_at hl 0 rfl) ?_
  refine lv_iload_n hx hb dX6_windowKeyAt_1 rfl (lv_at hl 1 rfl) ?_
  rcases pq_trE hf with ⟨E0, T3, e2, hz⟩ | ⟨q1, T3, e2, hf⟩
  · exact pq_cXV S (c_X6_requireOpenWindow l g a T p1 hst (.inl E0) T3 e2) vv_X6_231 hK hT hP hD hS hA rfl rfl rfl rfl rfl hl.1 (Nat.le_of_ble_eq_true rfl) dX6_windowKeyAt_2 (by decide) (by decide) ⟨by decide, by decide⟩ (fun E ce q9 H1 locs1 hE hk hP1 hS1 hce hcv hcl => hout _ ls _ H1 locs1 _ _ E ce q9 (by rw [(Prod.mk.inj hz).1]; exact hE) (by rw [(Prod.mk.inj hz).2]; exact hP1) hS1 hce hcv hcl (by decide) (by decide)) (fun v H1 l1 h9 => by cases h9)
  refine pq_cXV S (c_X6_requireOpenWindow l g a T p1 hst (.inr q1) T3 e2) vv_X6_231 hK hT hP hD hS hA rfl rfl rfl rfl rfl hl.1 (Nat.le_of_ble_eq_true rfl) dX6_windowKeyAt_2 (by decide) (by decide) ⟨by decide, by decide⟩ (fun E ce q9 H1 l1 h9 => by cases h9) (fun v H9 locs hv hk hP1 hS => ?_)
  obtain rfl : v = none := (Sum.inr.inj hv).symm
  change W _ _ _ _ _ _ _ _ _ _ _ _ _ _ _ (F0 _ _ _ [])
  replace hP := hP1
  replace hP : va_P g.1 pq_cl (mainW g a T3) H9 := hP
  replace hD : va_D A (mainW g a T3) := pq_adr hD (ad_X6 _ _)
  clear hk
  generalize H9 = H at hP hS ⊢
  refine lv_aload_n hx hb dX6_windowKeyAt_5 rfl (lv_at hl 0 rfl) ?_
  refine lv_aload_n hx hb dX6_windowKeyAt_6 rfl (lv_at hl 0 rfl) ?_
  refine pq_get S hK hP inX6 0 rfl rfl 0 (by decide) fl_X6_12 rfl (v := .ref (a 1)) rfl dX6_windowKeyAt_7 ?_
  refine lv_iload_n hx hb dX6_windowKeyAt_10 rfl (lv_at hl 1 rfl) ?_
  refine lv_iload_n hx hb dX6_windowKeyAt_11 rfl (lv_at hl 2 rfl) ?_
  obtain ⟨q5, e4, hf⟩ := pq_bind hf
  refine pq_cV S (c_X1_slotInWindow l g (pq_sh a 1) T3.1 p1 p2 q5 e4) vv_X6_243 hK (pq_P1 (pq_P2 hP)) rfl rfl rfl rfl rfl hl.1 (Nat.le_of_ble_eq_true rfl) dX6_windowKeyAt_12 (by decide) (by decide) ⟨by decide, by decide⟩ ?_
  rcases pq_trE hf with ⟨E0, T8, e7, hz⟩ | ⟨q6, T8, e7, hf⟩
  · exact pq_cXV S (c_X6_keyInFound l g a T3 q5 hst (.inl E0) T8 e7) vv_X6_131 hK hT hP hD hS hA rfl rfl rfl rfl rfl hl.1 (Nat.le_of_ble_eq_true rfl) dX6_windowKeyAt_15 (by decide) (by decide) ⟨by decide, by decide⟩ (fun E ce q9 H1 locs1 hE hk hP1 hS1 hce hcv hcl => hout _ ls _ H1 locs1 _ _ E ce q9 (by rw [(Prod.mk.inj hz).1]; exact hE) (by rw [(Prod.mk.inj hz).2]; exact hP1) hS1 hce hcv hcl (by decide) (by decide)) (fun v H1 l1 h9 => by cases h9)
  refine pq_cXV S (c_X6_keyInFound l g a T3 q5 hst (.inr q6) T8 e7) vv_X6_131 hK hT hP hD hS hA rfl rfl rfl rfl rfl hl.1 (Nat.le_of_ble_eq_true rfl) dX6_windowKeyAt_15 (by decide) (by decide) ⟨by decide, by decide⟩ (fun E ce q9 H1 l1 h9 => by cases h9) (fun v H9 locs hv hk hP1 hS => ?_)
  obtain rfl : v = some (.int q6) := (Sum.inr.inj hv).symm
  change W _ _ _ _ _ _ _ _ _ _ _ _ _ _ _ (F0 _ _ _ [.int q6])
  replace hP := hP1
  replace hP : va_P g.1 pq_cl (mainW g a T8) H9 := hP
  replace hD : va_D A (mainW g a T8) := pq_adr hD (ad_X6 _ _)
  clear hk
  generalize H9 = H at hP hS ⊢
  obtain ⟨h8, h9⟩ := pq_pair hf
  exact hend 18 ls _ _ _ _ _ _ (Or.inl ⟨_, .int, rfl, rfl, dX6_windowKeyAt_18, rfl, rfl⟩) (by subst h8; rfl) (by subst h9; exact hP) hS (by decide) (by decide)
def f_X6_meanDepth (T : MainS) : Option ((String ⊕ UInt64) × MainS) :=
    (f_X4_pointCount T.1.1).bind fun q2 =>
    if q2 = 0 then
      some (.inl "java/lang/ArithmeticException", T)
    else
      (f_X4_sumOfDepths T.1.1).bind fun q5 =>
      if (FP.ddiv (FP.i2d q5) (FP.i2d q2)) &&& 0x7fffffffffffffff ≤ 0x7ff0000000000000 then
        some (.inr (FP.ddiv (FP.i2d q5) (FP.i2d q2)), T)
      else none
set_option maxHeartbeats 4000000 in
set_option maxRecDepth 100000 in
theorem c_X6_meanDepth (l : Launch) (g : pq_g) (a : Nat → Nat) (T : MainS) (hst : l.stackTraces = false) (o : String ⊕ UInt64) (T1 : MainS) (hf : f_X6_meanDepth T = some (o, T1)) : pq_X l yX6_meanDepth cX6_meanDepth 2 (some .double) 6 1 g (mainW g a T) [.ref (a 0)] (pq_od o) (mainW g a T1) := by
  rw [f_X6_meanDepth] at hf
  refine pq_X.of hst (by decide) rfl (Nat.le_of_ble_eq_true rfl) rfl ?_
  intro p e s m below meth c ls Q A S hP hK hD hS hA hT hl hend hout hthr
  obtain ⟨hx, hb, hml, hown, hts⟩ := id S
  refine lv_aload_n hx hb dX6_meanDepth_0 rfl (lv_at hl 0 rfl) ?_
  refine pq_get S hK hP inX6 0 rfl rfl 0 (by decide) fl_X6_12 rfl (v := .ref (a 1)) rfl dX6_meanDepth_1 ?_
  refine pq_getN S hK (pq_P1 (pq_P2 hP)) inX1 0 rfl rfl 0 (by decide) (List.mem_of_getElem? (i := 3) rfl) rfl (v := .ref (a 2)) rfl dX6_meanDepth_4 ?_
  obtain ⟨q2, e1, hf⟩ := pq_bind hf
  refine pq_cV S (c_X4_pointCount l g (pq_sh (pq_sh a 1) 1) T.1.1 q2 e1) vv_X6_121 hK (pq_P1 (pq_P2 (pq_P1 (pq_P2 hP)))) rfl rfl rfl rfl rfl hl.1 (Nat.le_of_ble_eq_true rfl) dX6_meanDepth_7 (by decide) (by decide) ⟨by decide, by decide⟩ ?_
  refine lv_istore_n (lv' := [(1, .int q2), (0, .ref (a 0))]) hx hb dX6_meanDepth_10 rfl hl (by decide) rfl (fun ls hl => ?_)
  refine lv_iload_n hx hb dX6_meanDepth_11 rfl (lv_at hl 0 rfl) ?_
  refine lv_if_ne (tgt := 25) hx hb dX6_meanDepth_12 (by decide) (fun h3 => ?_) (fun h3 => ?_)
  · replace hf := pq_ifn h3 hf
    refine lv_aload_n hx hb dX6_meanDepth_25 rfl (lv_at hl 1 rfl) ?_
    refine pq_get S hK hP inX6 0 rfl rfl 0 (by decide) fl_X6_12 rfl (v := .ref (a 1)) rfl dX6_meanDepth_26 ?_
    refine pq_getN S hK (pq_P1 (pq_P2 hP)) inX1 0 rfl rfl 0 (by decide) (List.mem_of_getElem? (i := 3) rfl) rfl (v := .ref (a 2)) rfl dX6_meanDepth_29 ?_
    obtain ⟨q5, e4, hf⟩ := pq_bind hf
    refine pq_cV S (c_X4_sumOfDepths l g (pq_sh (pq_sh a 1) 1) T.1.1 q5 e4) vv_X6_254 hK (pq_P1 (pq_P2 (pq_P1 (pq_P2 hP)))) rfl rfl rfl rfl rfl hl.1 (Nat.le_of_ble_eq_true rfl) dX6_meanDepth_32 (by decide) (by decide) ⟨by decide, by decide⟩ ?_
    refine lv_i2d hx hb dX6_meanDepth_35 ?_
    refine lv_iload_n hx hb dX6_meanDepth_36 rfl (lv_at hl 0 rfl) ?_
    refine lv_i2d hx hb dX6_meanDepth_37 ?_
    by_cases h6 : (FP.ddiv (FP.i2d q5) (FP.i2d q2)) &&& 0x7fffffffffffffff ≤ 0x7ff0000000000000
    case neg => exact absurd (pq_ifn h6 hf) (fun h9 => by cases h9)
    replace hf := pq_ifp h6 hf
    refine lv_ddiv hx hb dX6_meanDepth_38 h6 ?_
    obtain ⟨h8, h9⟩ := pq_pair hf
    exact hend 39 ls _ _ _ _ _ _ (Or.inr (Or.inr (Or.inr (Or.inl ⟨_, rfl, dX6_meanDepth_39, rfl, rfl⟩)))) (by subst h8; rfl) (by subst h9; exact hP) hS (by decide) (by decide)
  · replace hf := pq_ifp h3 hf
    obtain ⟨h8, h9⟩ := pq_pair hf
    exact hthr 15 ls _ _ _ _ "java/lang/ArithmeticException" _ 249 251 253 vt_249_253 (List.mem_of_getElem? (i := 6) rfl) dX6_meanDepth_15 dX6_meanDepth_18 (Or.inl ⟨dX6_meanDepth_19, dX6_meanDepth_21, dX6_meanDepth_24⟩) (by subst h8; rfl) (by subst h9; exact hP) hS hl.1 (by decide) (by decide) (by decide)
def f_X6_leafShare (T : MainS) : Option ((String ⊕ UInt32) × MainS) :=
    (f_X4_pointCount T.1.1).bind fun q2 =>
    if q2 = 0 then
      some (.inl "java/lang/ArithmeticException", T)
    else
      (f_X4_countLeaves T.1.1).bind fun q5 =>
      if (FP.fdiv (FP.i2f q5) (FP.i2f q2)) &&& 0x7fffffff ≤ 0x7f800000 then
        some (.inr (FP.fdiv (FP.i2f q5) (FP.i2f q2)), T)
      else none
set_option maxHeartbeats 4000000 in
set_option maxRecDepth 100000 in
theorem c_X6_leafShare (l : Launch) (g : pq_g) (a : Nat → Nat) (T : MainS) (hst : l.stackTraces = false) (o : String ⊕ UInt32) (T1 : MainS) (hf : f_X6_leafShare T = some (o, T1)) : pq_X l yX6_leafShare cX6_leafShare 2 (some .float) 6 1 g (mainW g a T) [.ref (a 0)] (pq_of o) (mainW g a T1) := by
  rw [f_X6_leafShare] at hf
  refine pq_X.of hst (by decide) rfl (Nat.le_of_ble_eq_true rfl) rfl ?_
  intro p e s m below meth c ls Q A S hP hK hD hS hA hT hl hend hout hthr
  obtain ⟨hx, hb, hml, hown, hts⟩ := id S
  refine lv_aload_n hx hb dX6_leafShare_0 rfl (lv_at hl 0 rfl) ?_
  refine pq_get S hK hP inX6 0 rfl rfl 0 (by decide) fl_X6_12 rfl (v := .ref (a 1)) rfl dX6_leafShare_1 ?_
  refine pq_getN S hK (pq_P1 (pq_P2 hP)) inX1 0 rfl rfl 0 (by decide) (List.mem_of_getElem? (i := 3) rfl) rfl (v := .ref (a 2)) rfl dX6_leafShare_4 ?_
  obtain ⟨q2, e1, hf⟩ := pq_bind hf
  refine pq_cV S (c_X4_pointCount l g (pq_sh (pq_sh a 1) 1) T.1.1 q2 e1) vv_X6_121 hK (pq_P1 (pq_P2 (pq_P1 (pq_P2 hP)))) rfl rfl rfl rfl rfl hl.1 (Nat.le_of_ble_eq_true rfl) dX6_leafShare_7 (by decide) (by decide) ⟨by decide, by decide⟩ ?_
  refine lv_istore_n (lv' := [(1, .int q2), (0, .ref (a 0))]) hx hb dX6_leafShare_10 rfl hl (by decide) rfl (fun ls hl => ?_)
  refine lv_iload_n hx hb dX6_leafShare_11 rfl (lv_at hl 0 rfl) ?_
  refine lv_if_ne (tgt := 25) hx hb dX6_leafShare_12 (by decide) (fun h3 => ?_) (fun h3 => ?_)
  · replace hf := pq_ifn h3 hf
    refine lv_aload_n hx hb dX6_leafShare_25 rfl (lv_at hl 1 rfl) ?_
    refine pq_get S hK hP inX6 0 rfl rfl 0 (by decide) fl_X6_12 rfl (v := .ref (a 1)) rfl dX6_leafShare_26 ?_
    refine pq_getN S hK (pq_P1 (pq_P2 hP)) inX1 0 rfl rfl 0 (by decide) (List.mem_of_getElem? (i := 3) rfl) rfl (v := .ref (a 2)) rfl dX6_leafShare_29 ?_
    obtain ⟨q5, e4, hf⟩ := pq_bind hf
    refine pq_cV S (c_X4_countLeaves l g (pq_sh (pq_sh a 1) 1) T.1.1 q5 e4) vv_X6_170 hK (pq_P1 (pq_P2 (pq_P1 (pq_P2 hP)))) rfl rfl rfl rfl rfl hl.1 (Nat.le_of_ble_eq_true rfl) dX6_leafShare_32 (by decide) (by decide) ⟨by decide, by decide⟩ ?_
    refine lv_i2f hx hb dX6_leafShare_35 ?_
    refine lv_iload_n hx hb dX6_leafShare_36 rfl (lv_at hl 0 rfl) ?_
    refine lv_i2f hx hb dX6_leafShare_37 ?_
    by_cases h6 : (FP.fdiv (FP.i2f q5) (FP.i2f q2)) &&& 0x7fffffff ≤ 0x7f800000
    case neg => exact absurd (pq_ifn h6 hf) (fun h9 => by cases h9)
    replace hf := pq_ifp h6 hf
    refine lv_fdiv hx hb dX6_leafShare_38 h6 ?_
    obtain ⟨h8, h9⟩ := pq_pair hf
    exact hend 39 ls _ _ _ _ _ _ (Or.inr (Or.inr (Or.inr (Or.inr ⟨_, rfl, dX6_leafShare_39, rfl, rfl⟩)))) (by subst h8; rfl) (by subst h9; exact hP) hS (by decide) (by decide)
  · replace hf := pq_ifp h3 hf
    obtain ⟨h8, h9⟩ := pq_pair hf
    exact hthr 15 ls _ _ _ _ "java/lang/ArithmeticException" _ 249 251 253 vt_249_253 (List.mem_of_getElem? (i := 6) rfl) dX6_leafShare_15 dX6_leafShare_18 (Or.inl ⟨dX6_leafShare_19, dX6_leafShare_21, dX6_leafShare_24⟩) (by subst h8; rfl) (by subst h9; exact hP) hS hl.1 (by decide) (by decide) (by decide)
def f_X6_isConsistent (T : MainS) : Option (Int32) :=
    (f_X4_isSound T.1.1).bind fun q2 =>
    if q2 = 0 then
      some 0
    else
      (f_X4_bothWaysAgree T.1.1).bind fun q5 =>
      if q5 = 0 then
        some 0
      else
        (f_X1_keepsLimits T.1).bind fun q8 =>
        if q8 = 0 then
          some 0
        else
          some 1
set_option maxHeartbeats 4000000 in
set_option maxRecDepth 100000 in
theorem c_X6_isConsistent (l : Launch) (g : pq_g) (a : Nat → Nat) (T : MainS) (r : Int32) (hf : f_X6_isConsistent T = some r) : pq_R l yX6_isConsistent cX6_isConsistent 1 .boolean 45 g (mainW g a T) [.ref (a 0)] r := by
  rw [f_X6_isConsistent] at hf
  refine pq_R.of (own := RX6) (by decide) rfl (Nat.le_of_ble_eq_true rfl) rfl ?_
  intro p e s m below meth c ls Q S hP hK hl hend
  obtain ⟨hx, hb, hml, hown, hts⟩ := id S
  refine lv_aload_n hx hb dX6_isConsistent_0 rfl (lv_at hl 0 rfl) ?_
  refine pq_get S hK hP inX6 0 rfl rfl 0 (by decide) fl_X6_12 rfl (v := .ref (a 1)) rfl dX6_isConsistent_1 ?_
  refine pq_getN S hK (pq_P1 (pq_P2 hP)) inX1 0 rfl rfl 0 (by decide) (List.mem_of_getElem? (i := 3) rfl) rfl (v := .ref (a 2)) rfl dX6_isConsistent_4 ?_
  obtain ⟨q2, e1, hf⟩ := pq_bind hf
  refine pq_cV S (c_X4_isSound l g (pq_sh (pq_sh a 1) 1) T.1.1 q2 e1) vv_X6_257 hK (pq_P1 (pq_P2 (pq_P1 (pq_P2 hP)))) rfl rfl rfl rfl rfl hl.1 (Nat.le_of_ble_eq_true rfl) dX6_isConsistent_7 (by decide) (by decide) ⟨Nat.le_refl _, Nat.le_refl _⟩ ?_
  refine lv_if_eq (tgt := 40) hx hb dX6_isConsistent_10 (by decide) (fun h3 => ?_) (fun h3 => ?_)
  · replace hf := pq_ifp h3 hf
    refine lv_iconst (v := 0) hx hb dX6_isConsistent_40 (by decide) ?_
    exact hend _ _ _ dX6_isConsistent_41 rfl hf
  · replace hf := pq_ifn h3 hf
    refine lv_aload_n hx hb dX6_isConsistent_13 rfl (lv_at hl 0 rfl) ?_
    refine pq_get S hK hP inX6 0 rfl rfl 0 (by decide) fl_X6_12 rfl (v := .ref (a 1)) rfl dX6_isConsistent_14 ?_
    refine pq_getN S hK (pq_P1 (pq_P2 hP)) inX1 0 rfl rfl 0 (by decide) (List.mem_of_getElem? (i := 3) rfl) rfl (v := .ref (a 2)) rfl dX6_isConsistent_17 ?_
    obtain ⟨q5, e4, hf⟩ := pq_bind hf
    refine pq_cV S (c_X4_bothWaysAgree l g (pq_sh (pq_sh a 1) 1) T.1.1 q5 e4) vv_X6_261 hK (pq_P1 (pq_P2 (pq_P1 (pq_P2 hP)))) rfl rfl rfl rfl rfl hl.1 (Nat.le_of_ble_eq_true rfl) dX6_isConsistent_20 (by decide) (by decide) ⟨Nat.le_refl _, Nat.le_refl _⟩ ?_
    refine lv_if_eq (tgt := 40) hx hb dX6_isConsistent_23 (by decide) (fun h6 => ?_) (fun h6 => ?_)
    · replace hf := pq_ifp h6 hf
      refine lv_iconst (v := 0) hx hb dX6_isConsistent_40 (by decide) ?_
      exact hend _ _ _ dX6_isConsistent_41 rfl hf
    · replace hf := pq_ifn h6 hf
      refine lv_aload_n hx hb dX6_isConsistent_26 rfl (lv_at hl 0 rfl) ?_
      refine pq_get S hK hP inX6 0 rfl rfl 0 (by decide) fl_X6_12 rfl (v := .ref (a 1)) rfl dX6_isConsistent_27 ?_
      obtain ⟨q8, e7, hf⟩ := pq_bind hf
      refine pq_cV S (c_X1_keepsLimits l g (pq_sh a 1) T.1 q8 e7) vv_X6_264 hK (pq_P1 (pq_P2 hP)) rfl rfl rfl rfl rfl hl.1 (Nat.le_of_ble_eq_true rfl) dX6_isConsistent_30 (by decide) (by decide) ⟨Nat.le_refl _, Nat.le_refl _⟩ ?_
      refine lv_if_eq (tgt := 40) hx hb dX6_isConsistent_33 (by decide) (fun h9 => ?_) (fun h9 => ?_)
      · replace hf := pq_ifp h9 hf
        refine lv_iconst (v := 0) hx hb dX6_isConsistent_40 (by decide) ?_
        exact hend _ _ _ dX6_isConsistent_41 rfl hf
      · replace hf := pq_ifn h9 hf
        refine lv_iconst (v := 1) hx hb dX6_isConsistent_36 (by decide) ?_
        refine lv_goto (tgt := 41) hx hb dX6_isConsistent_37 (by decide) ?_
        exact hend _ _ _ dX6_isConsistent_41 rfl hf
def f_X6_writeSubtree : Nat → OutS → TreeS → Int32 → Int32 → Option (OutS)
  | 0, _, _, _, _ => none
  | d + 1, T, O, p2, p4 =>
    if p2 = 0 then
      some T
    else
      if p4 < 24 then
        (f_X3_write T 40).bind fun q4 =>
        (f_X4_leftIn O p2).bind fun q6 =>
        (f_X6_writeSubtree d q4 O q6 (p4 + 1)).bind fun q8 =>
        (f_X4_keyIn O p2).bind fun q10 =>
        (f_X3_writeNumber q8 q10).bind fun q12 =>
        (f_X3_write q12 58).bind fun q14 =>
        (f_X4_priorityIn O p2).bind fun q16 =>
        (f_X3_writeNumber q14 q16).bind fun q18 =>
        (f_X4_rightIn O p2).bind fun q20 =>
        (f_X6_writeSubtree d q18 O q20 (p4 + 1)).bind fun q22 =>
        (f_X3_write q22 41).bind fun q24 =>
        some q24
      else
        some T
set_option maxHeartbeats 4000000 in
set_option maxRecDepth 100000 in
theorem c_X6_writeSubtree (l : Launch) (g : pq_g) (a : Nat → Nat) (b : Nat → Nat) : ∀ (d : Nat) (T : OutS) (O : TreeS) (p2 : Int32) (p4 : Int32) (T1 : OutS), f_X6_writeSubtree d T O p2 p4 = some T1 → pq_Mv l yX6_writeSubtree cX6_writeSubtree 4 (4 + d) g (outW g a T ++ treeW g b O) [.ref (b 0), .int p2, .ref (a 0), .int p4] (outW g a T1 ++ treeW g b O) := by
  intro d
  induction d with
  | zero =>
    intro T O p2 p4 T1 hf
    exact absurd hf (by simp [f_X6_writeSubtree])
  | succ d ihd =>
    intro T O p2 p4 T1 hf
    rw [f_X6_writeSubtree] at hf
    refine pq_Mv.of (own := RX6) (by decide) rfl (Nat.le_of_ble_eq_true rfl) rfl ?_
    intro p e s m below meth c ls Q A S hP hK hD hS hA hl hend
    obtain ⟨hx, hb, hml, hown, hts⟩ := id S
    refine lv_aload_n hx hb dX6_writeSubtree_0 rfl (lv_at hl 0 rfl) ?_
    refine lv_ifnull hx hb dX6_writeSubtree_1 ?_
    refine lv_iload_n hx hb dX6_writeSubtree_4 rfl (lv_at hl 1 rfl) ?_
    refine lv_if_eq (tgt := 18) hx hb dX6_writeSubtree_5 (by decide) (fun h1 => ?_) (fun h1 => ?_)
    · replace hf := pq_ifp h1 hf
      exact hend _ _ _ _ dX6_writeSubtree_18 (by rw [← Option.some.inj hf]; exact hP) hS
    · replace hf := pq_ifn h1 hf
      refine lv_aload_n hx hb dX6_writeSubtree_8 rfl (lv_at hl 2 rfl) ?_
      refine lv_ifnull hx hb dX6_writeSubtree_9 ?_
      refine lv_iload_n hx hb dX6_writeSubtree_12 rfl (lv_at hl 3 rfl) ?_
      refine lv_bipush (v := 24) hx hb dX6_writeSubtree_13 (by decide) ?_
      refine lv_icmp_lt (tgt := 19) hx hb dX6_writeSubtree_15 (by decide) (fun h2 => ?_) (fun h2 => ?_)
      · replace hf := pq_ifp h2 hf
        refine lv_aload_n hx hb dX6_writeSubtree_19 rfl (lv_at hl 2 rfl) ?_
        refine lv_bipush (v := 40) hx hb dX6_writeSubtree_20 (by decide) ?_
        obtain ⟨q4, e3, hf⟩ := pq_bind hf
        refine pq_cVv S (c_X3_write l g a T 40 q4 e3) vv_X6_277 hK (pq_P1 hP) (pq_D1 hD) hS hA rfl rfl rfl rfl rfl hl.1 (Nat.le_of_ble_eq_true rfl) dX6_writeSubtree_22 (by omega) (by decide) ⟨Nat.le_refl _, Nat.le_refl _⟩ (fun H9 locs hk hP1 hS => ?_)
        replace hP := (va_P.app hP1 (pq_kp (pq_P2 hP) (pq_aps (pq_Dx hD)) hk))
        replace hP : va_P g.1 pq_cl (outW g a q4 ++ treeW g b O) H9 := hP
        replace hD : va_D A (outW g a q4 ++ treeW g b O) := pq_adr hD (ad_app (ad_X3 _ _) (ad_X4 _ _))
        clear hk
        generalize H9 = H at hP hS ⊢
        refine lv_aload_n hx hb dX6_writeSubtree_25 rfl (lv_at hl 0 rfl) ?_
        refine lv_aload_n hx hb dX6_writeSubtree_26 rfl (lv_at hl 0 rfl) ?_
        refine lv_iload_n hx hb dX6_writeSubtree_27 rfl (lv_at hl 1 rfl) ?_
        obtain ⟨q6, e5, hf⟩ := pq_bind hf
        refine pq_cV S (c_X4_leftIn l g b O p2 q6 e5) vv_X6_152 hK (pq_P2 hP) rfl rfl rfl rfl rfl hl.1 (Nat.le_of_ble_eq_true rfl) dX6_writeSubtree_28 (by omega) (by decide) ⟨Nat.le_refl _, Nat.le_refl _⟩ ?_
        refine lv_aload_n hx hb dX6_writeSubtree_31 rfl (lv_at hl 2 rfl) ?_
        refine lv_iload_n hx hb dX6_writeSubtree_32 rfl (lv_at hl 3 rfl) ?_
        refine lv_iconst (v := 1) hx hb dX6_writeSubtree_33 (by decide) ?_
        refine lv_iadd hx hb dX6_writeSubtree_34 ?_
        obtain ⟨q8, e7, hf⟩ := pq_bind hf
        refine pq_cSv S (ihd q4 O q6 (p4 + 1) q8 e7) vs_X6_270 hK hP hD hS hA rfl rfl hl.1 (Nat.le_of_ble_eq_true rfl) dX6_writeSubtree_35 (by omega) (by decide) ⟨Nat.le_refl _, Nat.le_refl _⟩ (fun H9 locs hk hP1 hS => ?_)
        replace hP := hP1
        replace hP : va_P g.1 pq_cl (outW g a q8 ++ treeW g b O) H9 := hP
        replace hD : va_D A (outW g a q8 ++ treeW g b O) := pq_adr hD (ad_app (ad_X3 _ _) (ad_X4 _ _))
        clear hk
        generalize H9 = H at hP hS ⊢
        refine lv_aload_n hx hb dX6_writeSubtree_38 rfl (lv_at hl 2 rfl) ?_
        refine lv_aload_n hx hb dX6_writeSubtree_39 rfl (lv_at hl 0 rfl) ?_
        refine lv_iload_n hx hb dX6_writeSubtree_40 rfl (lv_at hl 1 rfl) ?_
        obtain ⟨q10, e9, hf⟩ := pq_bind hf
        refine pq_cV S (c_X4_keyIn l g b O p2 q10 e9) vv_X6_140 hK (pq_P2 hP) rfl rfl rfl rfl rfl hl.1 (Nat.le_of_ble_eq_true rfl) dX6_writeSubtree_41 (by omega) (by decide) ⟨Nat.le_refl _, Nat.le_refl _⟩ ?_
        obtain ⟨q12, e11, hf⟩ := pq_bind hf
        refine pq_cVv S (c_X3_writeNumber l g a q8 q10 q12 e11) vv_X6_280 hK (pq_P1 hP) (pq_D1 hD) hS hA rfl rfl rfl rfl rfl hl.1 (Nat.le_of_ble_eq_true rfl) dX6_writeSubtree_44 (by omega) (by decide) ⟨Nat.le_refl _, Nat.le_refl _⟩ (fun H9 locs hk hP1 hS => ?_)
        replace hP := (va_P.app hP1 (pq_kp (pq_P2 hP) (pq_aps (pq_Dx hD)) hk))
        replace hP : va_P g.1 pq_cl (outW g a q12 ++ treeW g b O) H9 := hP
        replace hD : va_D A (outW g a q12 ++ treeW g b O) := pq_adr hD (ad_app (ad_X3 _ _) (ad_X4 _ _))
        clear hk
        generalize H9 = H at hP hS ⊢
        refine lv_aload_n hx hb dX6_writeSubtree_47 rfl (lv_at hl 2 rfl) ?_
        refine lv_bipush (v := 58) hx hb dX6_writeSubtree_48 (by decide) ?_
        obtain ⟨q14, e13, hf⟩ := pq_bind hf
        refine pq_cVv S (c_X3_write l g a q12 58 q14 e13) vv_X6_277 hK (pq_P1 hP) (pq_D1 hD) hS hA rfl rfl rfl rfl rfl hl.1 (Nat.le_of_ble_eq_true rfl) dX6_writeSubtree_50 (by omega) (by decide) ⟨Nat.le_refl _, Nat.le_refl _⟩ (fun H9 locs hk hP1 hS => ?_)
        replace hP := (va_P.app hP1 (pq_kp (pq_P2 hP) (pq_aps (pq_Dx hD)) hk))
        replace hP : va_P g.1 pq_cl (outW g a q14 ++ treeW g b O) H9 := hP
        replace hD : va_D A (outW g a q14 ++ treeW g b O) := pq_adr hD (ad_app (ad_X3 _ _) (ad_X4 _ _))
        clear hk
        generalize H9 = H at hP hS ⊢
        refine lv_aload_n hx hb dX6_writeSubtree_53 rfl (lv_at hl 2 rfl) ?_
        refine lv_aload_n hx hb dX6_writeSubtree_54 rfl (lv_at hl 0 rfl) ?_
        refine lv_iload_n hx hb dX6_writeSubtree_55 rfl (lv_at hl 1 rfl) ?_
        obtain ⟨q16, e15, hf⟩ := pq_bind hf
        refine pq_cV S (c_X4_priorityIn l g b O p2 q16 e15) vv_X6_105 hK (pq_P2 hP) rfl rfl rfl rfl rfl hl.1 (Nat.le_of_ble_eq_true rfl) dX6_writeSubtree_56 (by omega) (by decide) ⟨Nat.le_refl _, Nat.le_refl _⟩ ?_
        obtain ⟨q18, e17, hf⟩ := pq_bind hf
        refine pq_cVv S (c_X3_writeNumber l g a q14 q16 q18 e17) vv_X6_280 hK (pq_P1 hP) (pq_D1 hD) hS hA rfl rfl rfl rfl rfl hl.1 (Nat.le_of_ble_eq_true rfl) dX6_writeSubtree_59 (by omega) (by decide) ⟨Nat.le_refl _, Nat.le_refl _⟩ (fun H9 locs hk hP1 hS => ?_)
        replace hP := (va_P.app hP1 (pq_kp (pq_P2 hP) (pq_aps (pq_Dx hD)) hk))
        replace hP : va_P g.1 pq_cl (outW g a q18 ++ treeW g b O) H9 := hP
        replace hD : va_D A (outW g a q18 ++ treeW g b O) := pq_adr hD (ad_app (ad_X3 _ _) (ad_X4 _ _))
        clear hk
        generalize H9 = H at hP hS ⊢
        refine lv_aload_n hx hb dX6_writeSubtree_62 rfl (lv_at hl 0 rfl) ?_
        refine lv_aload_n hx hb dX6_writeSubtree_63 rfl (lv_at hl 0 rfl) ?_
        refine lv_iload_n hx hb dX6_writeSubtree_64 rfl (lv_at hl 1 rfl) ?_
        obtain ⟨q20, e19, hf⟩ := pq_bind hf
        refine pq_cV S (c_X4_rightIn l g b O p2 q20 e19) vv_X6_155 hK (pq_P2 hP) rfl rfl rfl rfl rfl hl.1 (Nat.le_of_ble_eq_true rfl) dX6_writeSubtree_65 (by omega) (by decide) ⟨Nat.le_refl _, Nat.le_refl _⟩ ?_
        refine lv_aload_n hx hb dX6_writeSubtree_68 rfl (lv_at hl 2 rfl) ?_
        refine lv_iload_n hx hb dX6_writeSubtree_69 rfl (lv_at hl 3 rfl) ?_
        refine lv_iconst (v := 1) hx hb dX6_writeSubtree_70 (by decide) ?_
        refine lv_iadd hx hb dX6_writeSubtree_71 ?_
        obtain ⟨q22, e21, hf⟩ := pq_bind hf
        refine pq_cSv S (ihd q18 O q20 (p4 + 1) q22 e21) vs_X6_270 hK hP hD hS hA rfl rfl hl.1 (Nat.le_of_ble_eq_true rfl) dX6_writeSubtree_72 (by omega) (by decide) ⟨Nat.le_refl _, Nat.le_refl _⟩ (fun H9 locs hk hP1 hS => ?_)
        replace hP := hP1
        replace hP : va_P g.1 pq_cl (outW g a q22 ++ treeW g b O) H9 := hP
        replace hD : va_D A (outW g a q22 ++ treeW g b O) := pq_adr hD (ad_app (ad_X3 _ _) (ad_X4 _ _))
        clear hk
        generalize H9 = H at hP hS ⊢
        refine lv_aload_n hx hb dX6_writeSubtree_75 rfl (lv_at hl 2 rfl) ?_
        refine lv_bipush (v := 41) hx hb dX6_writeSubtree_76 (by decide) ?_
        obtain ⟨q24, e23, hf⟩ := pq_bind hf
        refine pq_cVv S (c_X3_write l g a q22 41 q24 e23) vv_X6_277 hK (pq_P1 hP) (pq_D1 hD) hS hA rfl rfl rfl rfl rfl hl.1 (Nat.le_of_ble_eq_true rfl) dX6_writeSubtree_78 (by omega) (by decide) ⟨Nat.le_refl _, Nat.le_refl _⟩ (fun H9 locs hk hP1 hS => ?_)
        replace hP := (va_P.app hP1 (pq_kp (pq_P2 hP) (pq_aps (pq_Dx hD)) hk))
        replace hP : va_P g.1 pq_cl (outW g a q24 ++ treeW g b O) H9 := hP
        replace hD : va_D A (outW g a q24 ++ treeW g b O) := pq_adr hD (ad_app (ad_X3 _ _) (ad_X4 _ _))
        clear hk
        generalize H9 = H at hP hS ⊢
        exact hend _ _ _ _ dX6_writeSubtree_81 (by rw [← Option.some.inj hf]; exact hP) hS
      · replace hf := pq_ifn h2 hf
        exact hend _ _ _ _ dX6_writeSubtree_18 (by rw [← Option.some.inj hf]; exact hP) hS
def f_X6_writeTree (T : MainS) : Option (Int32 × (MainS)) :=
    (f_X3_clear T.2.2.2.2.2.2.1).bind fun q2 =>
    (f_X4_topmost T.1.1).bind fun q4 =>
    (f_X6_writeSubtree 40 q2 T.1.1 q4 0).bind fun q6 =>
    some (q6.2, (T.1, T.2.1, T.2.2.1, T.2.2.2.1, T.2.2.2.2.1, T.2.2.2.2.2.1, q6, T.2.2.2.2.2.2.2.1, T.2.2.2.2.2.2.2.2.1, T.2.2.2.2.2.2.2.2.2.1, T.2.2.2.2.2.2.2.2.2.2))
set_option maxHeartbeats 4000000 in
set_option maxRecDepth 100000 in
theorem c_X6_writeTree (l : Launch) (g : pq_g) (a : Nat → Nat) (T : MainS) (r : Int32) (T1 : MainS) (hf : f_X6_writeTree T = some (r, T1)) : pq_Mi l yX6_writeTree cX6_writeTree 1 .int 45 g (mainW g a T) [.ref (a 0)] r (mainW g a T1) := by
  rw [f_X6_writeTree] at hf
  refine pq_Mi.of (own := RX6) (by decide) rfl (Nat.le_of_ble_eq_true rfl) rfl ?_
  intro p e s m below meth c ls Q A S hP hK hD hS hA hl hend
  obtain ⟨hx, hb, hml, hown, hts⟩ := id S
  refine lv_aload_n hx hb dX6_writeTree_0 rfl (lv_at hl 0 rfl) ?_
  refine pq_get S hK hP inX6 0 rfl rfl 6 (by decide) fl_X6_39 rfl (v := .ref (a 150)) rfl dX6_writeTree_1 ?_
  obtain ⟨q2, e1, hf⟩ := pq_bind hf
  refine pq_cVv S (c_X3_clear l g (pq_sh a 150) T.2.2.2.2.2.2.1 q2 e1) vv_X6_267 hK (pq_P2 (pq_P2 (pq_P2 (pq_P2 (pq_P2 (pq_P2 hP)))))) (pq_D2 (pq_D2 (pq_D2 (pq_D2 (pq_D2 (pq_D2 hD)))))) hS hA rfl rfl rfl rfl rfl hl.1 (Nat.le_of_ble_eq_true rfl) dX6_writeTree_4 (by decide) (by decide) ⟨Nat.le_refl _, Nat.le_refl _⟩ (fun H9 locs hk hP1 hS => ?_)
  replace hP := (va_P.app (pq_kp (pq_P1 hP) (pq_ap2 (pq_ap2 (pq_ap2 (pq_ap2 (pq_ap2 (pq_Dx hD)))))) hk) (va_P.app (pq_kp (pq_P1 (pq_P2 hP)) (pq_ap2 (pq_ap2 (pq_ap2 (pq_ap2 (pq_Dx (pq_D2 hD)))))) hk) (va_P.app (pq_kp (pq_P1 (pq_P2 (pq_P2 hP))) (pq_ap2 (pq_ap2 (pq_ap2 (pq_Dx (pq_D2 (pq_D2 hD)))))) hk) (va_P.app (pq_kp (pq_P1 (pq_P2 (pq_P2 (pq_P2 hP)))) (pq_ap2 (pq_ap2 (pq_Dx (pq_D2 (pq_D2 (pq_D2 hD)))))) hk) (va_P.app (pq_kp (pq_P1 (pq_P2 (pq_P2 (pq_P2 (pq_P2 hP))))) (pq_ap2 (pq_Dx (pq_D2 (pq_D2 (pq_D2 (pq_D2 hD)))))) hk) (va_P.app (pq_kp (pq_P1 (pq_P2 (pq_P2 (pq_P2 (pq_P2 (pq_P2 hP)))))) (pq_Dx (pq_D2 (pq_D2 (pq_D2 (pq_D2 (pq_D2 hD)))))) hk) hP1))))))
  replace hP : va_P g.1 pq_cl (mainW g a (T.1, T.2.1, T.2.2.1, T.2.2.2.1, T.2.2.2.2.1, T.2.2.2.2.2.1, q2, T.2.2.2.2.2.2.2.1, T.2.2.2.2.2.2.2.2.1, T.2.2.2.2.2.2.2.2.2.1, T.2.2.2.2.2.2.2.2.2.2)) H9 := hP
  replace hD : va_D A (mainW g a (T.1, T.2.1, T.2.2.1, T.2.2.2.1, T.2.2.2.2.1, T.2.2.2.2.2.1, q2, T.2.2.2.2.2.2.2.1, T.2.2.2.2.2.2.2.2.1, T.2.2.2.2.2.2.2.2.2.1, T.2.2.2.2.2.2.2.2.2.2)) := pq_adr hD (ad_X6 _ _)
  clear hk
  generalize H9 = H at hP hS ⊢
  refine lv_aload_n hx hb dX6_writeTree_7 rfl (lv_at hl 0 rfl) ?_
  refine pq_get S hK hP inX6 0 rfl rfl 0 (by decide) fl_X6_12 rfl (v := .ref (a 1)) rfl dX6_writeTree_8 ?_
  refine pq_getN S hK (pq_P1 (pq_P2 hP)) inX1 0 rfl rfl 0 (by decide) (List.mem_of_getElem? (i := 3) rfl) rfl (v := .ref (a 2)) rfl dX6_writeTree_11 ?_
  refine lv_aload_n hx hb dX6_writeTree_14 rfl (lv_at hl 0 rfl) ?_
  refine pq_get S hK hP inX6 0 rfl rfl 0 (by decide) fl_X6_12 rfl (v := .ref (a 1)) rfl dX6_writeTree_15 ?_
  refine pq_getN S hK (pq_P1 (pq_P2 hP)) inX1 0 rfl rfl 0 (by decide) (List.mem_of_getElem? (i := 3) rfl) rfl (v := .ref (a 2)) rfl dX6_writeTree_18 ?_
  obtain ⟨q4, e3, hf⟩ := pq_bind hf
  refine pq_cV S (c_X4_topmost l g (pq_sh (pq_sh a 1) 1) T.1.1 q4 e3) vv_X6_149 hK (pq_P1 (pq_P2 (pq_P1 (pq_P2 hP)))) rfl rfl rfl rfl rfl hl.1 (Nat.le_of_ble_eq_true rfl) dX6_writeTree_21 (by decide) (by decide) ⟨Nat.le_refl _, Nat.le_refl _⟩ ?_
  refine lv_aload_n hx hb dX6_writeTree_24 rfl (lv_at hl 0 rfl) ?_
  refine pq_get S hK hP inX6 0 rfl rfl 6 (by decide) fl_X6_39 rfl (v := .ref (a 150)) rfl dX6_writeTree_25 ?_
  refine lv_iconst (v := 0) hx hb dX6_writeTree_28 (by decide) ?_
  obtain ⟨q6, e5, hf⟩ := pq_bind hf
  refine pq_cSv S (c_X6_writeSubtree l g (pq_sh a 150) (pq_sh (pq_sh a 1) 1) 40 q2 T.1.1 q4 0 q6 e5) vs_X6_270 hK (va_P.app (pq_P2 (pq_P2 (pq_P2 (pq_P2 (pq_P2 (pq_P2 hP)))))) (pq_P1 (pq_P2 (pq_P1 (pq_P2 hP))))) (pq_Da (pq_D2 (pq_D2 (pq_D2 (pq_D2 (pq_D2 (pq_D2 hD)))))) (pq_D1 (pq_D2 (pq_D1 (pq_D2 hD)))) (pq_aps (pq_ap2 (pq_ap2 (pq_ap2 (pq_ap2 (pq_apl1 (pq_apl2 (pq_Dx (pq_D2 hD)))))))))) hS hA rfl rfl hl.1 (Nat.le_of_ble_eq_true rfl) dX6_writeTree_29 (by decide) (by decide) ⟨Nat.le_refl _, Nat.le_refl _⟩ (fun H9 locs hk hP1 hS => ?_)
  replace hP := (va_P.app (pq_kp (pq_P1 hP) (pq_apA (pq_ap2 (pq_ap2 (pq_ap2 (pq_ap2 (pq_ap2 (pq_Dx hD)))))) (pq_ap1 (pq_ap2 (pq_ap1 (pq_Dx hD))))) hk) (va_P.app (va_P.app (pq_kp (pq_P1 (pq_P1 (pq_P2 hP))) (pq_apA (pq_ap2 (pq_ap2 (pq_ap2 (pq_ap2 (pq_apl1 (pq_Dx (pq_D2 hD))))))) (pq_ap1 (pq_Dx (pq_D1 (pq_D2 hD))))) hk) (va_P.app (pq_P2 hP1) (pq_kp (pq_P2 (pq_P2 (pq_P1 (pq_P2 hP)))) (pq_apA (pq_ap2 (pq_ap2 (pq_ap2 (pq_ap2 (pq_apl2 (pq_apl2 (pq_Dx (pq_D2 hD)))))))) (pq_aps (pq_Dx (pq_D2 (pq_D1 (pq_D2 hD)))))) hk))) (va_P.app (pq_kp (pq_P1 (pq_P2 (pq_P2 hP))) (pq_apA (pq_ap2 (pq_ap2 (pq_ap2 (pq_Dx (pq_D2 (pq_D2 hD)))))) (pq_aps (pq_ap1 (pq_apl1 (pq_apl2 (pq_Dx (pq_D2 hD))))))) hk) (va_P.app (pq_kp (pq_P1 (pq_P2 (pq_P2 (pq_P2 hP)))) (pq_apA (pq_ap2 (pq_ap2 (pq_Dx (pq_D2 (pq_D2 (pq_D2 hD)))))) (pq_aps (pq_ap1 (pq_ap2 (pq_apl1 (pq_apl2 (pq_Dx (pq_D2 hD)))))))) hk) (va_P.app (pq_kp (pq_P1 (pq_P2 (pq_P2 (pq_P2 (pq_P2 hP))))) (pq_apA (pq_ap2 (pq_Dx (pq_D2 (pq_D2 (pq_D2 (pq_D2 hD)))))) (pq_aps (pq_ap1 (pq_ap2 (pq_ap2 (pq_apl1 (pq_apl2 (pq_Dx (pq_D2 hD))))))))) hk) (va_P.app (pq_kp (pq_P1 (pq_P2 (pq_P2 (pq_P2 (pq_P2 (pq_P2 hP)))))) (pq_apA (pq_Dx (pq_D2 (pq_D2 (pq_D2 (pq_D2 (pq_D2 hD)))))) (pq_aps (pq_ap1 (pq_ap2 (pq_ap2 (pq_ap2 (pq_apl1 (pq_apl2 (pq_Dx (pq_D2 hD)))))))))) hk) (pq_P1 hP1)))))))
  replace hP : va_P g.1 pq_cl (mainW g a (T.1, T.2.1, T.2.2.1, T.2.2.2.1, T.2.2.2.2.1, T.2.2.2.2.2.1, q6, T.2.2.2.2.2.2.2.1, T.2.2.2.2.2.2.2.2.1, T.2.2.2.2.2.2.2.2.2.1, T.2.2.2.2.2.2.2.2.2.2)) H9 := hP
  replace hD : va_D A (mainW g a (T.1, T.2.1, T.2.2.1, T.2.2.2.1, T.2.2.2.2.1, T.2.2.2.2.2.1, q6, T.2.2.2.2.2.2.2.1, T.2.2.2.2.2.2.2.2.1, T.2.2.2.2.2.2.2.2.2.1, T.2.2.2.2.2.2.2.2.2.2)) := pq_adr hD (ad_X6 _ _)
  clear hk
  generalize H9 = H at hP hS ⊢
  refine lv_aload_n hx hb dX6_writeTree_32 rfl (lv_at hl 0 rfl) ?_
  refine pq_get S hK hP inX6 0 rfl rfl 6 (by decide) fl_X6_39 rfl (v := .ref (a 150)) rfl dX6_writeTree_33 ?_
  refine pq_getN S hK (pq_P2 (pq_P2 (pq_P2 (pq_P2 (pq_P2 (pq_P2 hP)))))) inX3 0 rfl rfl 1 (by decide) (List.mem_of_getElem? (i := 5) rfl) rfl (v := .int q6.2) rfl dX6_writeTree_36 ?_
  obtain ⟨h8, h9⟩ := pq_pair hf
  exact hend _ _ _ _ _ dX6_writeTree_39 rfl h8 (by rw [← h9]; exact hP) hS
def f_X6_writeWindow_c47 (k23 : MainS → Int32 → Int32 → Int32 → Option ((String ⊕ Int32) × MainS)) (T : MainS) (v1 : Int32) (v2 : Int32) (v3 : Int32) : Option ((String ⊕ Int32) × MainS) :=
    (f_X1_slotInWindow T.1 v1 v3).bind fun q2 =>
    (f_X4_keyIn T.1.1 q2).bind fun q4 =>
    (f_X3_writeNumber T.2.2.2.2.2.2.1 q4).bind fun q6 =>
    k23 (T.1, T.2.1, T.2.2.1, T.2.2.2.1, T.2.2.2.2.1, T.2.2.2.2.2.1, q6, T.2.2.2.2.2.2.2.1, T.2.2.2.2.2.2.2.2.1, T.2.2.2.2.2.2.2.2.2.1, T.2.2.2.2.2.2.2.2.2.2) v1 v2 (v3 + 1)
def f_X6_writeWindow_c23 : Nat → MainS → Int32 → Int32 → Int32 → Option ((String ⊕ Int32) × MainS)
  | 0, _, _, _, _ => none
  | n + 1, T, v1, v2, v3 =>
    if v2 ≤ v3 then
      some (.inr T.2.2.2.2.2.2.1.2, T)
    else
      if 24 ≤ v3 then
        some (.inr T.2.2.2.2.2.2.1.2, T)
      else
        if v3 ≤ 0 then
          f_X6_writeWindow_c47 (f_X6_writeWindow_c23 n) T v1 v2 v3
        else
          (f_X3_write T.2.2.2.2.2.2.1 44).bind fun q11 =>
          f_X6_writeWindow_c47 (f_X6_writeWindow_c23 n) (T.1, T.2.1, T.2.2.1, T.2.2.2.1, T.2.2.2.2.1, T.2.2.2.2.2.1, q11, T.2.2.2.2.2.2.2.1, T.2.2.2.2.2.2.2.2.1, T.2.2.2.2.2.2.2.2.2.1, T.2.2.2.2.2.2.2.2.2.2) v1 v2 v3
def f_X6_writeWindow (T : MainS) (p1 : Int32) : Option ((String ⊕ Int32) × MainS) :=
    pq_tr (f_X6_requireOpenWindow T p1) fun q12 T14 =>
    (f_X3_clear T14.2.2.2.2.2.2.1).bind fun q16 =>
    (f_X1_countInWindow T14.1 p1).bind fun q18 =>
    f_X6_writeWindow_c23 200 (T14.1, T14.2.1, T14.2.2.1, T14.2.2.2.1, T14.2.2.2.2.1, T14.2.2.2.2.2.1, q16, T14.2.2.2.2.2.2.2.1, T14.2.2.2.2.2.2.2.2.1, T14.2.2.2.2.2.2.2.2.2.1, T14.2.2.2.2.2.2.2.2.2.2) p1 q18 0
set_option maxHeartbeats 4000000 in
set_option maxRecDepth 100000 in
theorem c_X6_writeWindow (l : Launch) (g : pq_g) (a : Nat → Nat) (T : MainS) (p1 : Int32) (hst : l.stackTraces = false) (o : String ⊕ Int32) (T1 : MainS) (hf : f_X6_writeWindow T p1 = some (o, T1)) : pq_X l yX6_writeWindow cX6_writeWindow 4 (some .int) 8 2 g (mainW g a T) [.ref (a 0), .int p1] (pq_oi o) (mainW g a T1) := by
  rw [f_X6_writeWindow] at hf
  refine pq_X.of hst (by decide) rfl (Nat.le_of_ble_eq_true rfl) rfl ?_
  intro p e s m below meth c ls Q A S hP hK hD hS hA hT hl hend hout hthr
  obtain ⟨hx, hb, hml, hown, hts⟩ := id S
  have B23 : ∀ (n23 : Nat) (T : MainS) (v1 : Int32) (v2 : Int32) (v3 : Int32) (ls : Array Slot) (H : Heap) (locs : List Loc), va_P g.1 pq_cl (mainW g a T) H → va_D A (mainW g a T) → va_S A s.heap H locs → lv_has ls 4 [(0, .ref (a 0)), (1, .int v1), (2, .int v2), (3, .int v3)] → f_X6_writeWindow_c23 n23 T v1 v2 v3 = some (o, T1) → W p l e (pq_rm 8 2 (6 * 2)) s m ([.ref (a 0), .int p1] : List Value).toArray below meth c H locs 2 (6 * 2) Q (F0 m 23 ls []) := by
    intro n23
    induction n23 with
    | zero =>
      intro T v1 v2 v3 ls H locs hP hD hS hl hf
      exact absurd hf (by simp [f_X6_writeWindow_c23])
    | succ n23 ih23 =>
      have B47 : ∀ (T : MainS) (v1 : Int32) (v2 : Int32) (v3 : Int32) (ls : Array Slot) (H : Heap) (locs : List Loc), va_P g.1 pq_cl (mainW g a T) H → va_D A (mainW g a T) → va_S A s.heap H locs → lv_has ls 4 [(0, .ref (a 0)), (1, .int v1), (2, .int v2), (3, .int v3)] → f_X6_writeWindow_c47 (f_X6_writeWindow_c23 n23) T v1 v2 v3 = some (o, T1) → W p l e (pq_rm 8 2 (6 * 2)) s m ([.ref (a 0), .int p1] : List Value).toArray below meth c H locs 2 (6 * 2) Q (F0 m 47 ls []) := by
        intro T v1 v2 v3 ls H locs hP hD hS hl hf
        rw [f_X6_writeWindow_c47] at hf
        refine lv_aload_n hx hb dX6_writeWindow_47 rfl (lv_at hl 0 rfl) ?_
        refine pq_get S hK hP inX6 0 rfl rfl 6 (by decide) fl_X6_39 rfl (v := .ref (a 150)) rfl dX6_writeWindow_48 ?_
        refine lv_aload_n hx hb dX6_writeWindow_51 rfl (lv_at hl 0 rfl) ?_
        refine pq_get S hK hP inX6 0 rfl rfl 0 (by decide) fl_X6_12 rfl (v := .ref (a 1)) rfl dX6_writeWindow_52 ?_
        refine pq_getN S hK (pq_P1 (pq_P2 hP)) inX1 0 rfl rfl 0 (by decide) (List.mem_of_getElem? (i := 3) rfl) rfl (v := .ref (a 2)) rfl dX6_writeWindow_55 ?_
        refine lv_aload_n hx hb dX6_writeWindow_58 rfl (lv_at hl 0 rfl) ?_
        refine pq_get S hK hP inX6 0 rfl rfl 0 (by decide) fl_X6_12 rfl (v := .ref (a 1)) rfl dX6_writeWindow_59 ?_
        refine lv_iload_n hx hb dX6_writeWindow_62 rfl (lv_at hl 1 rfl) ?_
        refine lv_iload_n hx hb dX6_writeWindow_63 rfl (lv_at hl 3 rfl) ?_
        obtain ⟨q2, e1, hf⟩ := pq_bind hf
        refine pq_cV S (c_X1_slotInWindow l g (pq_sh a 1) T.1 v1 v3 q2 e1) vv_X6_243 hK (pq_P1 (pq_P2 hP)) rfl rfl rfl rfl rfl hl.1 (Nat.le_of_ble_eq_true rfl) dX6_writeWindow_64 (by decide) (by decide) ⟨by decide, by decide⟩ ?_
        obtain ⟨q4, e3, hf⟩ := pq_bind hf
        refine pq_cV S (c_X4_keyIn l g (pq_sh (pq_sh a 1) 1) T.1.1 q2 q4 e3) vv_X6_140 hK (pq_P1 (pq_P2 (pq_P1 (pq_P2 hP)))) rfl rfl rfl rfl rfl hl.1 (Nat.le_of_ble_eq_true rfl) dX6_writeWindow_67 (by decide) (by decide) ⟨by decide, by decide⟩ ?_
        obtain ⟨q6, e5, hf⟩ := pq_bind hf
        refine pq_cVv S (c_X3_writeNumber l g (pq_sh a 150) T.2.2.2.2.2.2.1 q4 q6 e5) vv_X6_280 hK (pq_P2 (pq_P2 (pq_P2 (pq_P2 (pq_P2 (pq_P2 hP)))))) (pq_D2 (pq_D2 (pq_D2 (pq_D2 (pq_D2 (pq_D2 hD)))))) hS hA rfl rfl rfl rfl rfl hl.1 (Nat.le_of_ble_eq_true rfl) dX6_writeWindow_70 (by decide) (by decide) ⟨by decide, by decide⟩ (fun H9 locs hk hP1 hS => ?_)
        replace hP := (va_P.app (pq_kp (pq_P1 hP) (pq_ap2 (pq_ap2 (pq_ap2 (pq_ap2 (pq_ap2 (pq_Dx hD)))))) hk) (va_P.app (pq_kp (pq_P1 (pq_P2 hP)) (pq_ap2 (pq_ap2 (pq_ap2 (pq_ap2 (pq_Dx (pq_D2 hD)))))) hk) (va_P.app (pq_kp (pq_P1 (pq_P2 (pq_P2 hP))) (pq_ap2 (pq_ap2 (pq_ap2 (pq_Dx (pq_D2 (pq_D2 hD)))))) hk) (va_P.app (pq_kp (pq_P1 (pq_P2 (pq_P2 (pq_P2 hP)))) (pq_ap2 (pq_ap2 (pq_Dx (pq_D2 (pq_D2 (pq_D2 hD)))))) hk) (va_P.app (pq_kp (pq_P1 (pq_P2 (pq_P2 (pq_P2 (pq_P2 hP))))) (pq_ap2 (pq_Dx (pq_D2 (pq_D2 (pq_D2 (pq_D2 hD)))))) hk) (va_P.app (pq_kp (pq_P1 (pq_P2 (pq_P2 (pq_P2 (pq_P2 (pq_P2 hP)))))) (pq_Dx (pq_D2 (pq_D2 (pq_D2 (pq_D2 (pq_D2 hD)))))) hk) hP1))))))
        replace hP : va_P g.1 pq_cl (mainW g a (T.1, T.2.1, T.2.2.1, T.2.2.2.1, T.2.2.2.2.1, T.2.2.2.2.2.1, q6, T.2.2.2.2.2.2.2.1, T.2.2.2.2.2.2.2.2.1, T.2.2.2.2.2.2.2.2.2.1, T.2.2.2.2.2.2.2.2.2.2)) H9 := hP
        replace hD : va_D A (mainW g a (T.1, T.2.1, T.2.2.1, T.2.2.2.1, T.2.2.2.2.1, T.2.2.2.2.2.1, q6, T.2.2.2.2.2.2.2.1, T.2.2.2.2.2.2.2.2.1, T.2.2.2.2.2.2.2.2.2.1, T.2.2.2.2.2.2.2.2.2.2)) := pq_adr hD (ad_X6 _ _)
        clear hk
        generalize H9 = H at hP hS ⊢
        refine lv_iinc (v := (v3 + 1)) (lv' := [(3, .int (v3 + 1)), (0, .ref (a 0)), (1, .int v1), (2, .int v2)]) hx hb dX6_writeWindow_73 hl (k := 3) rfl rfl (by decide) rfl (fun ls hl => ?_)
        refine lv_goto (tgt := 23) hx hb dX6_writeWindow_76 (by decide) ?_
        exact W.widen (by decide) (by decide) (ih23 (T.1, T.2.1, T.2.2.1, T.2.2.2.1, T.2.2.2.2.1, T.2.2.2.2.2.1, q6, T.2.2.2.2.2.2.2.1, T.2.2.2.2.2.2.2.2.1, T.2.2.2.2.2.2.2.2.2.1, T.2.2.2.2.2.2.2.2.2.2) v1 v2 (v3 + 1) ls _ _ hP hD hS (lv_sub hl [1, 2, 3, 0] rfl) hf)
      intro T v1 v2 v3 ls H locs hP hD hS hl hf
      rw [f_X6_writeWindow_c23] at hf
      refine lv_iload_n hx hb dX6_writeWindow_23 rfl (lv_at hl 3 rfl) ?_
      refine lv_iload_n hx hb dX6_writeWindow_24 rfl (lv_at hl 2 rfl) ?_
      refine lv_icmp_ge (tgt := 79) hx hb dX6_writeWindow_25 (by decide) (fun h7 => ?_) (fun h7 => ?_)
      · replace hf := pq_ifp h7 hf
        refine lv_aload_n hx hb dX6_writeWindow_79 rfl (lv_at hl 0 rfl) ?_
        refine pq_get S hK hP inX6 0 rfl rfl 6 (by decide) fl_X6_39 rfl (v := .ref (a 150)) rfl dX6_writeWindow_80 ?_
        refine pq_getN S hK (pq_P2 (pq_P2 (pq_P2 (pq_P2 (pq_P2 (pq_P2 hP)))))) inX3 0 rfl rfl 1 (by decide) (List.mem_of_getElem? (i := 5) rfl) rfl (v := .int T.2.2.2.2.2.2.1.2) rfl dX6_writeWindow_83 ?_
        obtain ⟨h8, h9⟩ := pq_pair hf
        exact hend 86 ls _ _ _ _ _ _ (Or.inl ⟨_, .int, rfl, rfl, dX6_writeWindow_86, rfl, rfl⟩) (by subst h8; rfl) (by subst h9; exact hP) hS (by decide) (by decide)
      · replace hf := pq_ifn h7 hf
        refine lv_iload_n hx hb dX6_writeWindow_28 rfl (lv_at hl 3 rfl) ?_
        refine lv_bipush (v := 24) hx hb dX6_writeWindow_29 (by decide) ?_
        refine lv_icmp_ge (tgt := 79) hx hb dX6_writeWindow_31 (by decide) (fun h8 => ?_) (fun h8 => ?_)
        · replace hf := pq_ifp h8 hf
          refine lv_aload_n hx hb dX6_writeWindow_79 rfl (lv_at hl 0 rfl) ?_
          refine pq_get S hK hP inX6 0 rfl rfl 6 (by decide) fl_X6_39 rfl (v := .ref (a 150)) rfl dX6_writeWindow_80 ?_
          refine pq_getN S hK (pq_P2 (pq_P2 (pq_P2 (pq_P2 (pq_P2 (pq_P2 hP)))))) inX3 0 rfl rfl 1 (by decide) (List.mem_of_getElem? (i := 5) rfl) rfl (v := .int T.2.2.2.2.2.2.1.2) rfl dX6_writeWindow_83 ?_
          obtain ⟨h8, h9⟩ := pq_pair hf
          exact hend 86 ls _ _ _ _ _ _ (Or.inl ⟨_, .int, rfl, rfl, dX6_writeWindow_86, rfl, rfl⟩) (by subst h8; rfl) (by subst h9; exact hP) hS (by decide) (by decide)
        · replace hf := pq_ifn h8 hf
          refine lv_iload_n hx hb dX6_writeWindow_34 rfl (lv_at hl 3 rfl) ?_
          refine lv_if_le (tgt := 47) hx hb dX6_writeWindow_35 (by decide) (fun h9 => ?_) (fun h9 => ?_)
          · replace hf := pq_ifp h9 hf
            exact W.widen (by decide) (by decide) (B47 T v1 v2 v3 ls _ _ hP hD hS (lv_sub hl [0, 1, 2, 3] rfl) hf)
          · replace hf := pq_ifn h9 hf
            refine lv_aload_n hx hb dX6_writeWindow_38 rfl (lv_at hl 0 rfl) ?_
            refine pq_get S hK hP inX6 0 rfl rfl 6 (by decide) fl_X6_39 rfl (v := .ref (a 150)) rfl dX6_writeWindow_39 ?_
            refine lv_bipush (v := 44) hx hb dX6_writeWindow_42 (by decide) ?_
            obtain ⟨q11, e10, hf⟩ := pq_bind hf
            refine pq_cVv S (c_X3_write l g (pq_sh a 150) T.2.2.2.2.2.2.1 44 q11 e10) vv_X6_277 hK (pq_P2 (pq_P2 (pq_P2 (pq_P2 (pq_P2 (pq_P2 hP)))))) (pq_D2 (pq_D2 (pq_D2 (pq_D2 (pq_D2 (pq_D2 hD)))))) hS hA rfl rfl rfl rfl rfl hl.1 (Nat.le_of_ble_eq_true rfl) dX6_writeWindow_44 (by decide) (by decide) ⟨by decide, by decide⟩ (fun H9 locs hk hP1 hS => ?_)
            replace hP := (va_P.app (pq_kp (pq_P1 hP) (pq_ap2 (pq_ap2 (pq_ap2 (pq_ap2 (pq_ap2 (pq_Dx hD)))))) hk) (va_P.app (pq_kp (pq_P1 (pq_P2 hP)) (pq_ap2 (pq_ap2 (pq_ap2 (pq_ap2 (pq_Dx (pq_D2 hD)))))) hk) (va_P.app (pq_kp (pq_P1 (pq_P2 (pq_P2 hP))) (pq_ap2 (pq_ap2 (pq_ap2 (pq_Dx (pq_D2 (pq_D2 hD)))))) hk) (va_P.app (pq_kp (pq_P1 (pq_P2 (pq_P2 (pq_P2 hP)))) (pq_ap2 (pq_ap2 (pq_Dx (pq_D2 (pq_D2 (pq_D2 hD)))))) hk) (va_P.app (pq_kp (pq_P1 (pq_P2 (pq_P2 (pq_P2 (pq_P2 hP))))) (pq_ap2 (pq_Dx (pq_D2 (pq_D2 (pq_D2 (pq_D2 hD)))))) hk) (va_P.app (pq_kp (pq_P1 (pq_P2 (pq_P2 (pq_P2 (pq_P2 (pq_P2 hP)))))) (pq_Dx (pq_D2 (pq_D2 (pq_D2 (pq_D2 (pq_D2 hD)))))) hk) hP1))))))
            replace hP : va_P g.1 pq_cl (mainW g a (T.1, T.2.1, T.2.2.1, T.2.2.2.1, T.2.2.2.2.1, T.2.2.2.2.2.1, q11, T.2.2.2.2.2.2.2.1, T.2.2.2.2.2.2.2.2.1, T.2.2.2.2.2.2.2.2.2.1, T.2.2.2.2.2.2.2.2.2.2)) H9 := hP
            replace hD : va_D A (mainW g a (T.1, T.2.1, T.2.2.1, T.2.2.2.1, T.2.2.2.2.1, T.2.2.2.2.2.1, q11, T.2.2.2.2.2.2.2.1, T.2.2.2.2.2.2.2.2.1, T.2.2.2.2.2.2.2.2.2.1, T.2.2.2.2.2.2.2.2.2.2)) := pq_adr hD (ad_X6 _ _)
            clear hk
            generalize H9 = H at hP hS ⊢
            exact W.widen (by decide) (by decide) (B47 (T.1, T.2.1, T.2.2.1, T.2.2.2.1, T.2.2.2.2.1, T.2.2.2.2.2.1, q11, T.2.2.2.2.2.2.2.1, T.2.2.2.2.2.2.2.2.1, T.2.2.2.2.2.2.2.2.2.1, T.2.2.2.2.2.2.2.2.2.2) v1 v2 v3 ls _ _ hP hD hS (lv_sub hl [0, 1, 2, 3] rfl) hf)
  refine lv_aload_n hx hb dX6_writeWindow_0 rfl (lv_at hl 0 rfl) ?_
  refine lv_iload_n hx hb dX6_writeWindow_1 rfl (lv_at hl 1 rfl) ?_
  rcases pq_trE hf with ⟨E0, T14, e13, hz⟩ | ⟨q12, T14, e13, hf⟩
  · exact pq_cXV S (c_X6_requireOpenWindow l g a T p1 hst (.inl E0) T14 e13) vv_X6_231 hK hT hP hD hS hA rfl rfl rfl rfl rfl hl.1 (Nat.le_of_ble_eq_true rfl) dX6_writeWindow_2 (by decide) (by decide) ⟨by decide, by decide⟩ (fun E ce q9 H1 locs1 hE hk hP1 hS1 hce hcv hcl => hout _ ls _ H1 locs1 _ _ E ce q9 (by rw [(Prod.mk.inj hz).1]; exact hE) (by rw [(Prod.mk.inj hz).2]; exact hP1) hS1 hce hcv hcl (by decide) (by decide)) (fun v H1 l1 h9 => by cases h9)
  refine pq_cXV S (c_X6_requireOpenWindow l g a T p1 hst (.inr q12) T14 e13) vv_X6_231 hK hT hP hD hS hA rfl rfl rfl rfl rfl hl.1 (Nat.le_of_ble_eq_true rfl) dX6_writeWindow_2 (by decide) (by decide) ⟨by decide, by decide⟩ (fun E ce q9 H1 l1 h9 => by cases h9) (fun v H9 locs hv hk hP1 hS => ?_)
  obtain rfl : v = none := (Sum.inr.inj hv).symm
  change W _ _ _ _ _ _ _ _ _ _ _ _ _ _ _ (F0 _ _ _ [])
  replace hP := hP1
  replace hP : va_P g.1 pq_cl (mainW g a T14) H9 := hP
  replace hD : va_D A (mainW g a T14) := pq_adr hD (ad_X6 _ _)
  clear hk
  generalize H9 = H at hP hS ⊢
  refine lv_aload_n hx hb dX6_writeWindow_5 rfl (lv_at hl 0 rfl) ?_
  refine pq_get S hK hP inX6 0 rfl rfl 6 (by decide) fl_X6_39 rfl (v := .ref (a 150)) rfl dX6_writeWindow_6 ?_
  obtain ⟨q16, e15, hf⟩ := pq_bind hf
  refine pq_cVv S (c_X3_clear l g (pq_sh a 150) T14.2.2.2.2.2.2.1 q16 e15) vv_X6_267 hK (pq_P2 (pq_P2 (pq_P2 (pq_P2 (pq_P2 (pq_P2 hP)))))) (pq_D2 (pq_D2 (pq_D2 (pq_D2 (pq_D2 (pq_D2 hD)))))) hS hA rfl rfl rfl rfl rfl hl.1 (Nat.le_of_ble_eq_true rfl) dX6_writeWindow_9 (by decide) (by decide) ⟨by decide, by decide⟩ (fun H9 locs hk hP1 hS => ?_)
  replace hP := (va_P.app (pq_kp (pq_P1 hP) (pq_ap2 (pq_ap2 (pq_ap2 (pq_ap2 (pq_ap2 (pq_Dx hD)))))) hk) (va_P.app (pq_kp (pq_P1 (pq_P2 hP)) (pq_ap2 (pq_ap2 (pq_ap2 (pq_ap2 (pq_Dx (pq_D2 hD)))))) hk) (va_P.app (pq_kp (pq_P1 (pq_P2 (pq_P2 hP))) (pq_ap2 (pq_ap2 (pq_ap2 (pq_Dx (pq_D2 (pq_D2 hD)))))) hk) (va_P.app (pq_kp (pq_P1 (pq_P2 (pq_P2 (pq_P2 hP)))) (pq_ap2 (pq_ap2 (pq_Dx (pq_D2 (pq_D2 (pq_D2 hD)))))) hk) (va_P.app (pq_kp (pq_P1 (pq_P2 (pq_P2 (pq_P2 (pq_P2 hP))))) (pq_ap2 (pq_Dx (pq_D2 (pq_D2 (pq_D2 (pq_D2 hD)))))) hk) (va_P.app (pq_kp (pq_P1 (pq_P2 (pq_P2 (pq_P2 (pq_P2 (pq_P2 hP)))))) (pq_Dx (pq_D2 (pq_D2 (pq_D2 (pq_D2 (pq_D2 hD)))))) hk) hP1))))))
  replace hP : va_P g.1 pq_cl (mainW g a (T14.1, T14.2.1, T14.2.2.1, T14.2.2.2.1, T14.2.2.2.2.1, T14.2.2.2.2.2.1, q16, T14.2.2.2.2.2.2.2.1, T14.2.2.2.2.2.2.2.2.1, T14.2.2.2.2.2.2.2.2.2.1, T14.2.2.2.2.2.2.2.2.2.2)) H9 := hP
  replace hD : va_D A (mainW g a (T14.1, T14.2.1, T14.2.2.1, T14.2.2.2.1, T14.2.2.2.2.1, T14.2.2.2.2.2.1, q16, T14.2.2.2.2.2.2.2.1, T14.2.2.2.2.2.2.2.2.1, T14.2.2.2.2.2.2.2.2.2.1, T14.2.2.2.2.2.2.2.2.2.2)) := pq_adr hD (ad_X6 _ _)
  clear hk
  generalize H9 = H at hP hS ⊢
  refine lv_aload_n hx hb dX6_writeWindow_12 rfl (lv_at hl 0 rfl) ?_
  refine pq_get S hK hP inX6 0 rfl rfl 0 (by decide) fl_X6_12 rfl (v := .ref (a 1)) rfl dX6_writeWindow_13 ?_
  refine lv_iload_n hx hb dX6_writeWindow_16 rfl (lv_at hl 1 rfl) ?_
  obtain ⟨q18, e17, hf⟩ := pq_bind hf
  refine pq_cV S (c_X1_countInWindow l g (pq_sh a 1) T14.1 p1 q18 e17) vv_X6_228 hK (pq_P1 (pq_P2 hP)) rfl rfl rfl rfl rfl hl.1 (Nat.le_of_ble_eq_true rfl) dX6_writeWindow_17 (by decide) (by decide) ⟨by decide, by decide⟩ ?_
  refine lv_istore_n (lv' := [(2, .int q18), (0, .ref (a 0)), (1, .int p1)]) hx hb dX6_writeWindow_20 rfl hl (by decide) rfl (fun ls hl => ?_)
  refine lv_iconst (v := 0) hx hb dX6_writeWindow_21 (by decide) ?_
  refine lv_istore_n (lv' := [(3, .int 0), (2, .int q18), (0, .ref (a 0)), (1, .int p1)]) hx hb dX6_writeWindow_22 rfl hl (by decide) rfl (fun ls hl => ?_)
  exact W.widen (by decide) (by decide) (B23 200 (T14.1, T14.2.1, T14.2.2.1, T14.2.2.2.1, T14.2.2.2.2.1, T14.2.2.2.2.2.1, q16, T14.2.2.2.2.2.2.2.1, T14.2.2.2.2.2.2.2.2.1, T14.2.2.2.2.2.2.2.2.2.1, T14.2.2.2.2.2.2.2.2.2.2) p1 q18 0 ls _ _ hP hD hS (lv_sub hl [2, 3, 1, 0] rfl) hf)
def f_X6_outputAt (T : MainS) (p1 : Int32) : Option ((String ⊕ Int32) × MainS) :=
    if p1 < 0 then
      some (.inl "java/lang/IndexOutOfBoundsException", T)
    else
      if p1 < T.2.2.2.2.2.2.1.2 then
        (f_X3_characterAt T.2.2.2.2.2.2.1 p1).bind fun q4 =>
        if vp_nar .char ((q4.toUInt32 % 65536).toInt32) = (q4.toUInt32 % 65536).toInt32 then
          some (.inr ((q4.toUInt32 % 65536).toInt32), T)
        else none
      else
        some (.inl "java/lang/IndexOutOfBoundsException", T)
set_option maxHeartbeats 4000000 in
set_option maxRecDepth 100000 in
theorem c_X6_outputAt (l : Launch) (g : pq_g) (a : Nat → Nat) (T : MainS) (p1 : Int32) (hst : l.stackTraces = false) (o : String ⊕ Int32) (T1 : MainS) (hf : f_X6_outputAt T p1 = some (o, T1)) : pq_X l yX6_outputAt cX6_outputAt 2 (some .char) 6 1 g (mainW g a T) [.ref (a 0), .int p1] (pq_oi o) (mainW g a T1) := by
  rw [f_X6_outputAt] at hf
  refine pq_X.of hst (by decide) rfl (Nat.le_of_ble_eq_true rfl) rfl ?_
  intro p e s m below meth c ls Q A S hP hK hD hS hA hT hl hend hout hthr
  obtain ⟨hx, hb, hml, hown, hts⟩ := id S
  refine lv_iload_n hx hb dX6_outputAt_0 rfl (lv_at hl 1 rfl) ?_
  refine lv_if_lt (tgt := 15) hx hb dX6_outputAt_1 (by decide) (fun h1 => ?_) (fun h1 => ?_)
  · replace hf := pq_ifp h1 hf
    obtain ⟨h8, h9⟩ := pq_pair hf
    exact hthr 15 ls _ _ _ _ "java/lang/IndexOutOfBoundsException" _ 283 285 287 vt_283_287 (List.mem_of_getElem? (i := 13) rfl) dX6_outputAt_15 dX6_outputAt_18 (Or.inr ⟨dX6_outputAt_19, dX6_outputAt_22, dX6_outputAt_25⟩) (by subst h8; rfl) (by subst h9; exact hP) hS hl.1 (by decide) (by decide) (by decide)
  · replace hf := pq_ifn h1 hf
    refine lv_iload_n hx hb dX6_outputAt_4 rfl (lv_at hl 1 rfl) ?_
    refine lv_aload_n hx hb dX6_outputAt_5 rfl (lv_at hl 0 rfl) ?_
    refine pq_get S hK hP inX6 0 rfl rfl 6 (by decide) fl_X6_39 rfl (v := .ref (a 150)) rfl dX6_outputAt_6 ?_
    refine pq_getN S hK (pq_P2 (pq_P2 (pq_P2 (pq_P2 (pq_P2 (pq_P2 hP)))))) inX3 0 rfl rfl 1 (by decide) (List.mem_of_getElem? (i := 5) rfl) rfl (v := .int T.2.2.2.2.2.2.1.2) rfl dX6_outputAt_9 ?_
    refine lv_icmp_lt (tgt := 26) hx hb dX6_outputAt_12 (by decide) (fun h2 => ?_) (fun h2 => ?_)
    · replace hf := pq_ifp h2 hf
      refine lv_aload_n hx hb dX6_outputAt_26 rfl (lv_at hl 0 rfl) ?_
      refine pq_get S hK hP inX6 0 rfl rfl 6 (by decide) fl_X6_39 rfl (v := .ref (a 150)) rfl dX6_outputAt_27 ?_
      refine lv_iload_n hx hb dX6_outputAt_30 rfl (lv_at hl 1 rfl) ?_
      obtain ⟨q4, e3, hf⟩ := pq_bind hf
      refine pq_cV S (c_X3_characterAt l g (pq_sh a 150) T.2.2.2.2.2.2.1 p1 q4 e3) vv_X6_288 hK (pq_P2 (pq_P2 (pq_P2 (pq_P2 (pq_P2 (pq_P2 hP)))))) rfl rfl rfl rfl rfl hl.1 (Nat.le_of_ble_eq_true rfl) dX6_outputAt_31 (by decide) (by decide) ⟨by decide, by decide⟩ ?_
      refine lv_i2c hx hb dX6_outputAt_34 rfl ?_
      by_cases h5 : vp_nar .char ((q4.toUInt32 % 65536).toInt32) = (q4.toUInt32 % 65536).toInt32
      case neg => exact absurd (pq_ifn h5 hf) (fun h9 => by cases h9)
      replace hf := pq_ifp h5 hf
      obtain ⟨h8, h9⟩ := pq_pair hf
      exact hend 35 ls _ _ _ _ _ _ (Or.inl ⟨_, .char, rfl, (pq_nch h5), dX6_outputAt_35, rfl, rfl⟩) (by subst h8; rfl) (by subst h9; exact hP) hS (by decide) (by decide)
    · replace hf := pq_ifn h2 hf
      obtain ⟨h8, h9⟩ := pq_pair hf
      exact hthr 15 ls _ _ _ _ "java/lang/IndexOutOfBoundsException" _ 283 285 287 vt_283_287 (List.mem_of_getElem? (i := 13) rfl) dX6_outputAt_15 dX6_outputAt_18 (Or.inr ⟨dX6_outputAt_19, dX6_outputAt_22, dX6_outputAt_25⟩) (by subst h8; rfl) (by subst h9; exact hP) hS hl.1 (by decide) (by decide) (by decide)
def f_X6_requireRejection (T : MainS) : Option ((String ⊕ Unit) × MainS) :=
    if T.2.2.2.2.2.2.2.2.1 = 0 then
      some (.inl "java/util/NoSuchElementException", T)
    else
      some (.inr (), T)
set_option maxHeartbeats 4000000 in
set_option maxRecDepth 100000 in
theorem c_X6_requireRejection (l : Launch) (g : pq_g) (a : Nat → Nat) (T : MainS) (hst : l.stackTraces = false) (o : String ⊕ Unit) (T1 : MainS) (hf : f_X6_requireRejection T = some (o, T1)) : pq_X l yX6_requireRejection cX6_requireRejection 1 none 6 1 g (mainW g a T) [.ref (a 0)] (pq_ov o) (mainW g a T1) := by
  rw [f_X6_requireRejection] at hf
  refine pq_X.of hst (by decide) rfl (Nat.le_of_ble_eq_true rfl) rfl ?_
  intro p e s m below meth c ls Q A S hP hK hD hS hA hT hl hend hout hthr
  obtain ⟨hx, hb, hml, hown, hts⟩ := id S
  refine lv_aload_n hx hb dX6_requireRejection_0 rfl (lv_at hl 0 rfl) ?_
  refine pq_get S hK hP inX6 0 rfl rfl 8 (by decide) fl_X6_47 rfl (v := .int T.2.2.2.2.2.2.2.2.1) rfl dX6_requireRejection_1 ?_
  refine lv_if_ne (tgt := 18) hx hb dX6_requireRejection_4 (by decide) (fun h1 => ?_) (fun h1 => ?_)
  · replace hf := pq_ifn h1 hf
    obtain ⟨h8, h9⟩ := pq_pair hf
    exact hend 18 ls _ _ _ _ _ _ (Or.inr (Or.inl ⟨rfl, dX6_requireRejection_18, rfl, rfl⟩)) (by subst h8; rfl) (by subst h9; exact hP) hS (by decide) (by decide)
  · replace hf := pq_ifp h1 hf
    obtain ⟨h8, h9⟩ := pq_pair hf
    exact hthr 7 ls _ _ _ _ "java/util/NoSuchElementException" _ 335 379 339 vt_335_339 (List.mem_of_getElem? (i := 8) rfl) dX6_requireRejection_7 dX6_requireRejection_10 (Or.inr ⟨dX6_requireRejection_11, dX6_requireRejection_14, dX6_requireRejection_17⟩) (by subst h8; rfl) (by subst h9; exact hP) hS hl.1 (by decide) (by decide) (by decide)
def f_X6_rejectionReason (T : MainS) : Option ((String ⊕ Int32) × MainS) :=
    pq_tr (f_X6_requireRejection T) fun q1 T3 =>
    some (.inr T3.2.2.2.2.2.2.2.2.1, T3)
set_option maxHeartbeats 4000000 in
set_option maxRecDepth 100000 in
theorem c_X6_rejectionReason (l : Launch) (g : pq_g) (a : Nat → Nat) (T : MainS) (hst : l.stackTraces = false) (o : String ⊕ Int32) (T1 : MainS) (hf : f_X6_rejectionReason T = some (o, T1)) : pq_X l yX6_rejectionReason cX6_rejectionReason 1 (some .int) 7 1 g (mainW g a T) [.ref (a 0)] (pq_oi o) (mainW g a T1) := by
  rw [f_X6_rejectionReason] at hf
  refine pq_X.of hst (by decide) rfl (Nat.le_of_ble_eq_true rfl) rfl ?_
  intro p e s m below meth c ls Q A S hP hK hD hS hA hT hl hend hout hthr
  obtain ⟨hx, hb, hml, hown, hts⟩ := id S
  refine lv_aload_n hx hb dX6_rejectionReason_0 rfl (lv_at hl 0 rfl) ?_
  rcases pq_trE hf with ⟨E0, T3, e2, hz⟩ | ⟨q1, T3, e2, hf⟩
  · exact pq_cXV S (c_X6_requireRejection l g a T hst (.inl E0) T3 e2) vv_X6_340 hK hT hP hD hS hA rfl rfl rfl rfl rfl hl.1 (Nat.le_of_ble_eq_true rfl) dX6_rejectionReason_1 (by decide) (by decide) ⟨by decide, by decide⟩ (fun E ce q9 H1 locs1 hE hk hP1 hS1 hce hcv hcl => hout _ ls _ H1 locs1 _ _ E ce q9 (by rw [(Prod.mk.inj hz).1]; exact hE) (by rw [(Prod.mk.inj hz).2]; exact hP1) hS1 hce hcv hcl (by decide) (by decide)) (fun v H1 l1 h9 => by cases h9)
  refine pq_cXV S (c_X6_requireRejection l g a T hst (.inr q1) T3 e2) vv_X6_340 hK hT hP hD hS hA rfl rfl rfl rfl rfl hl.1 (Nat.le_of_ble_eq_true rfl) dX6_rejectionReason_1 (by decide) (by decide) ⟨by decide, by decide⟩ (fun E ce q9 H1 l1 h9 => by cases h9) (fun v H9 locs hv hk hP1 hS => ?_)
  obtain rfl : v = none := (Sum.inr.inj hv).symm
  change W _ _ _ _ _ _ _ _ _ _ _ _ _ _ _ (F0 _ _ _ [])
  replace hP := hP1
  replace hP : va_P g.1 pq_cl (mainW g a T3) H9 := hP
  replace hD : va_D A (mainW g a T3) := pq_adr hD (ad_X6 _ _)
  clear hk
  generalize H9 = H at hP hS ⊢
  refine lv_aload_n hx hb dX6_rejectionReason_4 rfl (lv_at hl 0 rfl) ?_
  refine pq_get S hK hP inX6 0 rfl rfl 8 (by decide) fl_X6_47 rfl (v := .int T3.2.2.2.2.2.2.2.2.1) rfl dX6_rejectionReason_5 ?_
  obtain ⟨h8, h9⟩ := pq_pair hf
  exact hend 8 ls _ _ _ _ _ _ (Or.inl ⟨_, .int, rfl, rfl, dX6_rejectionReason_8, rfl, rfl⟩) (by subst h8; rfl) (by subst h9; exact hP) hS (by decide) (by decide)
