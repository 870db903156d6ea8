set_option maxHeartbeats 4000000 in
set_option maxRecDepth 100000 in
theorem c_L_insert (l : Launch) (g : pq_g) (a : Nat → Nat) (ob : Nat) (f : Nat → Int64) (T : MainS) (p1 : Int32) (p2 : Int32) (hst : l.stackTraces = false) (o : String ⊕ Int32) (T1 : MainS) (hf : f_X6_insert T p1 p2 = some (o, T1)) (r : Int32) (hr : pq_cd ["java/lang/IllegalArgumentException", "java/lang/UnsupportedOperationException"] o = some r) : pq_H l yL_insert cL_insert 5 [(0, 10, 13, 13), (0, 10, 17, 15)] 8 3 g ([(ob, .inl (g.2 3, 1, .inr (.inl (f))))] ++ mainW g a T) [.ref (a 0), .int p1, .int p2, .ref ob] r ([(ob, .inl (g.2 3, 1, .inr (.inl (pq_nf f (fun v => v.toInt64) o))))] ++ mainW g a T1) := by
  refine pq_H.of (by decide) rfl (Nat.le_of_ble_eq_true rfl) rfl ?_
  intro p e s m below meth c ls Q A S htab hP hK hD hS hA hT hL hl hend
  obtain ⟨hx, hb, hml, hown, hts⟩ := id S
  refine lv_aload_n hx hb dL_insert_0 rfl (lv_at hl 3 rfl) ?_
  refine lv_iconst (v := 0) hx hb dL_insert_1 (by decide) ?_
  refine lv_aload_n hx hb dL_insert_2 rfl (lv_at hl 0 rfl) ?_
  refine lv_iload_n hx hb dL_insert_3 rfl (lv_at hl 1 rfl) ?_
  refine lv_iload_n hx hb dL_insert_4 rfl (lv_at hl 2 rfl) ?_
  rcases o with E0 | v
  · refine pq_cXV S (c_X6_insert l g a T p1 p2 hst (.inl E0) T1 hf) vv_L_7 hK hT (pq_P2 hP) (pq_D2 hD) hS hA rfl rfl rfl rfl rfl hl.1 (Nat.le_of_ble_eq_true rfl) dL_insert_5 (by decide) (by decide) ⟨by decide, by decide⟩ (fun E ce q9 H1 locs1 hE hk hP1 hS1 hce hcv hcl => ?_) (fun v H1 l1 h9 => by cases h9)
    obtain rfl : E0 = E := Sum.inl.inj hE
    have hP9 := va_P.app (pq_kp (pq_P1 hP) (pq_Dx hD) hk) hP1
    by_cases h1 : E0 = "java/lang/IllegalArgumentException"
    · subst h1
      refine pq_catch (E := "java/lang/IllegalArgumentException") S hT hL [] (0, 10, 13, 13) [(0, 10, 17, 15)] htab (by decide) (by intro z hz; cases hz) (by decide) (by decide) vc_L_13 hce hcv hcl ?_
      refine lv_astore (lv' := [(4, .ref q9), (0, .ref (a 0)), (1, .int p1), (2, .int p2), (3, .ref ob)]) hx hb dL_insert_13 hl (by decide) rfl (fun ls hl => ?_)
      refine lv_iconst (v := 1) hx hb dL_insert_15 (by decide) ?_
      exact hend _ ls _ _ _ _ _ dL_insert_16 (Option.some.inj hr) hP9 hS1 (by decide) (by decide)
    by_cases h2 : E0 = "java/lang/UnsupportedOperationException"
    · subst h2
      refine pq_catch (E := "java/lang/UnsupportedOperationException") S hT hL [((0, 10, 13, 13), "java/lang/IllegalArgumentException")] (0, 10, 17, 15) [] htab (by decide) (by intro z hz; simp only [List.mem_cons, List.not_mem_nil, or_false] at hz; rcases hz with rfl; exact ⟨by decide, vc_L_13, by decide, by decide⟩) (by decide) (by decide) vc_L_15 hce hcv hcl ?_
      refine lv_astore (lv' := [(4, .ref q9), (0, .ref (a 0)), (1, .int p1), (2, .int p2), (3, .ref ob)]) hx hb dL_insert_17 hl (by decide) rfl (fun ls hl => ?_)
      refine lv_iconst (v := 2) hx hb dL_insert_19 (by decide) ?_
      exact hend _ ls _ _ _ _ _ dL_insert_20 (Option.some.inj hr) hP9 hS1 (by decide) (by decide)
    exact absurd hr (by simp [pq_cd, pq_cdF, h1, h2])
  · refine pq_cXV S (c_X6_insert l g a T p1 p2 hst (.inr v) T1 hf) vv_L_7 hK hT (pq_P2 hP) (pq_D2 hD) hS hA rfl rfl rfl rfl rfl hl.1 (Nat.le_of_ble_eq_true rfl) dL_insert_5 (by decide) (by decide) ⟨by decide, by decide⟩ (fun E ce q9 H1 l1 h9 => by cases h9) (fun v9 H1 locs hv hk hP1 hS => ?_)
    obtain rfl : v9 = some (.int v) := (Sum.inr.inj hv).symm
    change W _ _ _ _ _ _ _ _ _ _ _ _ _ _ _ (F0 _ _ _ [.int v, .int 0, .ref ob])
    have hP9 : va_P g.1 pq_cl ([(ob, .inl (g.2 3, 1, .inr (.inl (f))))] ++ mainW g a T1) H1 := va_P.app (pq_kp (pq_P1 hP) (pq_Dx hD) hk) hP1
    have hD9 : va_D A ([(ob, .inl (g.2 3, 1, .inr (.inl (f))))] ++ mainW g a T1) := pq_adr hD (ad_app rfl (ad_X6 _ _))
    clear hk hP1 hP hD
    refine lv_i2l hx hb dL_insert_8 rfl ?_
    refine va_last hx hb hK.1 hP9 hD9 hS 0 3 rfl rfl pq_in01 dL_insert_9 (fun H2 locs hP2 _ hS => ?_)
    refine lv_goto (tgt := 21) hx hb dL_insert_10 (by decide) ?_
    refine lv_iconst (v := 0) hx hb dL_insert_21 (by decide) ?_
    exact hend _ ls _ _ _ _ _ dL_insert_22 (Option.some.inj hr) hP2 hS (by decide) (by decide)
set_option maxHeartbeats 4000000 in
set_option maxRecDepth 100000 in
theorem c_L_delete (l : Launch) (g : pq_g) (a : Nat → Nat) (ob : Nat) (f : Nat → Int64) (T : MainS) (p1 : Int32) (hst : l.stackTraces = false) (o : String ⊕ Int32) (T1 : MainS) (hf : f_X6_delete T p1 = some (o, T1)) (r : Int32) (hr : pq_cd ["java/util/NoSuchElementException"] o = some r) : pq_H l yL_delete cL_delete 4 [(0, 9, 12, 21)] 8 1 g ([(ob, .inl (g.2 3, 1, .inr (.inl (f))))] ++ mainW g a T) [.ref (a 0), .int p1, .ref ob] r ([(ob, .inl (g.2 3, 1, .inr (.inl (pq_nf f (fun v => v.toInt64) o))))] ++ mainW g a T1) := by
  refine pq_H.of (by decide) rfl (Nat.le_of_ble_eq_true rfl) rfl ?_
  intro p e s m below meth c ls Q A S htab hP hK hD hS hA hT hL hl hend
  obtain ⟨hx, hb, hml, hown, hts⟩ := id S
  refine lv_aload_n hx hb dL_delete_0 rfl (lv_at hl 2 rfl) ?_
  refine lv_iconst (v := 0) hx hb dL_delete_1 (by decide) ?_
  refine lv_aload_n hx hb dL_delete_2 rfl (lv_at hl 0 rfl) ?_
  refine lv_iload_n hx hb dL_delete_3 rfl (lv_at hl 1 rfl) ?_
  rcases o with E0 | v
  · refine pq_cXV S (c_X6_delete l g a T p1 hst (.inl E0) T1 hf) vv_L_17 hK hT (pq_P2 hP) (pq_D2 hD) hS hA rfl rfl rfl rfl rfl hl.1 (Nat.le_of_ble_eq_true rfl) dL_delete_4 (by decide) (by decide) ⟨by decide, by decide⟩ (fun E ce q9 H1 locs1 hE hk hP1 hS1 hce hcv hcl => ?_) (fun v H1 l1 h9 => by cases h9)
    obtain rfl : E0 = E := Sum.inl.inj hE
    have hP9 := va_P.app (pq_kp (pq_P1 hP) (pq_Dx hD) hk) hP1
    by_cases h1 : E0 = "java/util/NoSuchElementException"
    · subst h1
      refine pq_catch (E := "java/util/NoSuchElementException") S hT hL [] (0, 9, 12, 21) [] htab (by decide) (by intro z hz; cases hz) (by decide) (by decide) vc_L_21 hce hcv hcl ?_
      refine lv_astore_n (lv' := [(3, .ref q9), (0, .ref (a 0)), (1, .int p1), (2, .ref ob)]) hx hb dL_delete_12 rfl hl (by decide) rfl (fun ls hl => ?_)
      refine lv_iconst (v := 1) hx hb dL_delete_13 (by decide) ?_
      exact hend _ ls _ _ _ _ _ dL_delete_14 (Option.some.inj hr) hP9 hS1 (by decide) (by decide)
    exact absurd hr (by simp [pq_cd, pq_cdF, h1])
  · refine pq_cXV S (c_X6_delete l g a T p1 hst (.inr v) T1 hf) vv_L_17 hK hT (pq_P2 hP) (pq_D2 hD) hS hA rfl rfl rfl rfl rfl hl.1 (Nat.le_of_ble_eq_true rfl) dL_delete_4 (by decide) (by decide) ⟨by decide, by decide⟩ (fun E ce q9 H1 l1 h9 => by cases h9) (fun v9 H1 locs hv hk hP1 hS => ?_)
    obtain rfl : v9 = some (.int v) := (Sum.inr.inj hv).symm
    change W _ _ _ _ _ _ _ _ _ _ _ _ _ _ _ (F0 _ _ _ [.int v, .int 0, .ref ob])
    have hP9 : va_P g.1 pq_cl ([(ob, .inl (g.2 3, 1, .inr (.inl (f))))] ++ mainW g a T1) H1 := va_P.app (pq_kp (pq_P1 hP) (pq_Dx hD) hk) hP1
    have hD9 : va_D A ([(ob, .inl (g.2 3, 1, .inr (.inl (f))))] ++ mainW g a T1) := pq_adr hD (ad_app rfl (ad_X6 _ _))
    clear hk hP1 hP hD
    refine lv_i2l hx hb dL_delete_7 rfl ?_
    refine va_last hx hb hK.1 hP9 hD9 hS 0 3 rfl rfl pq_in01 dL_delete_8 (fun H2 locs hP2 _ hS => ?_)
    refine lv_goto (tgt := 15) hx hb dL_delete_9 (by decide) ?_
    refine lv_iconst (v := 0) hx hb dL_delete_15 (by decide) ?_
    exact hend _ ls _ _ _ _ _ dL_delete_16 (Option.some.inj hr) hP2 hS (by decide) (by decide)
set_option maxHeartbeats 4000000 in
set_option maxRecDepth 100000 in
theorem c_L_changePriority (l : Launch) (g : pq_g) (a : Nat → Nat) (ob : Nat) (f : Nat → Int64) (T : MainS) (p1 : Int32) (p2 : Int32) (hst : l.stackTraces = false) (o : String ⊕ Int32) (T1 : MainS) (hf : f_X6_changePriority T p1 p2 = some (o, T1)) (r : Int32) (hr : pq_cd ["java/util/NoSuchElementException", "java/lang/IllegalArgumentException", "java/lang/UnsupportedOperationException"] o = some r) : pq_H l yL_changePriority cL_changePriority 5 [(0, 10, 13, 21), (0, 10, 17, 13), (0, 10, 21, 15)] 8 3 g ([(ob, .inl (g.2 3, 1, .inr (.inl (f))))] ++ mainW g a T) [.ref (a 0), .int p1, .int p2, .ref ob] r ([(ob, .inl (g.2 3, 1, .inr (.inl (pq_nf f (fun v => v.toInt64) o))))] ++ mainW g a T1) := by
  refine pq_H.of (by decide) rfl (Nat.le_of_ble_eq_true rfl) rfl ?_
  intro p e s m below meth c ls Q A S htab hP hK hD hS hA hT hL hl hend
  obtain ⟨hx, hb, hml, hown, hts⟩ := id S
  refine lv_aload_n hx hb dL_changePriority_0 rfl (lv_at hl 3 rfl) ?_
  refine lv_iconst (v := 0) hx hb dL_changePriority_1 (by decide) ?_
  refine lv_aload_n hx hb dL_changePriority_2 rfl (lv_at hl 0 rfl) ?_
  refine lv_iload_n hx hb dL_changePriority_3 rfl (lv_at hl 1 rfl) ?_
  refine lv_iload_n hx hb dL_changePriority_4 rfl (lv_at hl 2 rfl) ?_
  rcases o with E0 | v
  · refine pq_cXV S (c_X6_changePriority l g a T p1 p2 hst (.inl E0) T1 hf) vv_L_23 hK hT (pq_P2 hP) (pq_D2 hD) hS hA rfl rfl rfl rfl rfl hl.1 (Nat.le_of_ble_eq_true rfl) dL_changePriority_5 (by decide) (by decide) ⟨by decide, by decide⟩ (fun E ce q9 H1 locs1 hE hk hP1 hS1 hce hcv hcl => ?_) (fun v H1 l1 h9 => by cases h9)
    obtain rfl : E0 = E := Sum.inl.inj hE
    have hP9 := va_P.app (pq_kp (pq_P1 hP) (pq_Dx hD) hk) hP1
    by_cases h1 : E0 = "java/util/NoSuchElementException"
    · subst h1
      refine pq_catch (E := "java/util/NoSuchElementException") S hT hL [] (0, 10, 13, 21) [(0, 10, 17, 13), (0, 10, 21, 15)] htab (by decide) (by intro z hz; cases hz) (by decide) (by decide) vc_L_21 hce hcv hcl ?_
      refine lv_astore (lv' := [(4, .ref q9), (0, .ref (a 0)), (1, .int p1), (2, .int p2), (3, .ref ob)]) hx hb dL_changePriority_13 hl (by decide) rfl (fun ls hl => ?_)
      refine lv_iconst (v := 1) hx hb dL_changePriority_15 (by decide) ?_
      exact hend _ ls _ _ _ _ _ dL_changePriority_16 (Option.some.inj hr) hP9 hS1 (by decide) (by decide)
    by_cases h2 : E0 = "java/lang/IllegalArgumentException"
    · subst h2
      refine pq_catch (E := "java/lang/IllegalArgumentException") S hT hL [((0, 10, 13, 21), "java/util/NoSuchElementException")] (0, 10, 17, 13) [(0, 10, 21, 15)] htab (by decide) (by intro z hz; simp only [List.mem_cons, List.not_mem_nil, or_false] at hz; rcases hz with rfl; exact ⟨by decide, vc_L_21, by decide, by decide⟩) (by decide) (by decide) vc_L_13 hce hcv hcl ?_
      refine lv_astore (lv' := [(4, .ref q9), (0, .ref (a 0)), (1, .int p1), (2, .int p2), (3, .ref ob)]) hx hb dL_changePriority_17 hl (by decide) rfl (fun ls hl => ?_)
      refine lv_iconst (v := 2) hx hb dL_changePriority_19 (by decide) ?_
      exact hend _ ls _ _ _ _ _ dL_changePriority_20 (Option.some.inj hr) hP9 hS1 (by decide) (by decide)
    by_cases h3 : E0 = "java/lang/UnsupportedOperationException"
    · subst h3
      refine pq_catch (E := "java/lang/UnsupportedOperationException") S hT hL [((0, 10, 13, 21), "java/util/NoSuchElementException"), ((0, 10, 17, 13), "java/lang/IllegalArgumentException")] (0, 10, 21, 15) [] htab (by decide) (by intro z hz; simp only [List.mem_cons, List.not_mem_nil, or_false] at hz; rcases hz with rfl | rfl <;> first | exact ⟨by decide, vc_L_21, by decide, by decide⟩ | exact ⟨by decide, vc_L_13, by decide, by decide⟩) (by decide) (by decide) vc_L_15 hce hcv hcl ?_
      refine lv_astore (lv' := [(4, .ref q9), (0, .ref (a 0)), (1, .int p1), (2, .int p2), (3, .ref ob)]) hx hb dL_changePriority_21 hl (by decide) rfl (fun ls hl => ?_)
      refine lv_iconst (v := 3) hx hb dL_changePriority_23 (by decide) ?_
      exact hend _ ls _ _ _ _ _ dL_changePriority_24 (Option.some.inj hr) hP9 hS1 (by decide) (by decide)
    exact absurd hr (by simp [pq_cd, pq_cdF, h1, h2, h3])
  · refine pq_cXV S (c_X6_changePriority l g a T p1 p2 hst (.inr v) T1 hf) vv_L_23 hK hT (pq_P2 hP) (pq_D2 hD) hS hA rfl rfl rfl rfl rfl hl.1 (Nat.le_of_ble_eq_true rfl) dL_changePriority_5 (by decide) (by decide) ⟨by decide, by decide⟩ (fun E ce q9 H1 l1 h9 => by cases h9) (fun v9 H1 locs hv hk hP1 hS => ?_)
    obtain rfl : v9 = some (.int v) := (Sum.inr.inj hv).symm
    change W _ _ _ _ _ _ _ _ _ _ _ _ _ _ _ (F0 _ _ _ [.int v, .int 0, .ref ob])
    have hP9 : va_P g.1 pq_cl ([(ob, .inl (g.2 3, 1, .inr (.inl (f))))] ++ mainW g a T1) H1 := va_P.app (pq_kp (pq_P1 hP) (pq_Dx hD) hk) hP1
    have hD9 : va_D A ([(ob, .inl (g.2 3, 1, .inr (.inl (f))))] ++ mainW g a T1) := pq_adr hD (ad_app rfl (ad_X6 _ _))
    clear hk hP1 hP hD
    refine lv_i2l hx hb dL_changePriority_8 rfl ?_
    refine va_last hx hb hK.1 hP9 hD9 hS 0 3 rfl rfl pq_in01 dL_changePriority_9 (fun H2 locs hP2 _ hS => ?_)
    refine lv_goto (tgt := 25) hx hb dL_changePriority_10 (by decide) ?_
    refine lv_iconst (v := 0) hx hb dL_changePriority_25 (by decide) ?_
    exact hend _ ls _ _ _ _ _ dL_changePriority_26 (Option.some.inj hr) hP2 hS (by decide) (by decide)
set_option maxHeartbeats 4000000 in
set_option maxRecDepth 100000 in
theorem c_L_moveKey (l : Launch) (g : pq_g) (a : Nat → Nat) (ob : Nat) (f : Nat → Int64) (T : MainS) (p1 : Int32) (p2 : Int32) (hst : l.stackTraces = false) (o : String ⊕ Int32) (T1 : MainS) (hf : f_X6_moveKey T p1 p2 = some (o, T1)) (r : Int32) (hr : pq_cd ["java/util/NoSuchElementException", "java/lang/IllegalArgumentException", "java/lang/UnsupportedOperationException"] o = some r) : pq_H l yL_moveKey cL_moveKey 5 [(0, 10, 13, 21), (0, 10, 17, 13), (0, 10, 21, 15)] 8 3 g ([(ob, .inl (g.2 3, 1, .inr (.inl (f))))] ++ mainW g a T) [.ref (a 0), .int p1, .int p2, .ref ob] r ([(ob, .inl (g.2 3, 1, .inr (.inl (pq_nf f (fun v => v.toInt64) o))))] ++ mainW g a T1) := by
  refine pq_H.of (by decide) rfl (Nat.le_of_ble_eq_true rfl) rfl ?_
  intro p e s m below meth c ls Q A S htab hP hK hD hS hA hT hL hl hend
  obtain ⟨hx, hb, hml, hown, hts⟩ := id S
  refine lv_aload_n hx hb dL_moveKey_0 rfl (lv_at hl 3 rfl) ?_
  refine lv_iconst (v := 0) hx hb dL_moveKey_1 (by decide) ?_
  refine lv_aload_n hx hb dL_moveKey_2 rfl (lv_at hl 0 rfl) ?_
  refine lv_iload_n hx hb dL_moveKey_3 rfl (lv_at hl 1 rfl) ?_
  refine lv_iload_n hx hb dL_moveKey_4 rfl (lv_at hl 2 rfl) ?_
  rcases o with E0 | v
  · refine pq_cXV S (c_X6_moveKey l g a T p1 p2 hst (.inl E0) T1 hf) vv_L_26 hK hT (pq_P2 hP) (pq_D2 hD) hS hA rfl rfl rfl rfl rfl hl.1 (Nat.le_of_ble_eq_true rfl) dL_moveKey_5 (by decide) (by decide) ⟨by decide, by decide⟩ (fun E ce q9 H1 locs1 hE hk hP1 hS1 hce hcv hcl => ?_) (fun v H1 l1 h9 => by cases h9)
    obtain rfl : E0 = E := Sum.inl.inj hE
    have hP9 := va_P.app (pq_kp (pq_P1 hP) (pq_Dx hD) hk) hP1
    by_cases h1 : E0 = "java/util/NoSuchElementException"
    · subst h1
      refine pq_catch (E := "java/util/NoSuchElementException") S hT hL [] (0, 10, 13, 21) [(0, 10, 17, 13), (0, 10, 21, 15)] htab (by decide) (by intro z hz; cases hz) (by decide) (by decide) vc_L_21 hce hcv hcl ?_
      refine lv_astore (lv' := [(4, .ref q9), (0, .ref (a 0)), (1, .int p1), (2, .int p2), (3, .ref ob)]) hx hb dL_moveKey_13 hl (by decide) rfl (fun ls hl => ?_)
      refine lv_iconst (v := 1) hx hb dL_moveKey_15 (by decide) ?_
      exact hend _ ls _ _ _ _ _ dL_moveKey_16 (Option.some.inj hr) hP9 hS1 (by decide) (by decide)
    by_cases h2 : E0 = "java/lang/IllegalArgumentException"
    · subst h2
      refine pq_catch (E := "java/lang/IllegalArgumentException") S hT hL [((0, 10, 13, 21), "java/util/NoSuchElementException")] (0, 10, 17, 13) [(0, 10, 21, 15)] htab (by decide) (by intro z hz; simp only [List.mem_cons, List.not_mem_nil, or_false] at hz; rcases hz with rfl; exact ⟨by decide, vc_L_21, by decide, by decide⟩) (by decide) (by decide) vc_L_13 hce hcv hcl ?_
      refine lv_astore (lv' := [(4, .ref q9), (0, .ref (a 0)), (1, .int p1), (2, .int p2), (3, .ref ob)]) hx hb dL_moveKey_17 hl (by decide) rfl (fun ls hl => ?_)
      refine lv_iconst (v := 2) hx hb dL_moveKey_19 (by decide) ?_
      exact hend _ ls _ _ _ _ _ dL_moveKey_20 (Option.some.inj hr) hP9 hS1 (by decide) (by decide)
    by_cases h3 : E0 = "java/lang/UnsupportedOperationException"
    · subst h3
      refine pq_catch (E := "java/lang/UnsupportedOperationException") S hT hL [((0, 10, 13, 21), "java/util/NoSuchElementException"), ((0, 10, 17, 13), "java/lang/IllegalArgumentException")] (0, 10, 21, 15) [] htab (by decide) (by intro z hz; simp only [List.mem_cons, List.not_mem_nil, or_false] at hz; rcases hz with rfl | rfl <;> first | exact ⟨by decide, vc_L_21, by decide, by decide⟩ | exact ⟨by decide, vc_L_13, by decide, by decide⟩) (by decide) (by decide) vc_L_15 hce hcv hcl ?_
      refine lv_astore (lv' := [(4, .ref q9), (0, .ref (a 0)), (1, .int p1), (2, .int p2), (3, .ref ob)]) hx hb dL_moveKey_21 hl (by decide) rfl (fun ls hl => ?_)
      refine lv_iconst (v := 3) hx hb dL_moveKey_23 (by decide) ?_
      exact hend _ ls _ _ _ _ _ dL_moveKey_24 (Option.some.inj hr) hP9 hS1 (by decide) (by decide)
    exact absurd hr (by simp [pq_cd, pq_cdF, h1, h2, h3])
  · refine pq_cXV S (c_X6_moveKey l g a T p1 p2 hst (.inr v) T1 hf) vv_L_26 hK hT (pq_P2 hP) (pq_D2 hD) hS hA rfl rfl rfl rfl rfl hl.1 (Nat.le_of_ble_eq_true rfl) dL_moveKey_5 (by decide) (by decide) ⟨by decide, by decide⟩ (fun E ce q9 H1 l1 h9 => by cases h9) (fun v9 H1 locs hv hk hP1 hS => ?_)
    obtain rfl : v9 = some (.int v) := (Sum.inr.inj hv).symm
    change W _ _ _ _ _ _ _ _ _ _ _ _ _ _ _ (F0 _ _ _ [.int v, .int 0, .ref ob])
    have hP9 : va_P g.1 pq_cl ([(ob, .inl (g.2 3, 1, .inr (.inl (f))))] ++ mainW g a T1) H1 := va_P.app (pq_kp (pq_P1 hP) (pq_Dx hD) hk) hP1
    have hD9 : va_D A ([(ob, .inl (g.2 3, 1, .inr (.inl (f))))] ++ mainW g a T1) := pq_adr hD (ad_app rfl (ad_X6 _ _))
    clear hk hP1 hP hD
    refine lv_i2l hx hb dL_moveKey_8 rfl ?_
    refine va_last hx hb hK.1 hP9 hD9 hS 0 3 rfl rfl pq_in01 dL_moveKey_9 (fun H2 locs hP2 _ hS => ?_)
    refine lv_goto (tgt := 25) hx hb dL_moveKey_10 (by decide) ?_
    refine lv_iconst (v := 0) hx hb dL_moveKey_25 (by decide) ?_
    exact hend _ ls _ _ _ _ _ dL_moveKey_26 (Option.some.inj hr) hP2 hS (by decide) (by decide)
set_option maxHeartbeats 4000000 in
set_option maxRecDepth 100000 in
theorem c_L_deleteRange (l : Launch) (g : pq_g) (a : Nat → Nat) (ob : Nat) (f : Nat → Int64) (T : MainS) (p1 : Int32) (p2 : Int32) (hst : l.stackTraces = false) (o : String ⊕ Int32) (T1 : MainS) (hf : f_X6_deleteRange T p1 p2 = some (o, T1)) (r : Int32) (hr : pq_cd ["java/lang/IllegalArgumentException"] o = some r) : pq_H l yL_deleteRange cL_deleteRange 5 [(0, 10, 13, 13)] 8 1 g ([(ob, .inl (g.2 3, 1, .inr (.inl (f))))] ++ mainW g a T) [.ref (a 0), .int p1, .int p2, .ref ob] r ([(ob, .inl (g.2 3, 1, .inr (.inl (pq_nf f (fun v => v.toInt64) o))))] ++ mainW g a T1) := by
  refine pq_H.of (by decide) rfl (Nat.le_of_ble_eq_true rfl) rfl ?_
  intro p e s m below meth c ls Q A S htab hP hK hD hS hA hT hL hl hend
  obtain ⟨hx, hb, hml, hown, hts⟩ := id S
  refine lv_aload_n hx hb dL_deleteRange_0 rfl (lv_at hl 3 rfl) ?_
  refine lv_iconst (v := 0) hx hb dL_deleteRange_1 (by decide) ?_
  refine lv_aload_n hx hb dL_deleteRange_2 rfl (lv_at hl 0 rfl) ?_
  refine lv_iload_n hx hb dL_deleteRange_3 rfl (lv_at hl 1 rfl) ?_
  refine lv_iload_n hx hb dL_deleteRange_4 rfl (lv_at hl 2 rfl) ?_
  rcases o with E0 | v
  · refine pq_cXV S (c_X6_deleteRange l g a T p1 p2 hst (.inl E0) T1 hf) vv_L_29 hK hT (pq_P2 hP) (pq_D2 hD) hS hA rfl rfl rfl rfl rfl hl.1 (Nat.le_of_ble_eq_true rfl) dL_deleteRange_5 (by decide) (by decide) ⟨by decide, by decide⟩ (fun E ce q9 H1 locs1 hE hk hP1 hS1 hce hcv hcl => ?_) (fun v H1 l1 h9 => by cases h9)
    obtain rfl : E0 = E := Sum.inl.inj hE
    have hP9 := va_P.app (pq_kp (pq_P1 hP) (pq_Dx hD) hk) hP1
    by_cases h1 : E0 = "java/lang/IllegalArgumentException"
    · subst h1
      refine pq_catch (E := "java/lang/IllegalArgumentException") S hT hL [] (0, 10, 13, 13) [] htab (by decide) (by intro z hz; cases hz) (by decide) (by decide) vc_L_13 hce hcv hcl ?_
      refine lv_astore (lv' := [(4, .ref q9), (0, .ref (a 0)), (1, .int p1), (2, .int p2), (3, .ref ob)]) hx hb dL_deleteRange_13 hl (by decide) rfl (fun ls hl => ?_)
      refine lv_iconst (v := 1) hx hb dL_deleteRange_15 (by decide) ?_
      exact hend _ ls _ _ _ _ _ dL_deleteRange_16 (Option.some.inj hr) hP9 hS1 (by decide) (by decide)
    exact absurd hr (by simp [pq_cd, pq_cdF, h1])
  · refine pq_cXV S (c_X6_deleteRange l g a T p1 p2 hst (.inr v) T1 hf) vv_L_29 hK hT (pq_P2 hP) (pq_D2 hD) hS hA rfl rfl rfl rfl rfl hl.1 (Nat.le_of_ble_eq_true rfl) dL_deleteRange_5 (by decide) (by decide) ⟨by decide, by decide⟩ (fun E ce q9 H1 l1 h9 => by cases h9) (fun v9 H1 locs hv hk hP1 hS => ?_)
    obtain rfl : v9 = some (.int v) := (Sum.inr.inj hv).symm
    change W _ _ _ _ _ _ _ _ _ _ _ _ _ _ _ (F0 _ _ _ [.int v, .int 0, .ref ob])
    have hP9 : va_P g.1 pq_cl ([(ob, .inl (g.2 3, 1, .inr (.inl (f))))] ++ mainW g a T1) H1 := va_P.app (pq_kp (pq_P1 hP) (pq_Dx hD) hk) hP1
    have hD9 : va_D A ([(ob, .inl (g.2 3, 1, .inr (.inl (f))))] ++ mainW g a T1) := pq_adr hD (ad_app rfl (ad_X6 _ _))
    clear hk hP1 hP hD
    refine lv_i2l hx hb dL_deleteRange_8 rfl ?_
    refine va_last hx hb hK.1 hP9 hD9 hS 0 3 rfl rfl pq_in01 dL_deleteRange_9 (fun H2 locs hP2 _ hS => ?_)
    refine lv_goto (tgt := 17) hx hb dL_deleteRange_10 (by decide) ?_
    refine lv_iconst (v := 0) hx hb dL_deleteRange_17 (by decide) ?_
    exact hend _ ls _ _ _ _ _ dL_deleteRange_18 (Option.some.inj hr) hP2 hS (by decide) (by decide)
set_option maxHeartbeats 4000000 in
set_option maxRecDepth 100000 in
theorem c_L_priorityOf (l : Launch) (g : pq_g) (a : Nat → Nat) (ob : Nat) (f : Nat → Int64) (T : MainS) (p1 : Int32) (hst : l.stackTraces = false) (o : String ⊕ Int32) (T1 : MainS) (hf : f_X6_priorityOf T p1 = some (o, T1)) (r : Int32) (hr : pq_cd ["java/util/NoSuchElementException"] o = some r) : pq_H l yL_priorityOf cL_priorityOf 4 [(0, 9, 12, 21)] 8 1 g ([(ob, .inl (g.2 3, 1, .inr (.inl (f))))] ++ mainW g a T) [.ref (a 0), .int p1, .ref ob] r ([(ob, .inl (g.2 3, 1, .inr (.inl (pq_nf f (fun v => v.toInt64) o))))] ++ mainW g a T1) := by
  refine pq_H.of (by decide) rfl (Nat.le_of_ble_eq_true rfl) rfl ?_
  intro p e s m below meth c ls Q A S htab hP hK hD hS hA hT hL hl hend
  obtain ⟨hx, hb, hml, hown, hts⟩ := id S
  refine lv_aload_n hx hb dL_priorityOf_0 rfl (lv_at hl 2 rfl) ?_
  refine lv_iconst (v := 0) hx hb dL_priorityOf_1 (by decide) ?_
  refine lv_aload_n hx hb dL_priorityOf_2 rfl (lv_at hl 0 rfl) ?_
  refine lv_iload_n hx hb dL_priorityOf_3 rfl (lv_at hl 1 rfl) ?_
  rcases o with E0 | v
  · refine pq_cXV S (c_X6_priorityOf l g a T p1 hst (.inl E0) T1 hf) vv_L_32 hK hT (pq_P2 hP) (pq_D2 hD) hS hA rfl rfl rfl rfl rfl hl.1 (Nat.le_of_ble_eq_true rfl) dL_priorityOf_4 (by decide) (by decide) ⟨by decide, by decide⟩ (fun E ce q9 H1 locs1 hE hk hP1 hS1 hce hcv hcl => ?_) (fun v H1 l1 h9 => by cases h9)
    obtain rfl : E0 = E := Sum.inl.inj hE
    have hP9 := va_P.app (pq_kp (pq_P1 hP) (pq_Dx hD) hk) hP1
    by_cases h1 : E0 = "java/util/NoSuchElementException"
    · subst h1
      refine pq_catch (E := "java/util/NoSuchElementException") S hT hL [] (0, 9, 12, 21) [] htab (by decide) (by intro z hz; cases hz) (by decide) (by decide) vc_L_21 hce hcv hcl ?_
      refine lv_astore_n (lv' := [(3, .ref q9), (0, .ref (a 0)), (1, .int p1), (2, .ref ob)]) hx hb dL_priorityOf_12 rfl hl (by decide) rfl (fun ls hl => ?_)
      refine lv_iconst (v := 1) hx hb dL_priorityOf_13 (by decide) ?_
      exact hend _ ls _ _ _ _ _ dL_priorityOf_14 (Option.some.inj hr) hP9 hS1 (by decide) (by decide)
    exact absurd hr (by simp [pq_cd, pq_cdF, h1])
  · refine pq_cXV S (c_X6_priorityOf l g a T p1 hst (.inr v) T1 hf) vv_L_32 hK hT (pq_P2 hP) (pq_D2 hD) hS hA rfl rfl rfl rfl rfl hl.1 (Nat.le_of_ble_eq_true rfl) dL_priorityOf_4 (by decide) (by decide) ⟨by decide, by decide⟩ (fun E ce q9 H1 l1 h9 => by cases h9) (fun v9 H1 locs hv hk hP1 hS => ?_)
    obtain rfl : v9 = some (.int v) := (Sum.inr.inj hv).symm
    change W _ _ _ _ _ _ _ _ _ _ _ _ _ _ _ (F0 _ _ _ [.int v, .int 0, .ref ob])
    have hP9 : va_P g.1 pq_cl ([(ob, .inl (g.2 3, 1, .inr (.inl (f))))] ++ mainW g a T1) H1 := va_P.app (pq_kp (pq_P1 hP) (pq_Dx hD) hk) hP1
    have hD9 : va_D A ([(ob, .inl (g.2 3, 1, .inr (.inl (f))))] ++ mainW g a T1) := pq_adr hD (ad_app rfl (ad_X6 _ _))
    clear hk hP1 hP hD
    refine lv_i2l hx hb dL_priorityOf_7 rfl ?_
    refine va_last hx hb hK.1 hP9 hD9 hS 0 3 rfl rfl pq_in01 dL_priorityOf_8 (fun H2 locs hP2 _ hS => ?_)
    refine lv_goto (tgt := 15) hx hb dL_priorityOf_9 (by decide) ?_
    refine lv_iconst (v := 0) hx hb dL_priorityOf_15 (by decide) ?_
    exact hend _ ls _ _ _ _ _ dL_priorityOf_16 (Option.some.inj hr) hP2 hS (by decide) (by decide)
set_option maxHeartbeats 4000000 in
set_option maxRecDepth 100000 in
theorem c_L_lowestKey (l : Launch) (g : pq_g) (a : Nat → Nat) (ob : Nat) (f : Nat → Int64) (T : MainS) (hst : l.stackTraces = false) (o : String ⊕ Int32) (T1 : MainS) (hf : f_X6_lowestKey T = some (o, T1)) (r : Int32) (hr : pq_cd ["java/util/NoSuchElementException"] o = some r) : pq_H l yL_lowestKey cL_lowestKey 3 [(0, 8, 11, 21)] 8 1 g ([(ob, .inl (g.2 3, 1, .inr (.inl (f))))] ++ mainW g a T) [.ref (a 0), .ref ob] r ([(ob, .inl (g.2 3, 1, .inr (.inl (pq_nf f (fun v => v.toInt64) o))))] ++ mainW g a T1) := by
  refine pq_H.of (by decide) rfl (Nat.le_of_ble_eq_true rfl) rfl ?_
  intro p e s m below meth c ls Q A S htab hP hK hD hS hA hT hL hl hend
  obtain ⟨hx, hb, hml, hown, hts⟩ := id S
  refine lv_aload_n hx hb dL_lowestKey_0 rfl (lv_at hl 1 rfl) ?_
  refine lv_iconst (v := 0) hx hb dL_lowestKey_1 (by decide) ?_
  refine lv_aload_n hx hb dL_lowestKey_2 rfl (lv_at hl 0 rfl) ?_
  rcases o with E0 | v
  · refine pq_cXV S (c_X6_lowestKey l g a T hst (.inl E0) T1 hf) vv_L_35 hK hT (pq_P2 hP) (pq_D2 hD) hS hA rfl rfl rfl rfl rfl hl.1 (Nat.le_of_ble_eq_true rfl) dL_lowestKey_3 (by decide) (by decide) ⟨by decide, by decide⟩ (fun E ce q9 H1 locs1 hE hk hP1 hS1 hce hcv hcl => ?_) (fun v H1 l1 h9 => by cases h9)
    obtain rfl : E0 = E := Sum.inl.inj hE
    have hP9 := va_P.app (pq_kp (pq_P1 hP) (pq_Dx hD) hk) hP1
    by_cases h1 : E0 = "java/util/NoSuchElementException"
    · subst h1
      refine pq_catch (E := "java/util/NoSuchElementException") S hT hL [] (0, 8, 11, 21) [] htab (by decide) (by intro z hz; cases hz) (by decide) (by decide) vc_L_21 hce hcv hcl ?_
      refine lv_astore_n (lv' := [(2, .ref q9), (0, .ref (a 0)), (1, .ref ob)]) hx hb dL_lowestKey_11 rfl hl (by decide) rfl (fun ls hl => ?_)
      refine lv_iconst (v := 1) hx hb dL_lowestKey_12 (by decide) ?_
      exact hend _ ls _ _ _ _ _ dL_lowestKey_13 (Option.some.inj hr) hP9 hS1 (by decide) (by decide)
    exact absurd hr (by simp [pq_cd, pq_cdF, h1])
  · refine pq_cXV S (c_X6_lowestKey l g a T hst (.inr v) T1 hf) vv_L_35 hK hT (pq_P2 hP) (pq_D2 hD) hS hA rfl rfl rfl rfl rfl hl.1 (Nat.le_of_ble_eq_true rfl) dL_lowestKey_3 (by decide) (by decide) ⟨by decide, by decide⟩ (fun E ce q9 H1 l1 h9 => by cases h9) (fun v9 H1 locs hv hk hP1 hS => ?_)
    obtain rfl : v9 = some (.int v) := (Sum.inr.inj hv).symm
    change W _ _ _ _ _ _ _ _ _ _ _ _ _ _ _ (F0 _ _ _ [.int v, .int 0, .ref ob])
    have hP9 : va_P g.1 pq_cl ([(ob, .inl (g.2 3, 1, .inr (.inl (f))))] ++ mainW g a T1) H1 := va_P.app (pq_kp (pq_P1 hP) (pq_Dx hD) hk) hP1
    have hD9 : va_D A ([(ob, .inl (g.2 3, 1, .inr (.inl (f))))] ++ mainW g a T1) := pq_adr hD (ad_app rfl (ad_X6 _ _))
    clear hk hP1 hP hD
    refine lv_i2l hx hb dL_lowestKey_6 rfl ?_
    refine va_last hx hb hK.1 hP9 hD9 hS 0 3 rfl rfl pq_in01 dL_lowestKey_7 (fun H2 locs hP2 _ hS => ?_)
    refine lv_goto (tgt := 14) hx hb dL_lowestKey_8 (by decide) ?_
    refine lv_iconst (v := 0) hx hb dL_lowestKey_14 (by decide) ?_
    exact hend _ ls _ _ _ _ _ dL_lowestKey_15 (Option.some.inj hr) hP2 hS (by decide) (by decide)
set_option maxHeartbeats 4000000 in
set_option maxRecDepth 100000 in
theorem c_L_greatestKey (l : Launch) (g : pq_g) (a : Nat → Nat) (ob : Nat) (f : Nat → Int64) (T : MainS) (hst : l.stackTraces = false) (o : String ⊕ Int32) (T1 : MainS) (hf : f_X6_greatestKey T = some (o, T1)) (r : Int32) (hr : pq_cd ["java/util/NoSuchElementException"] o = some r) : pq_H l yL_greatestKey cL_greatestKey 3 [(0, 8, 11, 21)] 8 1 g ([(ob, .inl (g.2 3, 1, .inr (.inl (f))))] ++ mainW g a T) [.ref (a 0), .ref ob] r ([(ob, .inl (g.2 3, 1, .inr (.inl (pq_nf f (fun v => v.toInt64) o))))] ++ mainW g a T1) := by
  refine pq_H.of (by decide) rfl (Nat.le_of_ble_eq_true rfl) rfl ?_
  intro p e s m below meth c ls Q A S htab hP hK hD hS hA hT hL hl hend
  obtain ⟨hx, hb, hml, hown, hts⟩ := id S
  refine lv_aload_n hx hb dL_greatestKey_0 rfl (lv_at hl 1 rfl) ?_
  refine lv_iconst (v := 0) hx hb dL_greatestKey_1 (by decide) ?_
  refine lv_aload_n hx hb dL_greatestKey_2 rfl (lv_at hl 0 rfl) ?_
  rcases o with E0 | v
  · refine pq_cXV S (c_X6_greatestKey l g a T hst (.inl E0) T1 hf) vv_L_39 hK hT (pq_P2 hP) (pq_D2 hD) hS hA rfl rfl rfl rfl rfl hl.1 (Nat.le_of_ble_eq_true rfl) dL_greatestKey_3 (by decide) (by decide) ⟨by decide, by decide⟩ (fun E ce q9 H1 locs1 hE hk hP1 hS1 hce hcv hcl => ?_) (fun v H1 l1 h9 => by cases h9)
    obtain rfl : E0 = E := Sum.inl.inj hE
    have hP9 := va_P.app (pq_kp (pq_P1 hP) (pq_Dx hD) hk) hP1
    by_cases h1 : E0 = "java/util/NoSuchElementException"
    · subst h1
      refine pq_catch (E := "java/util/NoSuchElementException") S hT hL [] (0, 8, 11, 21) [] htab (by decide) (by intro z hz; cases hz) (by decide) (by decide) vc_L_21 hce hcv hcl ?_
      refine lv_astore_n (lv' := [(2, .ref q9), (0, .ref (a 0)), (1, .ref ob)]) hx hb dL_greatestKey_11 rfl hl (by decide) rfl (fun ls hl => ?_)
      refine lv_iconst (v := 1) hx hb dL_greatestKey_12 (by decide) ?_
      exact hend _ ls _ _ _ _ _ dL_greatestKey_13 (Option.some.inj hr) hP9 hS1 (by decide) (by decide)
    exact absurd hr (by simp [pq_cd, pq_cdF, h1])
  · refine pq_cXV S (c_X6_greatestKey l g a T hst (.inr v) T1 hf) vv_L_39 hK hT (pq_P2 hP) (pq_D2 hD) hS hA rfl rfl rfl rfl rfl hl.1 (Nat.le_of_ble_eq_true rfl) dL_greatestKey_3 (by decide) (by decide) ⟨by decide, by decide⟩ (fun E ce q9 H1 l1 h9 => by cases h9) (fun v9 H1 locs hv hk hP1 hS => ?_)
    obtain rfl : v9 = some (.int v) := (Sum.inr.inj hv).symm
    change W _ _ _ _ _ _ _ _ _ _ _ _ _ _ _ (F0 _ _ _ [.int v, .int 0, .ref ob])
    have hP9 : va_P g.1 pq_cl ([(ob, .inl (g.2 3, 1, .inr (.inl (f))))] ++ mainW g a T1) H1 := va_P.app (pq_kp (pq_P1 hP) (pq_Dx hD) hk) hP1
    have hD9 : va_D A ([(ob, .inl (g.2 3, 1, .inr (.inl (f))))] ++ mainW g a T1) := pq_adr hD (ad_app rfl (ad_X6 _ _))
    clear hk hP1 hP hD
    refine lv_i2l hx hb dL_greatestKey_6 rfl ?_
    refine va_last hx hb hK.1 hP9 hD9 hS 0 3 rfl rfl pq_in01 dL_greatestKey_7 (fun H2 locs hP2 _ hS => ?_)
    refine lv_goto (tgt := 14) hx hb dL_greatestKey_8 (by decide) ?_
    refine lv_iconst (v := 0) hx hb dL_greatestKey_14 (by decide) ?_
    exact hend _ ls _ _ _ _ _ dL_greatestKey_15 (Option.some.inj hr) hP2 hS (by decide) (by decide)
set_option maxHeartbeats 4000000 in
set_option maxRecDepth 100000 in
theorem c_L_floorKey (l : Launch) (g : pq_g) (a : Nat → Nat) (ob : Nat) (f : Nat → Int64) (T : MainS) (p1 : Int32) (hst : l.stackTraces = false) (o : String ⊕ Int32) (T1 : MainS) (hf : f_X6_floorKey T p1 = some (o, T1)) (r : Int32) (hr : pq_cd ["java/util/NoSuchElementException"] o = some r) : pq_H l yL_floorKey cL_floorKey 4 [(0, 9, 12, 21)] 8 1 g ([(ob, .inl (g.2 3, 1, .inr (.inl (f))))] ++ mainW g a T) [.ref (a 0), .int p1, .ref ob] r ([(ob, .inl (g.2 3, 1, .inr (.inl (pq_nf f (fun v => v.toInt64) o))))] ++ mainW g a T1) := by
  refine pq_H.of (by decide) rfl (Nat.le_of_ble_eq_true rfl) rfl ?_
  intro p e s m below meth c ls Q A S htab hP hK hD hS hA hT hL hl hend
  obtain ⟨hx, hb, hml, hown, hts⟩ := id S
  refine lv_aload_n hx hb dL_floorKey_0 rfl (lv_at hl 2 rfl) ?_
  refine lv_iconst (v := 0) hx hb dL_floorKey_1 (by decide) ?_
  refine lv_aload_n hx hb dL_floorKey_2 rfl (lv_at hl 0 rfl) ?_
  refine lv_iload_n hx hb dL_floorKey_3 rfl (lv_at hl 1 rfl) ?_
  rcases o with E0 | v
  · refine pq_cXV S (c_X6_floorKey l g a T p1 hst (.inl E0) T1 hf) vv_L_42 hK hT (pq_P2 hP) (pq_D2 hD) hS hA rfl rfl rfl rfl rfl hl.1 (Nat.le_of_ble_eq_true rfl) dL_floorKey_4 (by decide) (by decide) ⟨by decide, by decide⟩ (fun E ce q9 H1 locs1 hE hk hP1 hS1 hce hcv hcl => ?_) (fun v H1 l1 h9 => by cases h9)
    obtain rfl : E0 = E := Sum.inl.inj hE
    have hP9 := va_P.app (pq_kp (pq_P1 hP) (pq_Dx hD) hk) hP1
    by_cases h1 : E0 = "java/util/NoSuchElementException"
    · subst h1
      refine pq_catch (E := "java/util/NoSuchElementException") S hT hL [] (0, 9, 12, 21) [] htab (by decide) (by intro z hz; cases hz) (by decide) (by decide) vc_L_21 hce hcv hcl ?_
      refine lv_astore_n (lv' := [(3, .ref q9), (0, .ref (a 0)), (1, .int p1), (2, .ref ob)]) hx hb dL_floorKey_12 rfl hl (by decide) rfl (fun ls hl => ?_)
      refine lv_iconst (v := 1) hx hb dL_floorKey_13 (by decide) ?_
      exact hend _ ls _ _ _ _ _ dL_floorKey_14 (Option.some.inj hr) hP9 hS1 (by decide) (by decide)
    exact absurd hr (by simp [pq_cd, pq_cdF, h1])
  · refine pq_cXV S (c_X6_floorKey l g a T p1 hst (.inr v) T1 hf) vv_L_42 hK hT (pq_P2 hP) (pq_D2 hD) hS hA rfl rfl rfl rfl rfl hl.1 (Nat.le_of_ble_eq_true rfl) dL_floorKey_4 (by decide) (by decide) ⟨by decide, by decide⟩ (fun E ce q9 H1 l1 h9 => by cases h9) (fun v9 H1 locs hv hk hP1 hS => ?_)
    obtain rfl : v9 = some (.int v) := (Sum.inr.inj hv).symm
    change W _ _ _ _ _ _ _ _ _ _ _ _ _ _ _ (F0 _ _ _ [.int v, .int 0, .ref ob])
    have hP9 : va_P g.1 pq_cl ([(ob, .inl (g.2 3, 1, .inr (.inl (f))))] ++ mainW g a T1) H1 := va_P.app (pq_kp (pq_P1 hP) (pq_Dx hD) hk) hP1
    have hD9 : va_D A ([(ob, .inl (g.2 3, 1, .inr (.inl (f))))] ++ mainW g a T1) := pq_adr hD (ad_app rfl (ad_X6 _ _))
    clear hk hP1 hP hD
    refine lv_i2l hx hb dL_floorKey_7 rfl ?_
    refine va_last hx hb hK.1 hP9 hD9 hS 0 3 rfl rfl pq_in01 dL_floorKey_8 (fun H2 locs hP2 _ hS => ?_)
    refine lv_goto (tgt := 15) hx hb dL_floorKey_9 (by decide) ?_
    refine lv_iconst (v := 0) hx hb dL_floorKey_15 (by decide) ?_
    exact hend _ ls _ _ _ _ _ dL_floorKey_16 (Option.some.inj hr) hP2 hS (by decide) (by decide)
set_option maxHeartbeats 4000000 in
set_option maxRecDepth 100000 in
theorem c_L_ceilingKey (l : Launch) (g : pq_g) (a : Nat → Nat) (ob : Nat) (f : Nat → Int64) (T : MainS) (p1 : Int32) (hst : l.stackTraces = false) (o : String ⊕ Int32) (T1 : MainS) (hf : f_X6_ceilingKey T p1 = some (o, T1)) (r : Int32) (hr : pq_cd ["java/util/NoSuchElementException"] o = some r) : pq_H l yL_ceilingKey cL_ceilingKey 4 [(0, 9, 12, 21)] 8 1 g ([(ob, .inl (g.2 3, 1, .inr (.inl (f))))] ++ mainW g a T) [.ref (a 0), .int p1, .ref ob] r ([(ob, .inl (g.2 3, 1, .inr (.inl (pq_nf f (fun v => v.toInt64) o))))] ++ mainW g a T1) := by
  refine pq_H.of (by decide) rfl (Nat.le_of_ble_eq_true rfl) rfl ?_
  intro p e s m below meth c ls Q A S htab hP hK hD hS hA hT hL hl hend
  obtain ⟨hx, hb, hml, hown, hts⟩ := id S
  refine lv_aload_n hx hb dL_ceilingKey_0 rfl (lv_at hl 2 rfl) ?_
  refine lv_iconst (v := 0) hx hb dL_ceilingKey_1 (by decide) ?_
  refine lv_aload_n hx hb dL_ceilingKey_2 rfl (lv_at hl 0 rfl) ?_
  refine lv_iload_n hx hb dL_ceilingKey_3 rfl (lv_at hl 1 rfl) ?_
  rcases o with E0 | v
  · refine pq_cXV S (c_X6_ceilingKey l g a T p1 hst (.inl E0) T1 hf) vv_L_45 hK hT (pq_P2 hP) (pq_D2 hD) hS hA rfl rfl rfl rfl rfl hl.1 (Nat.le_of_ble_eq_true rfl) dL_ceilingKey_4 (by decide) (by decide) ⟨by decide, by decide⟩ (fun E ce q9 H1 locs1 hE hk hP1 hS1 hce hcv hcl => ?_) (fun v H1 l1 h9 => by cases h9)
    obtain rfl : E0 = E := Sum.inl.inj hE
    have hP9 := va_P.app (pq_kp (pq_P1 hP) (pq_Dx hD) hk) hP1
    by_cases h1 : E0 = "java/util/NoSuchElementException"
    · subst h1
      refine pq_catch (E := "java/util/NoSuchElementException") S hT hL [] (0, 9, 12, 21) [] htab (by decide) (by intro z hz; cases hz) (by decide) (by decide) vc_L_21 hce hcv hcl ?_
      refine lv_astore_n (lv' := [(3, .ref q9), (0, .ref (a 0)), (1, .int p1), (2, .ref ob)]) hx hb dL_ceilingKey_12 rfl hl (by decide) rfl (fun ls hl => ?_)
      refine lv_iconst (v := 1) hx hb dL_ceilingKey_13 (by decide) ?_
      exact hend _ ls _ _ _ _ _ dL_ceilingKey_14 (Option.some.inj hr) hP9 hS1 (by decide) (by decide)
    exact absurd hr (by simp [pq_cd, pq_cdF, h1])
  · refine pq_cXV S (c_X6_ceilingKey l g a T p1 hst (.inr v) T1 hf) vv_L_45 hK hT (pq_P2 hP) (pq_D2 hD) hS hA rfl rfl rfl rfl rfl hl.1 (Nat.le_of_ble_eq_true rfl) dL_ceilingKey_4 (by decide) (by decide) ⟨by decide, by decide⟩ (fun E ce q9 H1 l1 h9 => by cases h9) (fun v9 H1 locs hv hk hP1 hS => ?_)
    obtain rfl : v9 = some (.int v) := (Sum.inr.inj hv).symm
    change W _ _ _ _ _ _ _ _ _ _ _ _ _ _ _ (F0 _ _ _ [.int v, .int 0, .ref ob])
    have hP9 : va_P g.1 pq_cl ([(ob, .inl (g.2 3, 1, .inr (.inl (f))))] ++ mainW g a T1) H1 := va_P.app (pq_kp (pq_P1 hP) (pq_Dx hD) hk) hP1
    have hD9 : va_D A ([(ob, .inl (g.2 3, 1, .inr (.inl (f))))] ++ mainW g a T1) := pq_adr hD (ad_app rfl (ad_X6 _ _))
    clear hk hP1 hP hD
    refine lv_i2l hx hb dL_ceilingKey_7 rfl ?_
    refine va_last hx hb hK.1 hP9 hD9 hS 0 3 rfl rfl pq_in01 dL_ceilingKey_8 (fun H2 locs hP2 _ hS => ?_)
    refine lv_goto (tgt := 15) hx hb dL_ceilingKey_9 (by decide) ?_
    refine lv_iconst (v := 0) hx hb dL_ceilingKey_15 (by decide) ?_
    exact hend _ ls _ _ _ _ _ dL_ceilingKey_16 (Option.some.inj hr) hP2 hS (by decide) (by decide)
set_option maxHeartbeats 4000000 in
set_option maxRecDepth 100000 in
theorem c_L_nearestKey (l : Launch) (g : pq_g) (a : Nat → Nat) (ob : Nat) (f : Nat → Int64) (T : MainS) (p1 : Int32) (hst : l.stackTraces = false) (o : String ⊕ Int32) (T1 : MainS) (hf : f_X6_nearestKey T p1 = some (o, T1)) (r : Int32) (hr : pq_cd ["java/lang/IllegalArgumentException", "java/util/NoSuchElementException"] o = some r) : pq_H l yL_nearestKey cL_nearestKey 4 [(0, 9, 12, 13), (0, 9, 15, 21)] 8 2 g ([(ob, .inl (g.2 3, 1, .inr (.inl (f))))] ++ mainW g a T) [.ref (a 0), .int p1, .ref ob] r ([(ob, .inl (g.2 3, 1, .inr (.inl (pq_nf f (fun v => v.toInt64) o))))] ++ mainW g a T1) := by
  refine pq_H.of (by decide) rfl (Nat.le_of_ble_eq_true rfl) rfl ?_
  intro p e s m below meth c ls Q A S htab hP hK hD hS hA hT hL hl hend
  obtain ⟨hx, hb, hml, hown, hts⟩ := id S
  refine lv_aload_n hx hb dL_nearestKey_0 rfl (lv_at hl 2 rfl) ?_
  refine lv_iconst (v := 0) hx hb dL_nearestKey_1 (by decide) ?_
  refine lv_aload_n hx hb dL_nearestKey_2 rfl (lv_at hl 0 rfl) ?_
  refine lv_iload_n hx hb dL_nearestKey_3 rfl (lv_at hl 1 rfl) ?_
  rcases o with E0 | v
  · refine pq_cXV S (c_X6_nearestKey l g a T p1 hst (.inl E0) T1 hf) vv_L_48 hK hT (pq_P2 hP) (pq_D2 hD) hS hA rfl rfl rfl rfl rfl hl.1 (Nat.le_of_ble_eq_true rfl) dL_nearestKey_4 (by decide) (by decide) ⟨by decide, by decide⟩ (fun E ce q9 H1 locs1 hE hk hP1 hS1 hce hcv hcl => ?_) (fun v H1 l1 h9 => by cases h9)
    obtain rfl : E0 = E := Sum.inl.inj hE
    have hP9 := va_P.app (pq_kp (pq_P1 hP) (pq_Dx hD) hk) hP1
    by_cases h1 : E0 = "java/lang/IllegalArgumentException"
    · subst h1
      refine pq_catch (E := "java/lang/IllegalArgumentException") S hT hL [] (0, 9, 12, 13) [(0, 9, 15, 21)] htab (by decide) (by intro z hz; cases hz) (by decide) (by decide) vc_L_13 hce hcv hcl ?_
      refine lv_astore_n (lv' := [(3, .ref q9), (0, .ref (a 0)), (1, .int p1), (2, .ref ob)]) hx hb dL_nearestKey_12 rfl hl (by decide) rfl (fun ls hl => ?_)
      refine lv_iconst (v := 1) hx hb dL_nearestKey_13 (by decide) ?_
      exact hend _ ls _ _ _ _ _ dL_nearestKey_14 (Option.some.inj hr) hP9 hS1 (by decide) (by decide)
    by_cases h2 : E0 = "java/util/NoSuchElementException"
    · subst h2
      refine pq_catch (E := "java/util/NoSuchElementException") S hT hL [((0, 9, 12, 13), "java/lang/IllegalArgumentException")] (0, 9, 15, 21) [] htab (by decide) (by intro z hz; simp only [List.mem_cons, List.not_mem_nil, or_false] at hz; rcases hz with rfl; exact ⟨by decide, vc_L_13, by decide, by decide⟩) (by decide) (by decide) vc_L_21 hce hcv hcl ?_
      refine lv_astore_n (lv' := [(3, .ref q9), (0, .ref (a 0)), (1, .int p1), (2, .ref ob)]) hx hb dL_nearestKey_15 rfl hl (by decide) rfl (fun ls hl => ?_)
      refine lv_iconst (v := 2) hx hb dL_nearestKey_16 (by decide) ?_
      exact hend _ ls _ _ _ _ _ dL_nearestKey_17 (Option.some.inj hr) hP9 hS1 (by decide) (by decide)
    exact absurd hr (by simp [pq_cd, pq_cdF, h1, h2])
  · refine pq_cXV S (c_X6_nearestKey l g a T p1 hst (.inr v) T1 hf) vv_L_48 hK hT (pq_P2 hP) (pq_D2 hD) hS hA rfl rfl rfl rfl rfl hl.1 (Nat.le_of_ble_eq_true rfl) dL_nearestKey_4 (by decide) (by decide) ⟨by decide, by decide⟩ (fun E ce q9 H1 l1 h9 => by cases h9) (fun v9 H1 locs hv hk hP1 hS => ?_)
    obtain rfl : v9 = some (.int v) := (Sum.inr.inj hv).symm
    change W _ _ _ _ _ _ _ _ _ _ _ _ _ _ _ (F0 _ _ _ [.int v, .int 0, .ref ob])
    have hP9 : va_P g.1 pq_cl ([(ob, .inl (g.2 3, 1, .inr (.inl (f))))] ++ mainW g a T1) H1 := va_P.app (pq_kp (pq_P1 hP) (pq_Dx hD) hk) hP1
    have hD9 : va_D A ([(ob, .inl (g.2 3, 1, .inr (.inl (f))))] ++ mainW g a T1) := pq_adr hD (ad_app rfl (ad_X6 _ _))
    clear hk hP1 hP hD
    refine lv_i2l hx hb dL_nearestKey_7 rfl ?_
    refine va_last hx hb hK.1 hP9 hD9 hS 0 3 rfl rfl pq_in01 dL_nearestKey_8 (fun H2 locs hP2 _ hS => ?_)
    refine lv_goto (tgt := 18) hx hb dL_nearestKey_9 (by decide) ?_
    refine lv_iconst (v := 0) hx hb dL_nearestKey_18 (by decide) ?_
    exact hend _ ls _ _ _ _ _ dL_nearestKey_19 (Option.some.inj hr) hP2 hS (by decide) (by decide)
set_option maxHeartbeats 4000000 in
set_option maxRecDepth 100000 in
theorem c_L_keyAt (l : Launch) (g : pq_g) (a : Nat → Nat) (ob : Nat) (f : Nat → Int64) (T : MainS) (p1 : Int32) (hst : l.stackTraces = false) (o : String ⊕ Int32) (T1 : MainS) (hf : f_X6_keyAt T p1 = some (o, T1)) (r : Int32) (hr : pq_cd ["java/util/NoSuchElementException"] o = some r) : pq_H l yL_keyAt cL_keyAt 4 [(0, 9, 12, 21)] 8 1 g ([(ob, .inl (g.2 3, 1, .inr (.inl (f))))] ++ mainW g a T) [.ref (a 0), .int p1, .ref ob] r ([(ob, .inl (g.2 3, 1, .inr (.inl (pq_nf f (fun v => v.toInt64) o))))] ++ mainW g a T1) := by
  refine pq_H.of (by decide) rfl (Nat.le_of_ble_eq_true rfl) rfl ?_
  intro p e s m below meth c ls Q A S htab hP hK hD hS hA hT hL hl hend
  obtain ⟨hx, hb, hml, hown, hts⟩ := id S
  refine lv_aload_n hx hb dL_keyAt_0 rfl (lv_at hl 2 rfl) ?_
  refine lv_iconst (v := 0) hx hb dL_keyAt_1 (by decide) ?_
  refine lv_aload_n hx hb dL_keyAt_2 rfl (lv_at hl 0 rfl) ?_
  refine lv_iload_n hx hb dL_keyAt_3 rfl (lv_at hl 1 rfl) ?_
  rcases o with E0 | v
  · refine pq_cXV S (c_X6_keyAt l g a T p1 hst (.inl E0) T1 hf) vv_L_51 hK hT (pq_P2 hP) (pq_D2 hD) hS hA rfl rfl rfl rfl rfl hl.1 (Nat.le_of_ble_eq_true rfl) dL_keyAt_4 (by decide) (by decide) ⟨by decide, by decide⟩ (fun E ce q9 H1 locs1 hE hk hP1 hS1 hce hcv hcl => ?_) (fun v H1 l1 h9 => by cases h9)
    obtain rfl : E0 = E := Sum.inl.inj hE
    have hP9 := va_P.app (pq_kp (pq_P1 hP) (pq_Dx hD) hk) hP1
    by_cases h1 : E0 = "java/util/NoSuchElementException"
    · subst h1
      refine pq_catch (E := "java/util/NoSuchElementException") S hT hL [] (0, 9, 12, 21) [] htab (by decide) (by intro z hz; cases hz) (by decide) (by decide) vc_L_21 hce hcv hcl ?_
      refine lv_astore_n (lv' := [(3, .ref q9), (0, .ref (a 0)), (1, .int p1), (2, .ref ob)]) hx hb dL_keyAt_12 rfl hl (by decide) rfl (fun ls hl => ?_)
      refine lv_iconst (v := 1) hx hb dL_keyAt_13 (by decide) ?_
      exact hend _ ls _ _ _ _ _ dL_keyAt_14 (Option.some.inj hr) hP9 hS1 (by decide) (by decide)
    exact absurd hr (by simp [pq_cd, pq_cdF, h1])
  · refine pq_cXV S (c_X6_keyAt l g a T p1 hst (.inr v) T1 hf) vv_L_51 hK hT (pq_P2 hP) (pq_D2 hD) hS hA rfl rfl rfl rfl rfl hl.1 (Nat.le_of_ble_eq_true rfl) dL_keyAt_4 (by decide) (by decide) ⟨by decide, by decide⟩ (fun E ce q9 H1 l1 h9 => by cases h9) (fun v9 H1 locs hv hk hP1 hS => ?_)
    obtain rfl : v9 = some (.int v) := (Sum.inr.inj hv).symm
    change W _ _ _ _ _ _ _ _ _ _ _ _ _ _ _ (F0 _ _ _ [.int v, .int 0, .ref ob])
    have hP9 : va_P g.1 pq_cl ([(ob, .inl (g.2 3, 1, .inr (.inl (f))))] ++ mainW g a T1) H1 := va_P.app (pq_kp (pq_P1 hP) (pq_Dx hD) hk) hP1
    have hD9 : va_D A ([(ob, .inl (g.2 3, 1, .inr (.inl (f))))] ++ mainW g a T1) := pq_adr hD (ad_app rfl (ad_X6 _ _))
    clear hk hP1 hP hD
    refine lv_i2l hx hb dL_keyAt_7 rfl ?_
    refine va_last hx hb hK.1 hP9 hD9 hS 0 3 rfl rfl pq_in01 dL_keyAt_8 (fun H2 locs hP2 _ hS => ?_)
    refine lv_goto (tgt := 15) hx hb dL_keyAt_9 (by decide) ?_
    refine lv_iconst (v := 0) hx hb dL_keyAt_15 (by decide) ?_
    exact hend _ ls _ _ _ _ _ dL_keyAt_16 (Option.some.inj hr) hP2 hS (by decide) (by decide)
set_option maxHeartbeats 4000000 in
set_option maxRecDepth 100000 in
theorem c_L_keyByPriority (l : Launch) (g : pq_g) (a : Nat → Nat) (ob : Nat) (f : Nat → Int64) (T : MainS) (p1 : Int32) (hst : l.stackTraces = false) (o : String ⊕ Int32) (T1 : MainS) (hf : f_X6_keyByPriority T p1 = some (o, T1)) (r : Int32) (hr : pq_cd ["java/util/NoSuchElementException"] o = some r) : pq_H l yL_keyByPriority cL_keyByPriority 4 [(0, 9, 12, 21)] 8 1 g ([(ob, .inl (g.2 3, 1, .inr (.inl (f))))] ++ mainW g a T) [.ref (a 0), .int p1, .ref ob] r ([(ob, .inl (g.2 3, 1, .inr (.inl (pq_nf f (fun v => v.toInt64) o))))] ++ mainW g a T1) := by
  refine pq_H.of (by decide) rfl (Nat.le_of_ble_eq_true rfl) rfl ?_
  intro p e s m below meth c ls Q A S htab hP hK hD hS hA hT hL hl hend
  obtain ⟨hx, hb, hml, hown, hts⟩ := id S
  refine lv_aload_n hx hb dL_keyByPriority_0 rfl (lv_at hl 2 rfl) ?_
  refine lv_iconst (v := 0) hx hb dL_keyByPriority_1 (by decide) ?_
  refine lv_aload_n hx hb dL_keyByPriority_2 rfl (lv_at hl 0 rfl) ?_
  refine lv_iload_n hx hb dL_keyByPriority_3 rfl (lv_at hl 1 rfl) ?_
  rcases o with E0 | v
  · refine pq_cXV S (c_X6_keyByPriority l g a T p1 hst (.inl E0) T1 hf) vv_L_54 hK hT (pq_P2 hP) (pq_D2 hD) hS hA rfl rfl rfl rfl rfl hl.1 (Nat.le_of_ble_eq_true rfl) dL_keyByPriority_4 (by decide) (by decide) ⟨by decide, by decide⟩ (fun E ce q9 H1 locs1 hE hk hP1 hS1 hce hcv hcl => ?_) (fun v H1 l1 h9 => by cases h9)
    obtain rfl : E0 = E := Sum.inl.inj hE
    have hP9 := va_P.app (pq_kp (pq_P1 hP) (pq_Dx hD) hk) hP1
    by_cases h1 : E0 = "java/util/NoSuchElementException"
    · subst h1
      refine pq_catch (E := "java/util/NoSuchElementException") S hT hL [] (0, 9, 12, 21) [] htab (by decide) (by intro z hz; cases hz) (by decide) (by decide) vc_L_21 hce hcv hcl ?_
      refine lv_astore_n (lv' := [(3, .ref q9), (0, .ref (a 0)), (1, .int p1), (2, .ref ob)]) hx hb dL_keyByPriority_12 rfl hl (by decide) rfl (fun ls hl => ?_)
      refine lv_iconst (v := 1) hx hb dL_keyByPriority_13 (by decide) ?_
      exact hend _ ls _ _ _ _ _ dL_keyByPriority_14 (Option.some.inj hr) hP9 hS1 (by decide) (by decide)
    exact absurd hr (by simp [pq_cd, pq_cdF, h1])
  · refine pq_cXV S (c_X6_keyByPriority l g a T p1 hst (.inr v) T1 hf) vv_L_54 hK hT (pq_P2 hP) (pq_D2 hD) hS hA rfl rfl rfl rfl rfl hl.1 (Nat.le_of_ble_eq_true rfl) dL_keyByPriority_4 (by decide) (by decide) ⟨by decide, by decide⟩ (fun E ce q9 H1 l1 h9 => by cases h9) (fun v9 H1 locs hv hk hP1 hS => ?_)
    obtain rfl : v9 = some (.int v) := (Sum.inr.inj hv).symm
    change W _ _ _ _ _ _ _ _ _ _ _ _ _ _ _ (F0 _ _ _ [.int v, .int 0, .ref ob])
    have hP9 : va_P g.1 pq_cl ([(ob, .inl (g.2 3, 1, .inr (.inl (f))))] ++ mainW g a T1) H1 := va_P.app (pq_kp (pq_P1 hP) (pq_Dx hD) hk) hP1
    have hD9 : va_D A ([(ob, .inl (g.2 3, 1, .inr (.inl (f))))] ++ mainW g a T1) := pq_adr hD (ad_app rfl (ad_X6 _ _))
    clear hk hP1 hP hD
    refine lv_i2l hx hb dL_keyByPriority_7 rfl ?_
    refine va_last hx hb hK.1 hP9 hD9 hS 0 3 rfl rfl pq_in01 dL_keyByPriority_8 (fun H2 locs hP2 _ hS => ?_)
    refine lv_goto (tgt := 15) hx hb dL_keyByPriority_9 (by decide) ?_
    refine lv_iconst (v := 0) hx hb dL_keyByPriority_15 (by decide) ?_
    exact hend _ ls _ _ _ _ _ dL_keyByPriority_16 (Option.some.inj hr) hP2 hS (by decide) (by decide)
set_option maxHeartbeats 4000000 in
set_option maxRecDepth 100000 in
theorem c_L_root (l : Launch) (g : pq_g) (a : Nat → Nat) (ob : Nat) (f : Nat → Int64) (T : MainS) (hst : l.stackTraces = false) (o : String ⊕ Int32) (T1 : MainS) (hf : f_X6_root T = some (o, T1)) (r : Int32) (hr : pq_cd ["java/util/NoSuchElementException"] o = some r) : pq_H l yL_root cL_root 3 [(0, 8, 11, 21)] 8 1 g ([(ob, .inl (g.2 3, 1, .inr (.inl (f))))] ++ mainW g a T) [.ref (a 0), .ref ob] r ([(ob, .inl (g.2 3, 1, .inr (.inl (pq_nf f (fun v => v.toInt64) o))))] ++ mainW g a T1) := by
  refine pq_H.of (by decide) rfl (Nat.le_of_ble_eq_true rfl) rfl ?_
  intro p e s m below meth c ls Q A S htab hP hK hD hS hA hT hL hl hend
  obtain ⟨hx, hb, hml, hown, hts⟩ := id S
  refine lv_aload_n hx hb dL_root_0 rfl (lv_at hl 1 rfl) ?_
  refine lv_iconst (v := 0) hx hb dL_root_1 (by decide) ?_
  refine lv_aload_n hx hb dL_root_2 rfl (lv_at hl 0 rfl) ?_
  rcases o with E0 | v
  · refine pq_cXV S (c_X6_root l g a T hst (.inl E0) T1 hf) vv_L_57 hK hT (pq_P2 hP) (pq_D2 hD) hS hA rfl rfl rfl rfl rfl hl.1 (Nat.le_of_ble_eq_true rfl) dL_root_3 (by decide) (by decide) ⟨by decide, by decide⟩ (fun E ce q9 H1 locs1 hE hk hP1 hS1 hce hcv hcl => ?_) (fun v H1 l1 h9 => by cases h9)
    obtain rfl : E0 = E := Sum.inl.inj hE
    have hP9 := va_P.app (pq_kp (pq_P1 hP) (pq_Dx hD) hk) hP1
    by_cases h1 : E0 = "java/util/NoSuchElementException"
    · subst h1
      refine pq_catch (E := "java/util/NoSuchElementException") S hT hL [] (0, 8, 11, 21) [] htab (by decide) (by intro z hz; cases hz) (by decide) (by decide) vc_L_21 hce hcv hcl ?_
      refine lv_astore_n (lv' := [(2, .ref q9), (0, .ref (a 0)), (1, .ref ob)]) hx hb dL_root_11 rfl hl (by decide) rfl (fun ls hl => ?_)
      refine lv_iconst (v := 1) hx hb dL_root_12 (by decide) ?_
      exact hend _ ls _ _ _ _ _ dL_root_13 (Option.some.inj hr) hP9 hS1 (by decide) (by decide)
    exact absurd hr (by simp [pq_cd, pq_cdF, h1])
  · refine pq_cXV S (c_X6_root l g a T hst (.inr v) T1 hf) vv_L_57 hK hT (pq_P2 hP) (pq_D2 hD) hS hA rfl rfl rfl rfl rfl hl.1 (Nat.le_of_ble_eq_true rfl) dL_root_3 (by decide) (by decide) ⟨by decide, by decide⟩ (fun E ce q9 H1 l1 h9 => by cases h9) (fun v9 H1 locs hv hk hP1 hS => ?_)
    obtain rfl : v9 = some (.int v) := (Sum.inr.inj hv).symm
    change W _ _ _ _ _ _ _ _ _ _ _ _ _ _ _ (F0 _ _ _ [.int v, .int 0, .ref ob])
    have hP9 : va_P g.1 pq_cl ([(ob, .inl (g.2 3, 1, .inr (.inl (f))))] ++ mainW g a T1) H1 := va_P.app (pq_kp (pq_P1 hP) (pq_Dx hD) hk) hP1
    have hD9 : va_D A ([(ob, .inl (g.2 3, 1, .inr (.inl (f))))] ++ mainW g a T1) := pq_adr hD (ad_app rfl (ad_X6 _ _))
    clear hk hP1 hP hD
    refine lv_i2l hx hb dL_root_6 rfl ?_
    refine va_last hx hb hK.1 hP9 hD9 hS 0 3 rfl rfl pq_in01 dL_root_7 (fun H2 locs hP2 _ hS => ?_)
    refine lv_goto (tgt := 14) hx hb dL_root_8 (by decide) ?_
    refine lv_iconst (v := 0) hx hb dL_root_14 (by decide) ?_
    exact hend _ ls _ _ _ _ _ dL_root_15 (Option.some.inj hr) hP2 hS (by decide) (by decide)
set_option maxHeartbeats 4000000 in
set_option maxRecDepth 100000 in
theorem c_L_hasLeft (l : Launch) (g : pq_g) (a : Nat → Nat) (ob : Nat) (f : Nat → Int64) (T : MainS) (p1 : Int32) (hst : l.stackTraces = false) (o : String ⊕ Int32) (T1 : MainS) (hf : f_X6_hasLeft T p1 = some (o, T1)) (r : Int32) (hr : pq_cd ["java/util/NoSuchElementException"] o = some r) : pq_H l yL_hasLeft cL_hasLeft 4 [(0, 16, 19, 21)] 8 1 g ([(ob, .inl (g.2 3, 1, .inr (.inl (f))))] ++ mainW g a T) [.ref (a 0), .int p1, .ref ob] r ([(ob, .inl (g.2 3, 1, .inr (.inl (pq_nf f (fun v => if v = 0 then 0 else 1) o))))] ++ mainW g a T1) := by
  refine pq_H.of (by decide) rfl (Nat.le_of_ble_eq_true rfl) rfl ?_
  intro p e s m below meth c ls Q A S htab hP hK hD hS hA hT hL hl hend
  obtain ⟨hx, hb, hml, hown, hts⟩ := id S
  refine lv_aload_n hx hb dL_hasLeft_0 rfl (lv_at hl 2 rfl) ?_
  refine lv_iconst (v := 0) hx hb dL_hasLeft_1 (by decide) ?_
  refine lv_aload_n hx hb dL_hasLeft_2 rfl (lv_at hl 0 rfl) ?_
  refine lv_iload_n hx hb dL_hasLeft_3 rfl (lv_at hl 1 rfl) ?_
  rcases o with E0 | v
  · refine pq_cXV S (c_X6_hasLeft l g a T p1 hst (.inl E0) T1 hf) vv_L_60 hK hT (pq_P2 hP) (pq_D2 hD) hS hA rfl rfl rfl rfl rfl hl.1 (Nat.le_of_ble_eq_true rfl) dL_hasLeft_4 (by decide) (by decide) ⟨by decide, by decide⟩ (fun E ce q9 H1 locs1 hE hk hP1 hS1 hce hcv hcl => ?_) (fun v H1 l1 h9 => by cases h9)
    obtain rfl : E0 = E := Sum.inl.inj hE
    have hP9 := va_P.app (pq_kp (pq_P1 hP) (pq_Dx hD) hk) hP1
    by_cases h1 : E0 = "java/util/NoSuchElementException"
    · subst h1
      refine pq_catch (E := "java/util/NoSuchElementException") S hT hL [] (0, 16, 19, 21) [] htab (by decide) (by intro z hz; cases hz) (by decide) (by decide) vc_L_21 hce hcv hcl ?_
      refine lv_astore_n (lv' := [(3, .ref q9), (0, .ref (a 0)), (1, .int p1), (2, .ref ob)]) hx hb dL_hasLeft_19 rfl hl (by decide) rfl (fun ls hl => ?_)
      refine lv_iconst (v := 1) hx hb dL_hasLeft_20 (by decide) ?_
      exact hend _ ls _ _ _ _ _ dL_hasLeft_21 (Option.some.inj hr) hP9 hS1 (by decide) (by decide)
    exact absurd hr (by simp [pq_cd, pq_cdF, h1])
  · refine pq_cXV S (c_X6_hasLeft l g a T p1 hst (.inr v) T1 hf) vv_L_60 hK hT (pq_P2 hP) (pq_D2 hD) hS hA rfl rfl rfl rfl rfl hl.1 (Nat.le_of_ble_eq_true rfl) dL_hasLeft_4 (by decide) (by decide) ⟨by decide, by decide⟩ (fun E ce q9 H1 l1 h9 => by cases h9) (fun v9 H1 locs hv hk hP1 hS => ?_)
    obtain rfl : v9 = some (.int v) := (Sum.inr.inj hv).symm
    change W _ _ _ _ _ _ _ _ _ _ _ _ _ _ _ (F0 _ _ _ [.int v, .int 0, .ref ob])
    have hP9 : va_P g.1 pq_cl ([(ob, .inl (g.2 3, 1, .inr (.inl (f))))] ++ mainW g a T1) H1 := va_P.app (pq_kp (pq_P1 hP) (pq_Dx hD) hk) hP1
    have hD9 : va_D A ([(ob, .inl (g.2 3, 1, .inr (.inl (f))))] ++ mainW g a T1) := pq_adr hD (ad_app rfl (ad_X6 _ _))
    clear hk hP1 hP hD
    refine lv_if_eq (tgt := 14) hx hb dL_hasLeft_7 (by decide) (fun h1 => ?_) (fun h1 => ?_)
    · refine lv_lconst (v := 0) hx hb dL_hasLeft_14 (by decide) ?_
      replace hP9 := hP9
      refine va_last hx hb hK.1 hP9 hD9 hS 0 3 rfl rfl pq_in01 dL_hasLeft_15 (fun H2 locs hP2 _ hS => ?_)
      refine lv_goto (tgt := 22) hx hb dL_hasLeft_16 (by decide) ?_
      refine lv_iconst (v := 0) hx hb dL_hasLeft_22 (by decide) ?_
      exact hend _ ls _ _ _ _ _ dL_hasLeft_23 (Option.some.inj hr) (by subst h1; exact hP2) hS (by decide) (by decide)
    · refine lv_lconst (v := 1) hx hb dL_hasLeft_10 (by decide) ?_
      refine lv_goto (tgt := 15) hx hb dL_hasLeft_11 (by decide) ?_
      refine va_last hx hb hK.1 hP9 hD9 hS 0 3 rfl rfl pq_in01 dL_hasLeft_15 (fun H2 locs hP2 _ hS => ?_)
      refine lv_goto (tgt := 22) hx hb dL_hasLeft_16 (by decide) ?_
      refine lv_iconst (v := 0) hx hb dL_hasLeft_22 (by decide) ?_
      exact hend _ ls _ _ _ _ _ dL_hasLeft_23 (Option.some.inj hr) (by have e9 : (if v = 0 then (0 : Int64) else 1) = 1 := if_neg h1; show va_P g.1 pq_cl ([(ob, .inl (g.2 3, 1, .inr (.inl (fun j => if j = 0 then (if v = 0 then (0 : Int64) else 1) else f j))))] ++ mainW g a T1) _; rw [e9]; exact hP2) hS (by decide) (by decide)
set_option maxHeartbeats 4000000 in
set_option maxRecDepth 100000 in
theorem c_L_hasRight (l : Launch) (g : pq_g) (a : Nat → Nat) (ob : Nat) (f : Nat → Int64) (T : MainS) (p1 : Int32) (hst : l.stackTraces = false) (o : String ⊕ Int32) (T1 : MainS) (hf : f_X6_hasRight T p1 = some (o, T1)) (r : Int32) (hr : pq_cd ["java/util/NoSuchElementException"] o = some r) : pq_H l yL_hasRight cL_hasRight 4 [(0, 16, 19, 21)] 8 1 g ([(ob, .inl (g.2 3, 1, .inr (.inl (f))))] ++ mainW g a T) [.ref (a 0), .int p1, .ref ob] r ([(ob, .inl (g.2 3, 1, .inr (.inl (pq_nf f (fun v => if v = 0 then 0 else 1) o))))] ++ mainW g a T1) := by
  refine pq_H.of (by decide) rfl (Nat.le_of_ble_eq_true rfl) rfl ?_
  intro p e s m below meth c ls Q A S htab hP hK hD hS hA hT hL hl hend
  obtain ⟨hx, hb, hml, hown, hts⟩ := id S
  refine lv_aload_n hx hb dL_hasRight_0 rfl (lv_at hl 2 rfl) ?_
  refine lv_iconst (v := 0) hx hb dL_hasRight_1 (by decide) ?_
  refine lv_aload_n hx hb dL_hasRight_2 rfl (lv_at hl 0 rfl) ?_
  refine lv_iload_n hx hb dL_hasRight_3 rfl (lv_at hl 1 rfl) ?_
  rcases o with E0 | v
  · refine pq_cXV S (c_X6_hasRight l g a T p1 hst (.inl E0) T1 hf) vv_L_64 hK hT (pq_P2 hP) (pq_D2 hD) hS hA rfl rfl rfl rfl rfl hl.1 (Nat.le_of_ble_eq_true rfl) dL_hasRight_4 (by decide) (by decide) ⟨by decide, by decide⟩ (fun E ce q9 H1 locs1 hE hk hP1 hS1 hce hcv hcl => ?_) (fun v H1 l1 h9 => by cases h9)
    obtain rfl : E0 = E := Sum.inl.inj hE
    have hP9 := va_P.app (pq_kp (pq_P1 hP) (pq_Dx hD) hk) hP1
    by_cases h1 : E0 = "java/util/NoSuchElementException"
    · subst h1
      refine pq_catch (E := "java/util/NoSuchElementException") S hT hL [] (0, 16, 19, 21) [] htab (by decide) (by intro z hz; cases hz) (by decide) (by decide) vc_L_21 hce hcv hcl ?_
      refine lv_astore_n (lv' := [(3, .ref q9), (0, .ref (a 0)), (1, .int p1), (2, .ref ob)]) hx hb dL_hasRight_19 rfl hl (by decide) rfl (fun ls hl => ?_)
      refine lv_iconst (v := 1) hx hb dL_hasRight_20 (by decide) ?_
      exact hend _ ls _ _ _ _ _ dL_hasRight_21 (Option.some.inj hr) hP9 hS1 (by decide) (by decide)
    exact absurd hr (by simp [pq_cd, pq_cdF, h1])
  · refine pq_cXV S (c_X6_hasRight l g a T p1 hst (.inr v) T1 hf) vv_L_64 hK hT (pq_P2 hP) (pq_D2 hD) hS hA rfl rfl rfl rfl rfl hl.1 (Nat.le_of_ble_eq_true rfl) dL_hasRight_4 (by decide) (by decide) ⟨by decide, by decide⟩ (fun E ce q9 H1 l1 h9 => by cases h9) (fun v9 H1 locs hv hk hP1 hS => ?_)
    obtain rfl : v9 = some (.int v) := (Sum.inr.inj hv).symm
    change W _ _ _ _ _ _ _ _ _ _ _ _ _ _ _ (F0 _ _ _ [.int v, .int 0, .ref ob])
    have hP9 : va_P g.1 pq_cl ([(ob, .inl (g.2 3, 1, .inr (.inl (f))))] ++ mainW g a T1) H1 := va_P.app (pq_kp (pq_P1 hP) (pq_Dx hD) hk) hP1
    have hD9 : va_D A ([(ob, .inl (g.2 3, 1, .inr (.inl (f))))] ++ mainW g a T1) := pq_adr hD (ad_app rfl (ad_X6 _ _))
    clear hk hP1 hP hD
    refine lv_if_eq (tgt := 14) hx hb dL_hasRight_7 (by decide) (fun h1 => ?_) (fun h1 => ?_)
    · refine lv_lconst (v := 0) hx hb dL_hasRight_14 (by decide) ?_
      replace hP9 := hP9
      refine va_last hx hb hK.1 hP9 hD9 hS 0 3 rfl rfl pq_in01 dL_hasRight_15 (fun H2 locs hP2 _ hS => ?_)
      refine lv_goto (tgt := 22) hx hb dL_hasRight_16 (by decide) ?_
      refine lv_iconst (v := 0) hx hb dL_hasRight_22 (by decide) ?_
      exact hend _ ls _ _ _ _ _ dL_hasRight_23 (Option.some.inj hr) (by subst h1; exact hP2) hS (by decide) (by decide)
    · refine lv_lconst (v := 1) hx hb dL_hasRight_10 (by decide) ?_
      refine lv_goto (tgt := 15) hx hb dL_hasRight_11 (by decide) ?_
      refine va_last hx hb hK.1 hP9 hD9 hS 0 3 rfl rfl pq_in01 dL_hasRight_15 (fun H2 locs hP2 _ hS => ?_)
      refine lv_goto (tgt := 22) hx hb dL_hasRight_16 (by decide) ?_
      refine lv_iconst (v := 0) hx hb dL_hasRight_22 (by decide) ?_
      exact hend _ ls _ _ _ _ _ dL_hasRight_23 (Option.some.inj hr) (by have e9 : (if v = 0 then (0 : Int64) else 1) = 1 := if_neg h1; show va_P g.1 pq_cl ([(ob, .inl (g.2 3, 1, .inr (.inl (fun j => if j = 0 then (if v = 0 then (0 : Int64) else 1) else f j))))] ++ mainW g a T1) _; rw [e9]; exact hP2) hS (by decide) (by decide)
set_option maxHeartbeats 4000000 in
set_option maxRecDepth 100000 in
theorem c_L_leftOf (l : Launch) (g : pq_g) (a : Nat → Nat) (ob : Nat) (f : Nat → Int64) (T : MainS) (p1 : Int32) (hst : l.stackTraces = false) (o : String ⊕ Int32) (T1 : MainS) (hf : f_X6_leftOf T p1 = some (o, T1)) (r : Int32) (hr : pq_cd ["java/util/NoSuchElementException"] o = some r) : pq_H l yL_leftOf cL_leftOf 4 [(0, 9, 12, 21)] 8 2 g ([(ob, .inl (g.2 3, 1, .inr (.inl (f))))] ++ mainW g a T) [.ref (a 0), .int p1, .ref ob] r ([(ob, .inl (g.2 3, 1, .inr (.inl (pq_nf f (fun v => v.toInt64) o))))] ++ mainW g a T1) := by
  refine pq_H.of (by decide) rfl (Nat.le_of_ble_eq_true rfl) rfl ?_
  intro p e s m below meth c ls Q A S htab hP hK hD hS hA hT hL hl hend
  obtain ⟨hx, hb, hml, hown, hts⟩ := id S
  refine lv_aload_n hx hb dL_leftOf_0 rfl (lv_at hl 2 rfl) ?_
  refine lv_iconst (v := 0) hx hb dL_leftOf_1 (by decide) ?_
  refine lv_aload_n hx hb dL_leftOf_2 rfl (lv_at hl 0 rfl) ?_
  refine lv_iload_n hx hb dL_leftOf_3 rfl (lv_at hl 1 rfl) ?_
  rcases o with E0 | v
  · refine pq_cXV S (c_X6_leftOf l g a T p1 hst (.inl E0) T1 hf) vv_L_67 hK hT (pq_P2 hP) (pq_D2 hD) hS hA rfl rfl rfl rfl rfl hl.1 (Nat.le_of_ble_eq_true rfl) dL_leftOf_4 (by decide) (by decide) ⟨by decide, by decide⟩ (fun E ce q9 H1 locs1 hE hk hP1 hS1 hce hcv hcl => ?_) (fun v H1 l1 h9 => by cases h9)
    obtain rfl : E0 = E := Sum.inl.inj hE
    have hP9 := va_P.app (pq_kp (pq_P1 hP) (pq_Dx hD) hk) hP1
    by_cases h1 : E0 = "java/util/NoSuchElementException"
    · subst h1
      refine pq_catch (E := "java/util/NoSuchElementException") S hT hL [] (0, 9, 12, 21) [] htab (by decide) (by intro z hz; cases hz) (by decide) (by decide) vc_L_21 hce hcv hcl ?_
      refine lv_astore_n (lv' := [(3, .ref q9), (0, .ref (a 0)), (1, .int p1), (2, .ref ob)]) hx hb dL_leftOf_12 rfl hl (by decide) rfl (fun ls hl => ?_)
      refine lv_iconst (v := 1) hx hb dL_leftOf_13 (by decide) ?_
      exact hend _ ls _ _ _ _ _ dL_leftOf_14 (Option.some.inj hr) hP9 hS1 (by decide) (by decide)
    exact absurd hr (by simp [pq_cd, pq_cdF, h1])
  · refine pq_cXV S (c_X6_leftOf l g a T p1 hst (.inr v) T1 hf) vv_L_67 hK hT (pq_P2 hP) (pq_D2 hD) hS hA rfl rfl rfl rfl rfl hl.1 (Nat.le_of_ble_eq_true rfl) dL_leftOf_4 (by decide) (by decide) ⟨by decide, by decide⟩ (fun E ce q9 H1 l1 h9 => by cases h9) (fun v9 H1 locs hv hk hP1 hS => ?_)
    obtain rfl : v9 = some (.int v) := (Sum.inr.inj hv).symm
    change W _ _ _ _ _ _ _ _ _ _ _ _ _ _ _ (F0 _ _ _ [.int v, .int 0, .ref ob])
    have hP9 : va_P g.1 pq_cl ([(ob, .inl (g.2 3, 1, .inr (.inl (f))))] ++ mainW g a T1) H1 := va_P.app (pq_kp (pq_P1 hP) (pq_Dx hD) hk) hP1
    have hD9 : va_D A ([(ob, .inl (g.2 3, 1, .inr (.inl (f))))] ++ mainW g a T1) := pq_adr hD (ad_app rfl (ad_X6 _ _))
    clear hk hP1 hP hD
    refine lv_i2l hx hb dL_leftOf_7 rfl ?_
    refine va_last hx hb hK.1 hP9 hD9 hS 0 3 rfl rfl pq_in01 dL_leftOf_8 (fun H2 locs hP2 _ hS => ?_)
    refine lv_goto (tgt := 15) hx hb dL_leftOf_9 (by decide) ?_
    refine lv_iconst (v := 0) hx hb dL_leftOf_15 (by decide) ?_
    exact hend _ ls _ _ _ _ _ dL_leftOf_16 (Option.some.inj hr) hP2 hS (by decide) (by decide)
set_option maxHeartbeats 4000000 in
set_option maxRecDepth 100000 in
theorem c_L_rightOf (l : Launch) (g : pq_g) (a : Nat → Nat) (ob : Nat) (f : Nat → Int64) (T : MainS) (p1 : Int32) (hst : l.stackTraces = false) (o : String ⊕ Int32) (T1 : MainS) (hf : f_X6_rightOf T p1 = some (o, T1)) (r : Int32) (hr : pq_cd ["java/util/NoSuchElementException"] o = some r) : pq_H l yL_rightOf cL_rightOf 4 [(0, 9, 12, 21)] 8 2 g ([(ob, .inl (g.2 3, 1, .inr (.inl (f))))] ++ mainW g a T) [.ref (a 0), .int p1, .ref ob] r ([(ob, .inl (g.2 3, 1, .inr (.inl (pq_nf f (fun v => v.toInt64) o))))] ++ mainW g a T1) := by
  refine pq_H.of (by decide) rfl (Nat.le_of_ble_eq_true rfl) rfl ?_
  intro p e s m below meth c ls Q A S htab hP hK hD hS hA hT hL hl hend
  obtain ⟨hx, hb, hml, hown, hts⟩ := id S
  refine lv_aload_n hx hb dL_rightOf_0 rfl (lv_at hl 2 rfl) ?_
  refine lv_iconst (v := 0) hx hb dL_rightOf_1 (by decide) ?_
  refine lv_aload_n hx hb dL_rightOf_2 rfl (lv_at hl 0 rfl) ?_
  refine lv_iload_n hx hb dL_rightOf_3 rfl (lv_at hl 1 rfl) ?_
  rcases o with E0 | v
  · refine pq_cXV S (c_X6_rightOf l g a T p1 hst (.inl E0) T1 hf) vv_L_70 hK hT (pq_P2 hP) (pq_D2 hD) hS hA rfl rfl rfl rfl rfl hl.1 (Nat.le_of_ble_eq_true rfl) dL_rightOf_4 (by decide) (by decide) ⟨by decide, by decide⟩ (fun E ce q9 H1 locs1 hE hk hP1 hS1 hce hcv hcl => ?_) (fun v H1 l1 h9 => by cases h9)
    obtain rfl : E0 = E := Sum.inl.inj hE
    have hP9 := va_P.app (pq_kp (pq_P1 hP) (pq_Dx hD) hk) hP1
    by_cases h1 : E0 = "java/util/NoSuchElementException"
    · subst h1
      refine pq_catch (E := "java/util/NoSuchElementException") S hT hL [] (0, 9, 12, 21) [] htab (by decide) (by intro z hz; cases hz) (by decide) (by decide) vc_L_21 hce hcv hcl ?_
      refine lv_astore_n (lv' := [(3, .ref q9), (0, .ref (a 0)), (1, .int p1), (2, .ref ob)]) hx hb dL_rightOf_12 rfl hl (by decide) rfl (fun ls hl => ?_)
      refine lv_iconst (v := 1) hx hb dL_rightOf_13 (by decide) ?_
      exact hend _ ls _ _ _ _ _ dL_rightOf_14 (Option.some.inj hr) hP9 hS1 (by decide) (by decide)
    exact absurd hr (by simp [pq_cd, pq_cdF, h1])
  · refine pq_cXV S (c_X6_rightOf l g a T p1 hst (.inr v) T1 hf) vv_L_70 hK hT (pq_P2 hP) (pq_D2 hD) hS hA rfl rfl rfl rfl rfl hl.1 (Nat.le_of_ble_eq_true rfl) dL_rightOf_4 (by decide) (by decide) ⟨by decide, by decide⟩ (fun E ce q9 H1 l1 h9 => by cases h9) (fun v9 H1 locs hv hk hP1 hS => ?_)
    obtain rfl : v9 = some (.int v) := (Sum.inr.inj hv).symm
    change W _ _ _ _ _ _ _ _ _ _ _ _ _ _ _ (F0 _ _ _ [.int v, .int 0, .ref ob])
    have hP9 : va_P g.1 pq_cl ([(ob, .inl (g.2 3, 1, .inr (.inl (f))))] ++ mainW g a T1) H1 := va_P.app (pq_kp (pq_P1 hP) (pq_Dx hD) hk) hP1
    have hD9 : va_D A ([(ob, .inl (g.2 3, 1, .inr (.inl (f))))] ++ mainW g a T1) := pq_adr hD (ad_app rfl (ad_X6 _ _))
    clear hk hP1 hP hD
    refine lv_i2l hx hb dL_rightOf_7 rfl ?_
    refine va_last hx hb hK.1 hP9 hD9 hS 0 3 rfl rfl pq_in01 dL_rightOf_8 (fun H2 locs hP2 _ hS => ?_)
    refine lv_goto (tgt := 15) hx hb dL_rightOf_9 (by decide) ?_
    refine lv_iconst (v := 0) hx hb dL_rightOf_15 (by decide) ?_
    exact hend _ ls _ _ _ _ _ dL_rightOf_16 (Option.some.inj hr) hP2 hS (by decide) (by decide)
set_option maxHeartbeats 4000000 in
set_option maxRecDepth 100000 in
theorem c_L_parentOf (l : Launch) (g : pq_g) (a : Nat → Nat) (ob : Nat) (f : Nat → Int64) (T : MainS) (p1 : Int32) (hst : l.stackTraces = false) (o : String ⊕ Int32) (T1 : MainS) (hf : f_X6_parentOf T p1 = some (o, T1)) (r : Int32) (hr : pq_cd ["java/util/NoSuchElementException"] o = some r) : pq_H l yL_parentOf cL_parentOf 4 [(0, 9, 12, 21)] 8 2 g ([(ob, .inl (g.2 3, 1, .inr (.inl (f))))] ++ mainW g a T) [.ref (a 0), .int p1, .ref ob] r ([(ob, .inl (g.2 3, 1, .inr (.inl (pq_nf f (fun v => v.toInt64) o))))] ++ mainW g a T1) := by
  refine pq_H.of (by decide) rfl (Nat.le_of_ble_eq_true rfl) rfl ?_
  intro p e s m below meth c ls Q A S htab hP hK hD hS hA hT hL hl hend
  obtain ⟨hx, hb, hml, hown, hts⟩ := id S
  refine lv_aload_n hx hb dL_parentOf_0 rfl (lv_at hl 2 rfl) ?_
  refine lv_iconst (v := 0) hx hb dL_parentOf_1 (by decide) ?_
  refine lv_aload_n hx hb dL_parentOf_2 rfl (lv_at hl 0 rfl) ?_
  refine lv_iload_n hx hb dL_parentOf_3 rfl (lv_at hl 1 rfl) ?_
  rcases o with E0 | v
  · refine pq_cXV S (c_X6_parentOf l g a T p1 hst (.inl E0) T1 hf) vv_L_73 hK hT (pq_P2 hP) (pq_D2 hD) hS hA rfl rfl rfl rfl rfl hl.1 (Nat.le_of_ble_eq_true rfl) dL_parentOf_4 (by decide) (by decide) ⟨by decide, by decide⟩ (fun E ce q9 H1 locs1 hE hk hP1 hS1 hce hcv hcl => ?_) (fun v H1 l1 h9 => by cases h9)
    obtain rfl : E0 = E := Sum.inl.inj hE
    have hP9 := va_P.app (pq_kp (pq_P1 hP) (pq_Dx hD) hk) hP1
    by_cases h1 : E0 = "java/util/NoSuchElementException"
    · subst h1
      refine pq_catch (E := "java/util/NoSuchElementException") S hT hL [] (0, 9, 12, 21) [] htab (by decide) (by intro z hz; cases hz) (by decide) (by decide) vc_L_21 hce hcv hcl ?_
      refine lv_astore_n (lv' := [(3, .ref q9), (0, .ref (a 0)), (1, .int p1), (2, .ref ob)]) hx hb dL_parentOf_12 rfl hl (by decide) rfl (fun ls hl => ?_)
      refine lv_iconst (v := 1) hx hb dL_parentOf_13 (by decide) ?_
      exact hend _ ls _ _ _ _ _ dL_parentOf_14 (Option.some.inj hr) hP9 hS1 (by decide) (by decide)
    exact absurd hr (by simp [pq_cd, pq_cdF, h1])
  · refine pq_cXV S (c_X6_parentOf l g a T p1 hst (.inr v) T1 hf) vv_L_73 hK hT (pq_P2 hP) (pq_D2 hD) hS hA rfl rfl rfl rfl rfl hl.1 (Nat.le_of_ble_eq_true rfl) dL_parentOf_4 (by decide) (by decide) ⟨by decide, by decide⟩ (fun E ce q9 H1 l1 h9 => by cases h9) (fun v9 H1 locs hv hk hP1 hS => ?_)
    obtain rfl : v9 = some (.int v) := (Sum.inr.inj hv).symm
    change W _ _ _ _ _ _ _ _ _ _ _ _ _ _ _ (F0 _ _ _ [.int v, .int 0, .ref ob])
    have hP9 : va_P g.1 pq_cl ([(ob, .inl (g.2 3, 1, .inr (.inl (f))))] ++ mainW g a T1) H1 := va_P.app (pq_kp (pq_P1 hP) (pq_Dx hD) hk) hP1
    have hD9 : va_D A ([(ob, .inl (g.2 3, 1, .inr (.inl (f))))] ++ mainW g a T1) := pq_adr hD (ad_app rfl (ad_X6 _ _))
    clear hk hP1 hP hD
    refine lv_i2l hx hb dL_parentOf_7 rfl ?_
    refine va_last hx hb hK.1 hP9 hD9 hS 0 3 rfl rfl pq_in01 dL_parentOf_8 (fun H2 locs hP2 _ hS => ?_)
    refine lv_goto (tgt := 15) hx hb dL_parentOf_9 (by decide) ?_
    refine lv_iconst (v := 0) hx hb dL_parentOf_15 (by decide) ?_
    exact hend _ ls _ _ _ _ _ dL_parentOf_16 (Option.some.inj hr) hP2 hS (by decide) (by decide)
set_option maxHeartbeats 4000000 in
set_option maxRecDepth 100000 in
theorem c_L_depthOf (l : Launch) (g : pq_g) (a : Nat → Nat) (ob : Nat) (f : Nat → Int64) (T : MainS) (p1 : Int32) (hst : l.stackTraces = false) (o : String ⊕ Int32) (T1 : MainS) (hf : f_X6_depthOf T p1 = some (o, T1)) (r : Int32) (hr : pq_cd ["java/util/NoSuchElementException"] o = some r) : pq_H l yL_depthOf cL_depthOf 4 [(0, 9, 12, 21)] 8 1 g ([(ob, .inl (g.2 3, 1, .inr (.inl (f))))] ++ mainW g a T) [.ref (a 0), .int p1, .ref ob] r ([(ob, .inl (g.2 3, 1, .inr (.inl (pq_nf f (fun v => v.toInt64) o))))] ++ mainW g a T1) := by
  refine pq_H.of (by decide) rfl (Nat.le_of_ble_eq_true rfl) rfl ?_
  intro p e s m below meth c ls Q A S htab hP hK hD hS hA hT hL hl hend
  obtain ⟨hx, hb, hml, hown, hts⟩ := id S
  refine lv_aload_n hx hb dL_depthOf_0 rfl (lv_at hl 2 rfl) ?_
  refine lv_iconst (v := 0) hx hb dL_depthOf_1 (by decide) ?_
  refine lv_aload_n hx hb dL_depthOf_2 rfl (lv_at hl 0 rfl) ?_
  refine lv_iload_n hx hb dL_depthOf_3 rfl (lv_at hl 1 rfl) ?_
  rcases o with E0 | v
  · refine pq_cXV S (c_X6_depthOf l g a T p1 hst (.inl E0) T1 hf) vv_L_76 hK hT (pq_P2 hP) (pq_D2 hD) hS hA rfl rfl rfl rfl rfl hl.1 (Nat.le_of_ble_eq_true rfl) dL_depthOf_4 (by decide) (by decide) ⟨by decide, by decide⟩ (fun E ce q9 H1 locs1 hE hk hP1 hS1 hce hcv hcl => ?_) (fun v H1 l1 h9 => by cases h9)
    obtain rfl : E0 = E := Sum.inl.inj hE
    have hP9 := va_P.app (pq_kp (pq_P1 hP) (pq_Dx hD) hk) hP1
    by_cases h1 : E0 = "java/util/NoSuchElementException"
    · subst h1
      refine pq_catch (E := "java/util/NoSuchElementException") S hT hL [] (0, 9, 12, 21) [] htab (by decide) (by intro z hz; cases hz) (by decide) (by decide) vc_L_21 hce hcv hcl ?_
      refine lv_astore_n (lv' := [(3, .ref q9), (0, .ref (a 0)), (1, .int p1), (2, .ref ob)]) hx hb dL_depthOf_12 rfl hl (by decide) rfl (fun ls hl => ?_)
      refine lv_iconst (v := 1) hx hb dL_depthOf_13 (by decide) ?_
      exact hend _ ls _ _ _ _ _ dL_depthOf_14 (Option.some.inj hr) hP9 hS1 (by decide) (by decide)
    exact absurd hr (by simp [pq_cd, pq_cdF, h1])
  · refine pq_cXV S (c_X6_depthOf l g a T p1 hst (.inr v) T1 hf) vv_L_76 hK hT (pq_P2 hP) (pq_D2 hD) hS hA rfl rfl rfl rfl rfl hl.1 (Nat.le_of_ble_eq_true rfl) dL_depthOf_4 (by decide) (by decide) ⟨by decide, by decide⟩ (fun E ce q9 H1 l1 h9 => by cases h9) (fun v9 H1 locs hv hk hP1 hS => ?_)
    obtain rfl : v9 = some (.int v) := (Sum.inr.inj hv).symm
    change W _ _ _ _ _ _ _ _ _ _ _ _ _ _ _ (F0 _ _ _ [.int v, .int 0, .ref ob])
    have hP9 : va_P g.1 pq_cl ([(ob, .inl (g.2 3, 1, .inr (.inl (f))))] ++ mainW g a T1) H1 := va_P.app (pq_kp (pq_P1 hP) (pq_Dx hD) hk) hP1
    have hD9 : va_D A ([(ob, .inl (g.2 3, 1, .inr (.inl (f))))] ++ mainW g a T1) := pq_adr hD (ad_app rfl (ad_X6 _ _))
    clear hk hP1 hP hD
    refine lv_i2l hx hb dL_depthOf_7 rfl ?_
    refine va_last hx hb hK.1 hP9 hD9 hS 0 3 rfl rfl pq_in01 dL_depthOf_8 (fun H2 locs hP2 _ hS => ?_)
    refine lv_goto (tgt := 15) hx hb dL_depthOf_9 (by decide) ?_
    refine lv_iconst (v := 0) hx hb dL_depthOf_15 (by decide) ?_
    exact hend _ ls _ _ _ _ _ dL_depthOf_16 (Option.some.inj hr) hP2 hS (by decide) (by decide)
set_option maxHeartbeats 4000000 in
set_option maxRecDepth 100000 in
theorem c_L_subtreeSize (l : Launch) (g : pq_g) (a : Nat → Nat) (ob : Nat) (f : Nat → Int64) (T : MainS) (p1 : Int32) (hst : l.stackTraces = false) (o : String ⊕ Int32) (T1 : MainS) (hf : f_X6_subtreeSize T p1 = some (o, T1)) (r : Int32) (hr : pq_cd ["java/util/NoSuchElementException"] o = some r) : pq_H l yL_subtreeSize cL_subtreeSize 4 [(0, 9, 12, 21)] 8 1 g ([(ob, .inl (g.2 3, 1, .inr (.inl (f))))] ++ mainW g a T) [.ref (a 0), .int p1, .ref ob] r ([(ob, .inl (g.2 3, 1, .inr (.inl (pq_nf f (fun v => v.toInt64) o))))] ++ mainW g a T1) := by
  refine pq_H.of (by decide) rfl (Nat.le_of_ble_eq_true rfl) rfl ?_
  intro p e s m below meth c ls Q A S htab hP hK hD hS hA hT hL hl hend
  obtain ⟨hx, hb, hml, hown, hts⟩ := id S
  refine lv_aload_n hx hb dL_subtreeSize_0 rfl (lv_at hl 2 rfl) ?_
  refine lv_iconst (v := 0) hx hb dL_subtreeSize_1 (by decide) ?_
  refine lv_aload_n hx hb dL_subtreeSize_2 rfl (lv_at hl 0 rfl) ?_
  refine lv_iload_n hx hb dL_subtreeSize_3 rfl (lv_at hl 1 rfl) ?_
  rcases o with E0 | v
  · refine pq_cXV S (c_X6_subtreeSize l g a T p1 hst (.inl E0) T1 hf) vv_L_79 hK hT (pq_P2 hP) (pq_D2 hD) hS hA rfl rfl rfl rfl rfl hl.1 (Nat.le_of_ble_eq_true rfl) dL_subtreeSize_4 (by decide) (by decide) ⟨by decide, by decide⟩ (fun E ce q9 H1 locs1 hE hk hP1 hS1 hce hcv hcl => ?_) (fun v H1 l1 h9 => by cases h9)
    obtain rfl : E0 = E := Sum.inl.inj hE
    have hP9 := va_P.app (pq_kp (pq_P1 hP) (pq_Dx hD) hk) hP1
    by_cases h1 : E0 = "java/util/NoSuchElementException"
    · subst h1
      refine pq_catch (E := "java/util/NoSuchElementException") S hT hL [] (0, 9, 12, 21) [] htab (by decide) (by intro z hz; cases hz) (by decide) (by decide) vc_L_21 hce hcv hcl ?_
      refine lv_astore_n (lv' := [(3, .ref q9), (0, .ref (a 0)), (1, .int p1), (2, .ref ob)]) hx hb dL_subtreeSize_12 rfl hl (by decide) rfl (fun ls hl => ?_)
      refine lv_iconst (v := 1) hx hb dL_subtreeSize_13 (by decide) ?_
      exact hend _ ls _ _ _ _ _ dL_subtreeSize_14 (Option.some.inj hr) hP9 hS1 (by decide) (by decide)
    exact absurd hr (by simp [pq_cd, pq_cdF, h1])
  · refine pq_cXV S (c_X6_subtreeSize l g a T p1 hst (.inr v) T1 hf) vv_L_79 hK hT (pq_P2 hP) (pq_D2 hD) hS hA rfl rfl rfl rfl rfl hl.1 (Nat.le_of_ble_eq_true rfl) dL_subtreeSize_4 (by decide) (by decide) ⟨by decide, by decide⟩ (fun E ce q9 H1 l1 h9 => by cases h9) (fun v9 H1 locs hv hk hP1 hS => ?_)
    obtain rfl : v9 = some (.int v) := (Sum.inr.inj hv).symm
    change W _ _ _ _ _ _ _ _ _ _ _ _ _ _ _ (F0 _ _ _ [.int v, .int 0, .ref ob])
    have hP9 : va_P g.1 pq_cl ([(ob, .inl (g.2 3, 1, .inr (.inl (f))))] ++ mainW g a T1) H1 := va_P.app (pq_kp (pq_P1 hP) (pq_Dx hD) hk) hP1
    have hD9 : va_D A ([(ob, .inl (g.2 3, 1, .inr (.inl (f))))] ++ mainW g a T1) := pq_adr hD (ad_app rfl (ad_X6 _ _))
    clear hk hP1 hP hD
    refine lv_i2l hx hb dL_subtreeSize_7 rfl ?_
    refine va_last hx hb hK.1 hP9 hD9 hS 0 3 rfl rfl pq_in01 dL_subtreeSize_8 (fun H2 locs hP2 _ hS => ?_)
    refine lv_goto (tgt := 15) hx hb dL_subtreeSize_9 (by decide) ?_
    refine lv_iconst (v := 0) hx hb dL_subtreeSize_15 (by decide) ?_
    exact hend _ ls _ _ _ _ _ dL_subtreeSize_16 (Option.some.inj hr) hP2 hS (by decide) (by decide)
set_option maxHeartbeats 4000000 in
set_option maxRecDepth 100000 in
theorem c_L_imbalanceOf (l : Launch) (g : pq_g) (a : Nat → Nat) (ob : Nat) (f : Nat → Int64) (T : MainS) (p1 : Int32) (hst : l.stackTraces = false) (o : String ⊕ Int32) (T1 : MainS) (hf : f_X6_imbalanceOf T p1 = some (o, T1)) (r : Int32) (hr : pq_cd ["java/util/NoSuchElementException"] o = some r) : pq_H l yL_imbalanceOf cL_imbalanceOf 4 [(0, 9, 12, 21)] 8 1 g ([(ob, .inl (g.2 3, 1, .inr (.inl (f))))] ++ mainW g a T) [.ref (a 0), .int p1, .ref ob] r ([(ob, .inl (g.2 3, 1, .inr (.inl (pq_nf f (fun v => v.toInt64) o))))] ++ mainW g a T1) := by
  refine pq_H.of (by decide) rfl (Nat.le_of_ble_eq_true rfl) rfl ?_
  intro p e s m below meth c ls Q A S htab hP hK hD hS hA hT hL hl hend
  obtain ⟨hx, hb, hml, hown, hts⟩ := id S
  refine lv_aload_n hx hb dL_imbalanceOf_0 rfl (lv_at hl 2 rfl) ?_
  refine lv_iconst (v := 0) hx hb dL_imbalanceOf_1 (by decide) ?_
  refine lv_aload_n hx hb dL_imbalanceOf_2 rfl (lv_at hl 0 rfl) ?_
  refine lv_iload_n hx hb dL_imbalanceOf_3 rfl (lv_at hl 1 rfl) ?_
  rcases o with E0 | v
  · refine pq_cXV S (c_X6_imbalanceOf l g a T p1 hst (.inl E0) T1 hf) vv_L_82 hK hT (pq_P2 hP) (pq_D2 hD) hS hA rfl rfl rfl rfl rfl hl.1 (Nat.le_of_ble_eq_true rfl) dL_imbalanceOf_4 (by decide) (by decide) ⟨by decide, by decide⟩ (fun E ce q9 H1 locs1 hE hk hP1 hS1 hce hcv hcl => ?_) (fun v H1 l1 h9 => by cases h9)
    obtain rfl : E0 = E := Sum.inl.inj hE
    have hP9 := va_P.app (pq_kp (pq_P1 hP) (pq_Dx hD) hk) hP1
    by_cases h1 : E0 = "java/util/NoSuchElementException"
    · subst h1
      refine pq_catch (E := "java/util/NoSuchElementException") S hT hL [] (0, 9, 12, 21) [] htab (by decide) (by intro z hz; cases hz) (by decide) (by decide) vc_L_21 hce hcv hcl ?_
      refine lv_astore_n (lv' := [(3, .ref q9), (0, .ref (a 0)), (1, .int p1), (2, .ref ob)]) hx hb dL_imbalanceOf_12 rfl hl (by decide) rfl (fun ls hl => ?_)
      refine lv_iconst (v := 1) hx hb dL_imbalanceOf_13 (by decide) ?_
      exact hend _ ls _ _ _ _ _ dL_imbalanceOf_14 (Option.some.inj hr) hP9 hS1 (by decide) (by decide)
    exact absurd hr (by simp [pq_cd, pq_cdF, h1])
  · refine pq_cXV S (c_X6_imbalanceOf l g a T p1 hst (.inr v) T1 hf) vv_L_82 hK hT (pq_P2 hP) (pq_D2 hD) hS hA rfl rfl rfl rfl rfl hl.1 (Nat.le_of_ble_eq_true rfl) dL_imbalanceOf_4 (by decide) (by decide) ⟨by decide, by decide⟩ (fun E ce q9 H1 l1 h9 => by cases h9) (fun v9 H1 locs hv hk hP1 hS => ?_)
    obtain rfl : v9 = some (.int v) := (Sum.inr.inj hv).symm
    change W _ _ _ _ _ _ _ _ _ _ _ _ _ _ _ (F0 _ _ _ [.int v, .int 0, .ref ob])
    have hP9 : va_P g.1 pq_cl ([(ob, .inl (g.2 3, 1, .inr (.inl (f))))] ++ mainW g a T1) H1 := va_P.app (pq_kp (pq_P1 hP) (pq_Dx hD) hk) hP1
    have hD9 : va_D A ([(ob, .inl (g.2 3, 1, .inr (.inl (f))))] ++ mainW g a T1) := pq_adr hD (ad_app rfl (ad_X6 _ _))
    clear hk hP1 hP hD
    refine lv_i2l hx hb dL_imbalanceOf_7 rfl ?_
    refine va_last hx hb hK.1 hP9 hD9 hS 0 3 rfl rfl pq_in01 dL_imbalanceOf_8 (fun H2 locs hP2 _ hS => ?_)
    refine lv_goto (tgt := 15) hx hb dL_imbalanceOf_9 (by decide) ?_
    refine lv_iconst (v := 0) hx hb dL_imbalanceOf_15 (by decide) ?_
    exact hend _ ls _ _ _ _ _ dL_imbalanceOf_16 (Option.some.inj hr) hP2 hS (by decide) (by decide)
set_option maxHeartbeats 4000000 in
set_option maxRecDepth 100000 in
theorem c_L_commonAncestor (l : Launch) (g : pq_g) (a : Nat → Nat) (ob : Nat) (f : Nat → Int64) (T : MainS) (p1 : Int32) (p2 : Int32) (hst : l.stackTraces = false) (o : String ⊕ Int32) (T1 : MainS) (hf : f_X6_commonAncestor T p1 p2 = some (o, T1)) (r : Int32) (hr : pq_cd ["java/util/NoSuchElementException"] o = some r) : pq_H l yL_commonAncestor cL_commonAncestor 5 [(0, 10, 13, 21)] 8 2 g ([(ob, .inl (g.2 3, 1, .inr (.inl (f))))] ++ mainW g a T) [.ref (a 0), .int p1, .int p2, .ref ob] r ([(ob, .inl (g.2 3, 1, .inr (.inl (pq_nf f (fun v => v.toInt64) o))))] ++ mainW g a T1) := by
  refine pq_H.of (by decide) rfl (Nat.le_of_ble_eq_true rfl) rfl ?_
  intro p e s m below meth c ls Q A S htab hP hK hD hS hA hT hL hl hend
  obtain ⟨hx, hb, hml, hown, hts⟩ := id S
  refine lv_aload_n hx hb dL_commonAncestor_0 rfl (lv_at hl 3 rfl) ?_
  refine lv_iconst (v := 0) hx hb dL_commonAncestor_1 (by decide) ?_
  refine lv_aload_n hx hb dL_commonAncestor_2 rfl (lv_at hl 0 rfl) ?_
  refine lv_iload_n hx hb dL_commonAncestor_3 rfl (lv_at hl 1 rfl) ?_
  refine lv_iload_n hx hb dL_commonAncestor_4 rfl (lv_at hl 2 rfl) ?_
  rcases o with E0 | v
  · refine pq_cXV S (c_X6_commonAncestor l g a T p1 p2 hst (.inl E0) T1 hf) vv_L_85 hK hT (pq_P2 hP) (pq_D2 hD) hS hA rfl rfl rfl rfl rfl hl.1 (Nat.le_of_ble_eq_true rfl) dL_commonAncestor_5 (by decide) (by decide) ⟨by decide, by decide⟩ (fun E ce q9 H1 locs1 hE hk hP1 hS1 hce hcv hcl => ?_) (fun v H1 l1 h9 => by cases h9)
    obtain rfl : E0 = E := Sum.inl.inj hE
    have hP9 := va_P.app (pq_kp (pq_P1 hP) (pq_Dx hD) hk) hP1
    by_cases h1 : E0 = "java/util/NoSuchElementException"
    · subst h1
      refine pq_catch (E := "java/util/NoSuchElementException") S hT hL [] (0, 10, 13, 21) [] htab (by decide) (by intro z hz; cases hz) (by decide) (by decide) vc_L_21 hce hcv hcl ?_
      refine lv_astore (lv' := [(4, .ref q9), (0, .ref (a 0)), (1, .int p1), (2, .int p2), (3, .ref ob)]) hx hb dL_commonAncestor_13 hl (by decide) rfl (fun ls hl => ?_)
      refine lv_iconst (v := 1) hx hb dL_commonAncestor_15 (by decide) ?_
      exact hend _ ls _ _ _ _ _ dL_commonAncestor_16 (Option.some.inj hr) hP9 hS1 (by decide) (by decide)
    exact absurd hr (by simp [pq_cd, pq_cdF, h1])
  · refine pq_cXV S (c_X6_commonAncestor l g a T p1 p2 hst (.inr v) T1 hf) vv_L_85 hK hT (pq_P2 hP) (pq_D2 hD) hS hA rfl rfl rfl rfl rfl hl.1 (Nat.le_of_ble_eq_true rfl) dL_commonAncestor_5 (by decide) (by decide) ⟨by decide, by decide⟩ (fun E ce q9 H1 l1 h9 => by cases h9) (fun v9 H1 locs hv hk hP1 hS => ?_)
    obtain rfl : v9 = some (.int v) := (Sum.inr.inj hv).symm
    change W _ _ _ _ _ _ _ _ _ _ _ _ _ _ _ (F0 _ _ _ [.int v, .int 0, .ref ob])
    have hP9 : va_P g.1 pq_cl ([(ob, .inl (g.2 3, 1, .inr (.inl (f))))] ++ mainW g a T1) H1 := va_P.app (pq_kp (pq_P1 hP) (pq_Dx hD) hk) hP1
    have hD9 : va_D A ([(ob, .inl (g.2 3, 1, .inr (.inl (f))))] ++ mainW g a T1) := pq_adr hD (ad_app rfl (ad_X6 _ _))
    clear hk hP1 hP hD
    refine lv_i2l hx hb dL_commonAncestor_8 rfl ?_
    refine va_last hx hb hK.1 hP9 hD9 hS 0 3 rfl rfl pq_in01 dL_commonAncestor_9 (fun H2 locs hP2 _ hS => ?_)
    refine lv_goto (tgt := 17) hx hb dL_commonAncestor_10 (by decide) ?_
    refine lv_iconst (v := 0) hx hb dL_commonAncestor_17 (by decide) ?_
    exact hend _ ls _ _ _ _ _ dL_commonAncestor_18 (Option.some.inj hr) hP2 hS (by decide) (by decide)
set_option maxHeartbeats 4000000 in
set_option maxRecDepth 100000 in
theorem c_L_distance (l : Launch) (g : pq_g) (a : Nat → Nat) (ob : Nat) (f : Nat → Int64) (T : MainS) (p1 : Int32) (p2 : Int32) (hst : l.stackTraces = false) (o : String ⊕ Int32) (T1 : MainS) (hf : f_X6_distance T p1 p2 = some (o, T1)) (r : Int32) (hr : pq_cd ["java/util/NoSuchElementException"] o = some r) : pq_H l yL_distance cL_distance 5 [(0, 10, 13, 21)] 8 2 g ([(ob, .inl (g.2 3, 1, .inr (.inl (f))))] ++ mainW g a T) [.ref (a 0), .int p1, .int p2, .ref ob] r ([(ob, .inl (g.2 3, 1, .inr (.inl (pq_nf f (fun v => v.toInt64) o))))] ++ mainW g a T1) := by
  refine pq_H.of (by decide) rfl (Nat.le_of_ble_eq_true rfl) rfl ?_
  intro p e s m below meth c ls Q A S htab hP hK hD hS hA hT hL hl hend
  obtain ⟨hx, hb, hml, hown, hts⟩ := id S
  refine lv_aload_n hx hb dL_distance_0 rfl (lv_at hl 3 rfl) ?_
  refine lv_iconst (v := 0) hx hb dL_distance_1 (by decide) ?_
  refine lv_aload_n hx hb dL_distance_2 rfl (lv_at hl 0 rfl) ?_
  refine lv_iload_n hx hb dL_distance_3 rfl (lv_at hl 1 rfl) ?_
  refine lv_iload_n hx hb dL_distance_4 rfl (lv_at hl 2 rfl) ?_
  rcases o with E0 | v
  · refine pq_cXV S (c_X6_distance l g a T p1 p2 hst (.inl E0) T1 hf) vv_L_88 hK hT (pq_P2 hP) (pq_D2 hD) hS hA rfl rfl rfl rfl rfl hl.1 (Nat.le_of_ble_eq_true rfl) dL_distance_5 (by decide) (by decide) ⟨by decide, by decide⟩ (fun E ce q9 H1 locs1 hE hk hP1 hS1 hce hcv hcl => ?_) (fun v H1 l1 h9 => by cases h9)
    obtain rfl : E0 = E := Sum.inl.inj hE
    have hP9 := va_P.app (pq_kp (pq_P1 hP) (pq_Dx hD) hk) hP1
    by_cases h1 : E0 = "java/util/NoSuchElementException"
    · subst h1
      refine pq_catch (E := "java/util/NoSuchElementException") S hT hL [] (0, 10, 13, 21) [] htab (by decide) (by intro z hz; cases hz) (by decide) (by decide) vc_L_21 hce hcv hcl ?_
      refine lv_astore (lv' := [(4, .ref q9), (0, .ref (a 0)), (1, .int p1), (2, .int p2), (3, .ref ob)]) hx hb dL_distance_13 hl (by decide) rfl (fun ls hl => ?_)
      refine lv_iconst (v := 1) hx hb dL_distance_15 (by decide) ?_
      exact hend _ ls _ _ _ _ _ dL_distance_16 (Option.some.inj hr) hP9 hS1 (by decide) (by decide)
    exact absurd hr (by simp [pq_cd, pq_cdF, h1])
  · refine pq_cXV S (c_X6_distance l g a T p1 p2 hst (.inr v) T1 hf) vv_L_88 hK hT (pq_P2 hP) (pq_D2 hD) hS hA rfl rfl rfl rfl rfl hl.1 (Nat.le_of_ble_eq_true rfl) dL_distance_5 (by decide) (by decide) ⟨by decide, by decide⟩ (fun E ce q9 H1 l1 h9 => by cases h9) (fun v9 H1 locs hv hk hP1 hS => ?_)
    obtain rfl : v9 = some (.int v) := (Sum.inr.inj hv).symm
    change W _ _ _ _ _ _ _ _ _ _ _ _ _ _ _ (F0 _ _ _ [.int v, .int 0, .ref ob])
    have hP9 : va_P g.1 pq_cl ([(ob, .inl (g.2 3, 1, .inr (.inl (f))))] ++ mainW g a T1) H1 := va_P.app (pq_kp (pq_P1 hP) (pq_Dx hD) hk) hP1
    have hD9 : va_D A ([(ob, .inl (g.2 3, 1, .inr (.inl (f))))] ++ mainW g a T1) := pq_adr hD (ad_app rfl (ad_X6 _ _))
    clear hk hP1 hP hD
    refine lv_i2l hx hb dL_distance_8 rfl ?_
    refine va_last hx hb hK.1 hP9 hD9 hS 0 3 rfl rfl pq_in01 dL_distance_9 (fun H2 locs hP2 _ hS => ?_)
    refine lv_goto (tgt := 17) hx hb dL_distance_10 (by decide) ?_
    refine lv_iconst (v := 0) hx hb dL_distance_17 (by decide) ?_
    exact hend _ ls _ _ _ _ _ dL_distance_18 (Option.some.inj hr) hP2 hS (by decide) (by decide)
set_option maxHeartbeats 4000000 in
set_option maxRecDepth 100000 in
theorem c_L_countInRange (l : Launch) (g : pq_g) (a : Nat → Nat) (ob : Nat) (f : Nat → Int64) (T : MainS) (p1 : Int32) (p2 : Int32) (hst : l.stackTraces = false) (o : String ⊕ Int32) (T1 : MainS) (hf : f_X6_countInRange T p1 p2 = some (o, T1)) (r : Int32) (hr : pq_cd ["java/lang/IllegalArgumentException"] o = some r) : pq_H l yL_countInRange cL_countInRange 5 [(0, 10, 13, 13)] 8 1 g ([(ob, .inl (g.2 3, 1, .inr (.inl (f))))] ++ mainW g a T) [.ref (a 0), .int p1, .int p2, .ref ob] r ([(ob, .inl (g.2 3, 1, .inr (.inl (pq_nf f (fun v => v.toInt64) o))))] ++ mainW g a T1) := by
  refine pq_H.of (by decide) rfl (Nat.le_of_ble_eq_true rfl) rfl ?_
  intro p e s m below meth c ls Q A S htab hP hK hD hS hA hT hL hl hend
  obtain ⟨hx, hb, hml, hown, hts⟩ := id S
  refine lv_aload_n hx hb dL_countInRange_0 rfl (lv_at hl 3 rfl) ?_
  refine lv_iconst (v := 0) hx hb dL_countInRange_1 (by decide) ?_
  refine lv_aload_n hx hb dL_countInRange_2 rfl (lv_at hl 0 rfl) ?_
  refine lv_iload_n hx hb dL_countInRange_3 rfl (lv_at hl 1 rfl) ?_
  refine lv_iload_n hx hb dL_countInRange_4 rfl (lv_at hl 2 rfl) ?_
  rcases o with E0 | v
  · refine pq_cXV S (c_X6_countInRange l g a T p1 p2 hst (.inl E0) T1 hf) vv_L_91 hK hT (pq_P2 hP) (pq_D2 hD) hS hA rfl rfl rfl rfl rfl hl.1 (Nat.le_of_ble_eq_true rfl) dL_countInRange_5 (by decide) (by decide) ⟨by decide, by decide⟩ (fun E ce q9 H1 locs1 hE hk hP1 hS1 hce hcv hcl => ?_) (fun v H1 l1 h9 => by cases h9)
    obtain rfl : E0 = E := Sum.inl.inj hE
    have hP9 := va_P.app (pq_kp (pq_P1 hP) (pq_Dx hD) hk) hP1
    by_cases h1 : E0 = "java/lang/IllegalArgumentException"
    · subst h1
      refine pq_catch (E := "java/lang/IllegalArgumentException") S hT hL [] (0, 10, 13, 13) [] htab (by decide) (by intro z hz; cases hz) (by decide) (by decide) vc_L_13 hce hcv hcl ?_
      refine lv_astore (lv' := [(4, .ref q9), (0, .ref (a 0)), (1, .int p1), (2, .int p2), (3, .ref ob)]) hx hb dL_countInRange_13 hl (by decide) rfl (fun ls hl => ?_)
      refine lv_iconst (v := 1) hx hb dL_countInRange_15 (by decide) ?_
      exact hend _ ls _ _ _ _ _ dL_countInRange_16 (Option.some.inj hr) hP9 hS1 (by decide) (by decide)
    exact absurd hr (by simp [pq_cd, pq_cdF, h1])
  · refine pq_cXV S (c_X6_countInRange l g a T p1 p2 hst (.inr v) T1 hf) vv_L_91 hK hT (pq_P2 hP) (pq_D2 hD) hS hA rfl rfl rfl rfl rfl hl.1 (Nat.le_of_ble_eq_true rfl) dL_countInRange_5 (by decide) (by decide) ⟨by decide, by decide⟩ (fun E ce q9 H1 l1 h9 => by cases h9) (fun v9 H1 locs hv hk hP1 hS => ?_)
    obtain rfl : v9 = some (.int v) := (Sum.inr.inj hv).symm
    change W _ _ _ _ _ _ _ _ _ _ _ _ _ _ _ (F0 _ _ _ [.int v, .int 0, .ref ob])
    have hP9 : va_P g.1 pq_cl ([(ob, .inl (g.2 3, 1, .inr (.inl (f))))] ++ mainW g a T1) H1 := va_P.app (pq_kp (pq_P1 hP) (pq_Dx hD) hk) hP1
    have hD9 : va_D A ([(ob, .inl (g.2 3, 1, .inr (.inl (f))))] ++ mainW g a T1) := pq_adr hD (ad_app rfl (ad_X6 _ _))
    clear hk hP1 hP hD
    refine lv_i2l hx hb dL_countInRange_8 rfl ?_
    refine va_last hx hb hK.1 hP9 hD9 hS 0 3 rfl rfl pq_in01 dL_countInRange_9 (fun H2 locs hP2 _ hS => ?_)
    refine lv_goto (tgt := 17) hx hb dL_countInRange_10 (by decide) ?_
    refine lv_iconst (v := 0) hx hb dL_countInRange_17 (by decide) ?_
    exact hend _ ls _ _ _ _ _ dL_countInRange_18 (Option.some.inj hr) hP2 hS (by decide) (by decide)
set_option maxHeartbeats 4000000 in
set_option maxRecDepth 100000 in
theorem c_L_countInRangeByScan (l : Launch) (g : pq_g) (a : Nat → Nat) (ob : Nat) (f : Nat → Int64) (T : MainS) (p1 : Int32) (p2 : Int32) (hst : l.stackTraces = false) (o : String ⊕ Int32) (T1 : MainS) (hf : f_X6_countInRangeByScan T p1 p2 = some (o, T1)) (r : Int32) (hr : pq_cd ["java/lang/IllegalArgumentException"] o = some r) : pq_H l yL_countInRangeByScan cL_countInRangeByScan 5 [(0, 10, 13, 13)] 8 1 g ([(ob, .inl (g.2 3, 1, .inr (.inl (f))))] ++ mainW g a T) [.ref (a 0), .int p1, .int p2, .ref ob] r ([(ob, .inl (g.2 3, 1, .inr (.inl (pq_nf f (fun v => v.toInt64) o))))] ++ mainW g a T1) := by
  refine pq_H.of (by decide) rfl (Nat.le_of_ble_eq_true rfl) rfl ?_
  intro p e s m below meth c ls Q A S htab hP hK hD hS hA hT hL hl hend
  obtain ⟨hx, hb, hml, hown, hts⟩ := id S
  refine lv_aload_n hx hb dL_countInRangeByScan_0 rfl (lv_at hl 3 rfl) ?_
  refine lv_iconst (v := 0) hx hb dL_countInRangeByScan_1 (by decide) ?_
  refine lv_aload_n hx hb dL_countInRangeByScan_2 rfl (lv_at hl 0 rfl) ?_
  refine lv_iload_n hx hb dL_countInRangeByScan_3 rfl (lv_at hl 1 rfl) ?_
  refine lv_iload_n hx hb dL_countInRangeByScan_4 rfl (lv_at hl 2 rfl) ?_
  rcases o with E0 | v
  · refine pq_cXV S (c_X6_countInRangeByScan l g a T p1 p2 hst (.inl E0) T1 hf) vv_L_94 hK hT (pq_P2 hP) (pq_D2 hD) hS hA rfl rfl rfl rfl rfl hl.1 (Nat.le_of_ble_eq_true rfl) dL_countInRangeByScan_5 (by decide) (by decide) ⟨by decide, by decide⟩ (fun E ce q9 H1 locs1 hE hk hP1 hS1 hce hcv hcl => ?_) (fun v H1 l1 h9 => by cases h9)
    obtain rfl : E0 = E := Sum.inl.inj hE
    have hP9 := va_P.app (pq_kp (pq_P1 hP) (pq_Dx hD) hk) hP1
    by_cases h1 : E0 = "java/lang/IllegalArgumentException"
    · subst h1
      refine pq_catch (E := "java/lang/IllegalArgumentException") S hT hL [] (0, 10, 13, 13) [] htab (by decide) (by intro z hz; cases hz) (by decide) (by decide) vc_L_13 hce hcv hcl ?_
      refine lv_astore (lv' := [(4, .ref q9), (0, .ref (a 0)), (1, .int p1), (2, .int p2), (3, .ref ob)]) hx hb dL_countInRangeByScan_13 hl (by decide) rfl (fun ls hl => ?_)
      refine lv_iconst (v := 1) hx hb dL_countInRangeByScan_15 (by decide) ?_
      exact hend _ ls _ _ _ _ _ dL_countInRangeByScan_16 (Option.some.inj hr) hP9 hS1 (by decide) (by decide)
    exact absurd hr (by simp [pq_cd, pq_cdF, h1])
  · refine pq_cXV S (c_X6_countInRangeByScan l g a T p1 p2 hst (.inr v) T1 hf) vv_L_94 hK hT (pq_P2 hP) (pq_D2 hD) hS hA rfl rfl rfl rfl rfl hl.1 (Nat.le_of_ble_eq_true rfl) dL_countInRangeByScan_5 (by decide) (by decide) ⟨by decide, by decide⟩ (fun E ce q9 H1 l1 h9 => by cases h9) (fun v9 H1 locs hv hk hP1 hS => ?_)
    obtain rfl : v9 = some (.int v) := (Sum.inr.inj hv).symm
    change W _ _ _ _ _ _ _ _ _ _ _ _ _ _ _ (F0 _ _ _ [.int v, .int 0, .ref ob])
    have hP9 : va_P g.1 pq_cl ([(ob, .inl (g.2 3, 1, .inr (.inl (f))))] ++ mainW g a T1) H1 := va_P.app (pq_kp (pq_P1 hP) (pq_Dx hD) hk) hP1
    have hD9 : va_D A ([(ob, .inl (g.2 3, 1, .inr (.inl (f))))] ++ mainW g a T1) := pq_adr hD (ad_app rfl (ad_X6 _ _))
    clear hk hP1 hP hD
    refine lv_i2l hx hb dL_countInRangeByScan_8 rfl ?_
    refine va_last hx hb hK.1 hP9 hD9 hS 0 3 rfl rfl pq_in01 dL_countInRangeByScan_9 (fun H2 locs hP2 _ hS => ?_)
    refine lv_goto (tgt := 17) hx hb dL_countInRangeByScan_10 (by decide) ?_
    refine lv_iconst (v := 0) hx hb dL_countInRangeByScan_17 (by decide) ?_
    exact hend _ ls _ _ _ _ _ dL_countInRangeByScan_18 (Option.some.inj hr) hP2 hS (by decide) (by decide)
set_option maxHeartbeats 4000000 in
set_option maxRecDepth 100000 in
theorem c_L_topInRange (l : Launch) (g : pq_g) (a : Nat → Nat) (ob : Nat) (f : Nat → Int64) (T : MainS) (p1 : Int32) (p2 : Int32) (hst : l.stackTraces = false) (o : String ⊕ Int32) (T1 : MainS) (hf : f_X6_topInRange T p1 p2 = some (o, T1)) (r : Int32) (hr : pq_cd ["java/lang/IllegalArgumentException", "java/util/NoSuchElementException"] o = some r) : pq_H l yL_topInRange cL_topInRange 5 [(0, 10, 13, 13), (0, 10, 17, 21)] 8 2 g ([(ob, .inl (g.2 3, 1, .inr (.inl (f))))] ++ mainW g a T) [.ref (a 0), .int p1, .int p2, .ref ob] r ([(ob, .inl (g.2 3, 1, .inr (.inl (pq_nf f (fun v => v.toInt64) o))))] ++ mainW g a T1) := by
  refine pq_H.of (by decide) rfl (Nat.le_of_ble_eq_true rfl) rfl ?_
  intro p e s m below meth c ls Q A S htab hP hK hD hS hA hT hL hl hend
  obtain ⟨hx, hb, hml, hown, hts⟩ := id S
  refine lv_aload_n hx hb dL_topInRange_0 rfl (lv_at hl 3 rfl) ?_
  refine lv_iconst (v := 0) hx hb dL_topInRange_1 (by decide) ?_
  refine lv_aload_n hx hb dL_topInRange_2 rfl (lv_at hl 0 rfl) ?_
  refine lv_iload_n hx hb dL_topInRange_3 rfl (lv_at hl 1 rfl) ?_
  refine lv_iload_n hx hb dL_topInRange_4 rfl (lv_at hl 2 rfl) ?_
  rcases o with E0 | v
  · refine pq_cXV S (c_X6_topInRange l g a T p1 p2 hst (.inl E0) T1 hf) vv_L_97 hK hT (pq_P2 hP) (pq_D2 hD) hS hA rfl rfl rfl rfl rfl hl.1 (Nat.le_of_ble_eq_true rfl) dL_topInRange_5 (by decide) (by decide) ⟨by decide, by decide⟩ (fun E ce q9 H1 locs1 hE hk hP1 hS1 hce hcv hcl => ?_) (fun v H1 l1 h9 => by cases h9)
    obtain rfl : E0 = E := Sum.inl.inj hE
    have hP9 := va_P.app (pq_kp (pq_P1 hP) (pq_Dx hD) hk) hP1
    by_cases h1 : E0 = "java/lang/IllegalArgumentException"
    · subst h1
      refine pq_catch (E := "java/lang/IllegalArgumentException") S hT hL [] (0, 10, 13, 13) [(0, 10, 17, 21)] htab (by decide) (by intro z hz; cases hz) (by decide) (by decide) vc_L_13 hce hcv hcl ?_
      refine lv_astore (lv' := [(4, .ref q9), (0, .ref (a 0)), (1, .int p1), (2, .int p2), (3, .ref ob)]) hx hb dL_topInRange_13 hl (by decide) rfl (fun ls hl => ?_)
      refine lv_iconst (v := 1) hx hb dL_topInRange_15 (by decide) ?_
      exact hend _ ls _ _ _ _ _ dL_topInRange_16 (Option.some.inj hr) hP9 hS1 (by decide) (by decide)
    by_cases h2 : E0 = "java/util/NoSuchElementException"
    · subst h2
      refine pq_catch (E := "java/util/NoSuchElementException") S hT hL [((0, 10, 13, 13), "java/lang/IllegalArgumentException")] (0, 10, 17, 21) [] htab (by decide) (by intro z hz; simp only [List.mem_cons, List.not_mem_nil, or_false] at hz; rcases hz with rfl; exact ⟨by decide, vc_L_13, by decide, by decide⟩) (by decide) (by decide) vc_L_21 hce hcv hcl ?_
      refine lv_astore (lv' := [(4, .ref q9), (0, .ref (a 0)), (1, .int p1), (2, .int p2), (3, .ref ob)]) hx hb dL_topInRange_17 hl (by decide) rfl (fun ls hl => ?_)
      refine lv_iconst (v := 2) hx hb dL_topInRange_19 (by decide) ?_
      exact hend _ ls _ _ _ _ _ dL_topInRange_20 (Option.some.inj hr) hP9 hS1 (by decide) (by decide)
    exact absurd hr (by simp [pq_cd, pq_cdF, h1, h2])
  · refine pq_cXV S (c_X6_topInRange l g a T p1 p2 hst (.inr v) T1 hf) vv_L_97 hK hT (pq_P2 hP) (pq_D2 hD) hS hA rfl rfl rfl rfl rfl hl.1 (Nat.le_of_ble_eq_true rfl) dL_topInRange_5 (by decide) (by decide) ⟨by decide, by decide⟩ (fun E ce q9 H1 l1 h9 => by cases h9) (fun v9 H1 locs hv hk hP1 hS => ?_)
    obtain rfl : v9 = some (.int v) := (Sum.inr.inj hv).symm
    change W _ _ _ _ _ _ _ _ _ _ _ _ _ _ _ (F0 _ _ _ [.int v, .int 0, .ref ob])
    have hP9 : va_P g.1 pq_cl ([(ob, .inl (g.2 3, 1, .inr (.inl (f))))] ++ mainW g a T1) H1 := va_P.app (pq_kp (pq_P1 hP) (pq_Dx hD) hk) hP1
    have hD9 : va_D A ([(ob, .inl (g.2 3, 1, .inr (.inl (f))))] ++ mainW g a T1) := pq_adr hD (ad_app rfl (ad_X6 _ _))
    clear hk hP1 hP hD
    refine lv_i2l hx hb dL_topInRange_8 rfl ?_
    refine va_last hx hb hK.1 hP9 hD9 hS 0 3 rfl rfl pq_in01 dL_topInRange_9 (fun H2 locs hP2 _ hS => ?_)
    refine lv_goto (tgt := 21) hx hb dL_topInRange_10 (by decide) ?_
    refine lv_iconst (v := 0) hx hb dL_topInRange_21 (by decide) ?_
    exact hend _ ls _ _ _ _ _ dL_topInRange_22 (Option.some.inj hr) hP2 hS (by decide) (by decide)
set_option maxHeartbeats 4000000 in
set_option maxRecDepth 100000 in
theorem c_L_topInRangeByScan (l : Launch) (g : pq_g) (a : Nat → Nat) (ob : Nat) (f : Nat → Int64) (T : MainS) (p1 : Int32) (p2 : Int32) (hst : l.stackTraces = false) (o : String ⊕ Int32) (T1 : MainS) (hf : f_X6_topInRangeByScan T p1 p2 = some (o, T1)) (r : Int32) (hr : pq_cd ["java/lang/IllegalArgumentException", "java/util/NoSuchElementException"] o = some r) : pq_H l yL_topInRangeByScan cL_topInRangeByScan 5 [(0, 10, 13, 13), (0, 10, 17, 21)] 8 2 g ([(ob, .inl (g.2 3, 1, .inr (.inl (f))))] ++ mainW g a T) [.ref (a 0), .int p1, .int p2, .ref ob] r ([(ob, .inl (g.2 3, 1, .inr (.inl (pq_nf f (fun v => v.toInt64) o))))] ++ mainW g a T1) := by
  refine pq_H.of (by decide) rfl (Nat.le_of_ble_eq_true rfl) rfl ?_
  intro p e s m below meth c ls Q A S htab hP hK hD hS hA hT hL hl hend
  obtain ⟨hx, hb, hml, hown, hts⟩ := id S
  refine lv_aload_n hx hb dL_topInRangeByScan_0 rfl (lv_at hl 3 rfl) ?_
  refine lv_iconst (v := 0) hx hb dL_topInRangeByScan_1 (by decide) ?_
  refine lv_aload_n hx hb dL_topInRangeByScan_2 rfl (lv_at hl 0 rfl) ?_
  refine lv_iload_n hx hb dL_topInRangeByScan_3 rfl (lv_at hl 1 rfl) ?_
  refine lv_iload_n hx hb dL_topInRangeByScan_4 rfl (lv_at hl 2 rfl) ?_
  rcases o with E0 | v
  · refine pq_cXV S (c_X6_topInRangeByScan l g a T p1 p2 hst (.inl E0) T1 hf) vv_L_100 hK hT (pq_P2 hP) (pq_D2 hD) hS hA rfl rfl rfl rfl rfl hl.1 (Nat.le_of_ble_eq_true rfl) dL_topInRangeByScan_5 (by decide) (by decide) ⟨by decide, by decide⟩ (fun E ce q9 H1 locs1 hE hk hP1 hS1 hce hcv hcl => ?_) (fun v H1 l1 h9 => by cases h9)
    obtain rfl : E0 = E := Sum.inl.inj hE
    have hP9 := va_P.app (pq_kp (pq_P1 hP) (pq_Dx hD) hk) hP1
    by_cases h1 : E0 = "java/lang/IllegalArgumentException"
    · subst h1
      refine pq_catch (E := "java/lang/IllegalArgumentException") S hT hL [] (0, 10, 13, 13) [(0, 10, 17, 21)] htab (by decide) (by intro z hz; cases hz) (by decide) (by decide) vc_L_13 hce hcv hcl ?_
      refine lv_astore (lv' := [(4, .ref q9), (0, .ref (a 0)), (1, .int p1), (2, .int p2), (3, .ref ob)]) hx hb dL_topInRangeByScan_13 hl (by decide) rfl (fun ls hl => ?_)
      refine lv_iconst (v := 1) hx hb dL_topInRangeByScan_15 (by decide) ?_
      exact hend _ ls _ _ _ _ _ dL_topInRangeByScan_16 (Option.some.inj hr) hP9 hS1 (by decide) (by decide)
    by_cases h2 : E0 = "java/util/NoSuchElementException"
    · subst h2
      refine pq_catch (E := "java/util/NoSuchElementException") S hT hL [((0, 10, 13, 13), "java/lang/IllegalArgumentException")] (0, 10, 17, 21) [] htab (by decide) (by intro z hz; simp only [List.mem_cons, List.not_mem_nil, or_false] at hz; rcases hz with rfl; exact ⟨by decide, vc_L_13, by decide, by decide⟩) (by decide) (by decide) vc_L_21 hce hcv hcl ?_
      refine lv_astore (lv' := [(4, .ref q9), (0, .ref (a 0)), (1, .int p1), (2, .int p2), (3, .ref ob)]) hx hb dL_topInRangeByScan_17 hl (by decide) rfl (fun ls hl => ?_)
      refine lv_iconst (v := 2) hx hb dL_topInRangeByScan_19 (by decide) ?_
      exact hend _ ls _ _ _ _ _ dL_topInRangeByScan_20 (Option.some.inj hr) hP9 hS1 (by decide) (by decide)
    exact absurd hr (by simp [pq_cd, pq_cdF, h1, h2])
  · refine pq_cXV S (c_X6_topInRangeByScan l g a T p1 p2 hst (.inr v) T1 hf) vv_L_100 hK hT (pq_P2 hP) (pq_D2 hD) hS hA rfl rfl rfl rfl rfl hl.1 (Nat.le_of_ble_eq_true rfl) dL_topInRangeByScan_5 (by decide) (by decide) ⟨by decide, by decide⟩ (fun E ce q9 H1 l1 h9 => by cases h9) (fun v9 H1 locs hv hk hP1 hS => ?_)
    obtain rfl : v9 = some (.int v) := (Sum.inr.inj hv).symm
    change W _ _ _ _ _ _ _ _ _ _ _ _ _ _ _ (F0 _ _ _ [.int v, .int 0, .ref ob])
    have hP9 : va_P g.1 pq_cl ([(ob, .inl (g.2 3, 1, .inr (.inl (f))))] ++ mainW g a T1) H1 := va_P.app (pq_kp (pq_P1 hP) (pq_Dx hD) hk) hP1
    have hD9 : va_D A ([(ob, .inl (g.2 3, 1, .inr (.inl (f))))] ++ mainW g a T1) := pq_adr hD (ad_app rfl (ad_X6 _ _))
    clear hk hP1 hP hD
    refine lv_i2l hx hb dL_topInRangeByScan_8 rfl ?_
    refine va_last hx hb hK.1 hP9 hD9 hS 0 3 rfl rfl pq_in01 dL_topInRangeByScan_9 (fun H2 locs hP2 _ hS => ?_)
    refine lv_goto (tgt := 21) hx hb dL_topInRangeByScan_10 (by decide) ?_
    refine lv_iconst (v := 0) hx hb dL_topInRangeByScan_21 (by decide) ?_
    exact hend _ ls _ _ _ _ _ dL_topInRangeByScan_22 (Option.some.inj hr) hP2 hS (by decide) (by decide)
set_option maxHeartbeats 4000000 in
set_option maxRecDepth 100000 in
theorem c_L_countAbove (l : Launch) (g : pq_g) (a : Nat → Nat) (ob : Nat) (f : Nat → Int64) (T : MainS) (p1 : Int32) (p2 : Int32) (p3 : Int32) (hst : l.stackTraces = false) (o : String ⊕ Int32) (T1 : MainS) (hf : f_X6_countAbove T p1 p2 p3 = some (o, T1)) (r : Int32) (hr : pq_cd ["java/lang/IllegalArgumentException"] o = some r) : pq_H l yL_countAbove cL_countAbove 6 [(0, 12, 15, 13)] 46 2 g ([(ob, .inl (g.2 3, 1, .inr (.inl (f))))] ++ mainW g a T) [.ref (a 0), .int p1, .int p2, .int p3, .ref ob] r ([(ob, .inl (g.2 3, 1, .inr (.inl (pq_nf f (fun v => v.toInt64) o))))] ++ mainW g a T1) := by
  refine pq_H.of (by decide) rfl (Nat.le_of_ble_eq_true rfl) rfl ?_
  intro p e s m below meth c ls Q A S htab hP hK hD hS hA hT hL hl hend
  obtain ⟨hx, hb, hml, hown, hts⟩ := id S
  refine lv_aload hx hb dL_countAbove_0 (lv_at hl 4 rfl) ?_
  refine lv_iconst (v := 0) hx hb dL_countAbove_2 (by decide) ?_
  refine lv_aload_n hx hb dL_countAbove_3 rfl (lv_at hl 0 rfl) ?_
  refine lv_iload_n hx hb dL_countAbove_4 rfl (lv_at hl 1 rfl) ?_
  refine lv_iload_n hx hb dL_countAbove_5 rfl (lv_at hl 2 rfl) ?_
  refine lv_iload_n hx hb dL_countAbove_6 rfl (lv_at hl 3 rfl) ?_
  rcases o with E0 | v
  · refine pq_cXV S (c_X6_countAbove l g a T p1 p2 p3 hst (.inl E0) T1 hf) vv_L_103 hK hT (pq_P2 hP) (pq_D2 hD) hS hA rfl rfl rfl rfl rfl hl.1 (Nat.le_of_ble_eq_true rfl) dL_countAbove_7 (by decide) (by decide) ⟨by decide, by decide⟩ (fun E ce q9 H1 locs1 hE hk hP1 hS1 hce hcv hcl => ?_) (fun v H1 l1 h9 => by cases h9)
    obtain rfl : E0 = E := Sum.inl.inj hE
    have hP9 := va_P.app (pq_kp (pq_P1 hP) (pq_Dx hD) hk) hP1
    by_cases h1 : E0 = "java/lang/IllegalArgumentException"
    · subst h1
      refine pq_catch (E := "java/lang/IllegalArgumentException") S hT hL [] (0, 12, 15, 13) [] htab (by decide) (by intro z hz; cases hz) (by decide) (by decide) vc_L_13 hce hcv hcl ?_
      refine lv_astore (lv' := [(5, .ref q9), (0, .ref (a 0)), (1, .int p1), (2, .int p2), (3, .int p3), (4, .ref ob)]) hx hb dL_countAbove_15 hl (by decide) rfl (fun ls hl => ?_)
      refine lv_iconst (v := 1) hx hb dL_countAbove_17 (by decide) ?_
      exact hend _ ls _ _ _ _ _ dL_countAbove_18 (Option.some.inj hr) hP9 hS1 (by decide) (by decide)
    exact absurd hr (by simp [pq_cd, pq_cdF, h1])
  · refine pq_cXV S (c_X6_countAbove l g a T p1 p2 p3 hst (.inr v) T1 hf) vv_L_103 hK hT (pq_P2 hP) (pq_D2 hD) hS hA rfl rfl rfl rfl rfl hl.1 (Nat.le_of_ble_eq_true rfl) dL_countAbove_7 (by decide) (by decide) ⟨by decide, by decide⟩ (fun E ce q9 H1 l1 h9 => by cases h9) (fun v9 H1 locs hv hk hP1 hS => ?_)
    obtain rfl : v9 = some (.int v) := (Sum.inr.inj hv).symm
    change W _ _ _ _ _ _ _ _ _ _ _ _ _ _ _ (F0 _ _ _ [.int v, .int 0, .ref ob])
    have hP9 : va_P g.1 pq_cl ([(ob, .inl (g.2 3, 1, .inr (.inl (f))))] ++ mainW g a T1) H1 := va_P.app (pq_kp (pq_P1 hP) (pq_Dx hD) hk) hP1
    have hD9 : va_D A ([(ob, .inl (g.2 3, 1, .inr (.inl (f))))] ++ mainW g a T1) := pq_adr hD (ad_app rfl (ad_X6 _ _))
    clear hk hP1 hP hD
    refine lv_i2l hx hb dL_countAbove_10 rfl ?_
    refine va_last hx hb hK.1 hP9 hD9 hS 0 3 rfl rfl pq_in01 dL_countAbove_11 (fun H2 locs hP2 _ hS => ?_)
    refine lv_goto (tgt := 19) hx hb dL_countAbove_12 (by decide) ?_
    refine lv_iconst (v := 0) hx hb dL_countAbove_19 (by decide) ?_
    exact hend _ ls _ _ _ _ _ dL_countAbove_20 (Option.some.inj hr) hP2 hS (by decide) (by decide)
set_option maxHeartbeats 4000000 in
set_option maxRecDepth 100000 in
theorem c_L_countAboveByScan (l : Launch) (g : pq_g) (a : Nat → Nat) (ob : Nat) (f : Nat → Int64) (T : MainS) (p1 : Int32) (p2 : Int32) (p3 : Int32) (hst : l.stackTraces = false) (o : String ⊕ Int32) (T1 : MainS) (hf : f_X6_countAboveByScan T p1 p2 p3 = some (o, T1)) (r : Int32) (hr : pq_cd ["java/lang/IllegalArgumentException"] o = some r) : pq_H l yL_countAboveByScan cL_countAboveByScan 6 [(0, 12, 15, 13)] 8 2 g ([(ob, .inl (g.2 3, 1, .inr (.inl (f))))] ++ mainW g a T) [.ref (a 0), .int p1, .int p2, .int p3, .ref ob] r ([(ob, .inl (g.2 3, 1, .inr (.inl (pq_nf f (fun v => v.toInt64) o))))] ++ mainW g a T1) := by
  refine pq_H.of (by decide) rfl (Nat.le_of_ble_eq_true rfl) rfl ?_
  intro p e s m below meth c ls Q A S htab hP hK hD hS hA hT hL hl hend
  obtain ⟨hx, hb, hml, hown, hts⟩ := id S
  refine lv_aload hx hb dL_countAboveByScan_0 (lv_at hl 4 rfl) ?_
  refine lv_iconst (v := 0) hx hb dL_countAboveByScan_2 (by decide) ?_
  refine lv_aload_n hx hb dL_countAboveByScan_3 rfl (lv_at hl 0 rfl) ?_
  refine lv_iload_n hx hb dL_countAboveByScan_4 rfl (lv_at hl 1 rfl) ?_
  refine lv_iload_n hx hb dL_countAboveByScan_5 rfl (lv_at hl 2 rfl) ?_
  refine lv_iload_n hx hb dL_countAboveByScan_6 rfl (lv_at hl 3 rfl) ?_
  rcases o with E0 | v
  · refine pq_cXV S (c_X6_countAboveByScan l g a T p1 p2 p3 hst (.inl E0) T1 hf) vv_L_107 hK hT (pq_P2 hP) (pq_D2 hD) hS hA rfl rfl rfl rfl rfl hl.1 (Nat.le_of_ble_eq_true rfl) dL_countAboveByScan_7 (by decide) (by decide) ⟨by decide, by decide⟩ (fun E ce q9 H1 locs1 hE hk hP1 hS1 hce hcv hcl => ?_) (fun v H1 l1 h9 => by cases h9)
    obtain rfl : E0 = E := Sum.inl.inj hE
    have hP9 := va_P.app (pq_kp (pq_P1 hP) (pq_Dx hD) hk) hP1
    by_cases h1 : E0 = "java/lang/IllegalArgumentException"
    · subst h1
      refine pq_catch (E := "java/lang/IllegalArgumentException") S hT hL [] (0, 12, 15, 13) [] htab (by decide) (by intro z hz; cases hz) (by decide) (by decide) vc_L_13 hce hcv hcl ?_
      refine lv_astore (lv' := [(5, .ref q9), (0, .ref (a 0)), (1, .int p1), (2, .int p2), (3, .int p3), (4, .ref ob)]) hx hb dL_countAboveByScan_15 hl (by decide) rfl (fun ls hl => ?_)
      refine lv_iconst (v := 1) hx hb dL_countAboveByScan_17 (by decide) ?_
      exact hend _ ls _ _ _ _ _ dL_countAboveByScan_18 (Option.some.inj hr) hP9 hS1 (by decide) (by decide)
    exact absurd hr (by simp [pq_cd, pq_cdF, h1])
  · refine pq_cXV S (c_X6_countAboveByScan l g a T p1 p2 p3 hst (.inr v) T1 hf) vv_L_107 hK hT (pq_P2 hP) (pq_D2 hD) hS hA rfl rfl rfl rfl rfl hl.1 (Nat.le_of_ble_eq_true rfl) dL_countAboveByScan_7 (by decide) (by decide) ⟨by decide, by decide⟩ (fun E ce q9 H1 l1 h9 => by cases h9) (fun v9 H1 locs hv hk hP1 hS => ?_)
    obtain rfl : v9 = some (.int v) := (Sum.inr.inj hv).symm
    change W _ _ _ _ _ _ _ _ _ _ _ _ _ _ _ (F0 _ _ _ [.int v, .int 0, .ref ob])
    have hP9 : va_P g.1 pq_cl ([(ob, .inl (g.2 3, 1, .inr (.inl (f))))] ++ mainW g a T1) H1 := va_P.app (pq_kp (pq_P1 hP) (pq_Dx hD) hk) hP1
    have hD9 : va_D A ([(ob, .inl (g.2 3, 1, .inr (.inl (f))))] ++ mainW g a T1) := pq_adr hD (ad_app rfl (ad_X6 _ _))
    clear hk hP1 hP hD
    refine lv_i2l hx hb dL_countAboveByScan_10 rfl ?_
    refine va_last hx hb hK.1 hP9 hD9 hS 0 3 rfl rfl pq_in01 dL_countAboveByScan_11 (fun H2 locs hP2 _ hS => ?_)
    refine lv_goto (tgt := 19) hx hb dL_countAboveByScan_12 (by decide) ?_
    refine lv_iconst (v := 0) hx hb dL_countAboveByScan_19 (by decide) ?_
    exact hend _ ls _ _ _ _ _ dL_countAboveByScan_20 (Option.some.inj hr) hP2 hS (by decide) (by decide)
set_option maxHeartbeats 4000000 in
set_option maxRecDepth 100000 in
theorem c_L_sumInRange (l : Launch) (g : pq_g) (a : Nat → Nat) (ob : Nat) (f : Nat → Int64) (T : MainS) (p1 : Int32) (p2 : Int32) (hst : l.stackTraces = false) (o : String ⊕ Int64) (T1 : MainS) (hf : f_X6_sumInRange T p1 p2 = some (o, T1)) (r : Int32) (hr : pq_cd ["java/lang/IllegalArgumentException"] o = some r) : pq_H l yL_sumInRange cL_sumInRange 5 [(0, 9, 12, 13)] 8 1 g ([(ob, .inl (g.2 3, 1, .inr (.inl (f))))] ++ mainW g a T) [.ref (a 0), .int p1, .int p2, .ref ob] r ([(ob, .inl (g.2 3, 1, .inr (.inl (pq_nf f (fun v => v) o))))] ++ mainW g a T1) := by
  refine pq_H.of (by decide) rfl (Nat.le_of_ble_eq_true rfl) rfl ?_
  intro p e s m below meth c ls Q A S htab hP hK hD hS hA hT hL hl hend
  obtain ⟨hx, hb, hml, hown, hts⟩ := id S
  refine lv_aload_n hx hb dL_sumInRange_0 rfl (lv_at hl 3 rfl) ?_
  refine lv_iconst (v := 0) hx hb dL_sumInRange_1 (by decide) ?_
  refine lv_aload_n hx hb dL_sumInRange_2 rfl (lv_at hl 0 rfl) ?_
  refine lv_iload_n hx hb dL_sumInRange_3 rfl (lv_at hl 1 rfl) ?_
  refine lv_iload_n hx hb dL_sumInRange_4 rfl (lv_at hl 2 rfl) ?_
  rcases o with E0 | v
  · refine pq_cXV S (c_X6_sumInRange l g a T p1 p2 hst (.inl E0) T1 hf) vv_L_110 hK hT (pq_P2 hP) (pq_D2 hD) hS hA rfl rfl rfl rfl rfl hl.1 (Nat.le_of_ble_eq_true rfl) dL_sumInRange_5 (by decide) (by decide) ⟨by decide, by decide⟩ (fun E ce q9 H1 locs1 hE hk hP1 hS1 hce hcv hcl => ?_) (fun v H1 l1 h9 => by cases h9)
    obtain rfl : E0 = E := Sum.inl.inj hE
    have hP9 := va_P.app (pq_kp (pq_P1 hP) (pq_Dx hD) hk) hP1
    by_cases h1 : E0 = "java/lang/IllegalArgumentException"
    · subst h1
      refine pq_catch (E := "java/lang/IllegalArgumentException") S hT hL [] (0, 9, 12, 13) [] htab (by decide) (by intro z hz; cases hz) (by decide) (by decide) vc_L_13 hce hcv hcl ?_
      refine lv_astore (lv' := [(4, .ref q9), (0, .ref (a 0)), (1, .int p1), (2, .int p2), (3, .ref ob)]) hx hb dL_sumInRange_12 hl (by decide) rfl (fun ls hl => ?_)
      refine lv_iconst (v := 1) hx hb dL_sumInRange_14 (by decide) ?_
      exact hend _ ls _ _ _ _ _ dL_sumInRange_15 (Option.some.inj hr) hP9 hS1 (by decide) (by decide)
    exact absurd hr (by simp [pq_cd, pq_cdF, h1])
  · refine pq_cXV S (c_X6_sumInRange l g a T p1 p2 hst (.inr v) T1 hf) vv_L_110 hK hT (pq_P2 hP) (pq_D2 hD) hS hA rfl rfl rfl rfl rfl hl.1 (Nat.le_of_ble_eq_true rfl) dL_sumInRange_5 (by decide) (by decide) ⟨by decide, by decide⟩ (fun E ce q9 H1 l1 h9 => by cases h9) (fun v9 H1 locs hv hk hP1 hS => ?_)
    obtain rfl : v9 = some (.long v) := (Sum.inr.inj hv).symm
    change W _ _ _ _ _ _ _ _ _ _ _ _ _ _ _ (F0 _ _ _ [.long v, .int 0, .ref ob])
    have hP9 : va_P g.1 pq_cl ([(ob, .inl (g.2 3, 1, .inr (.inl (f))))] ++ mainW g a T1) H1 := va_P.app (pq_kp (pq_P1 hP) (pq_Dx hD) hk) hP1
    have hD9 : va_D A ([(ob, .inl (g.2 3, 1, .inr (.inl (f))))] ++ mainW g a T1) := pq_adr hD (ad_app rfl (ad_X6 _ _))
    clear hk hP1 hP hD
    refine va_last hx hb hK.1 hP9 hD9 hS 0 3 rfl rfl pq_in01 dL_sumInRange_8 (fun H2 locs hP2 _ hS => ?_)
    refine lv_goto (tgt := 16) hx hb dL_sumInRange_9 (by decide) ?_
    refine lv_iconst (v := 0) hx hb dL_sumInRange_16 (by decide) ?_
    exact hend _ ls _ _ _ _ _ dL_sumInRange_17 (Option.some.inj hr) hP2 hS (by decide) (by decide)
set_option maxHeartbeats 4000000 in
set_option maxRecDepth 100000 in
theorem c_L_setWindow (l : Launch) (g : pq_g) (a : Nat → Nat) (ob : Nat) (f : Nat → Int64) (T : MainS) (p1 : Int32) (p2 : Int32) (p3 : Int32) (p4 : Int32) (p5 : Int32) (hst : l.stackTraces = false) (o : String ⊕ Int32) (T1 : MainS) (hf : f_X6_setWindow T p1 p2 p3 p4 p5 = some (o, T1)) (r : Int32) (hr : pq_cd ["java/lang/IndexOutOfBoundsException", "java/lang/IllegalArgumentException", "java/lang/UnsupportedOperationException"] o = some r) : pq_H l yL_setWindow cL_setWindow 8 [(0, 16, 19, 118), (0, 16, 23, 13), (0, 16, 27, 15)] 8 5 g ([(ob, .inl (g.2 3, 1, .inr (.inl (f))))] ++ mainW g a T) [.ref (a 0), .int p1, .int p2, .int p3, .int p4, .int p5, .ref ob] r ([(ob, .inl (g.2 3, 1, .inr (.inl (pq_nf f (fun v => v.toInt64) o))))] ++ mainW g a T1) := by
  refine pq_H.of (by decide) rfl (Nat.le_of_ble_eq_true rfl) rfl ?_
  intro p e s m below meth c ls Q A S htab hP hK hD hS hA hT hL hl hend
  obtain ⟨hx, hb, hml, hown, hts⟩ := id S
  refine lv_aload hx hb dL_setWindow_0 (lv_at hl 6 rfl) ?_
  refine lv_iconst (v := 0) hx hb dL_setWindow_2 (by decide) ?_
  refine lv_aload_n hx hb dL_setWindow_3 rfl (lv_at hl 0 rfl) ?_
  refine lv_iload_n hx hb dL_setWindow_4 rfl (lv_at hl 1 rfl) ?_
  refine lv_iload_n hx hb dL_setWindow_5 rfl (lv_at hl 2 rfl) ?_
  refine lv_iload_n hx hb dL_setWindow_6 rfl (lv_at hl 3 rfl) ?_
  refine lv_iload hx hb dL_setWindow_7 (lv_at hl 4 rfl) ?_
  refine lv_iload hx hb dL_setWindow_9 (lv_at hl 5 rfl) ?_
  rcases o with E0 | v
  · refine pq_cXV S (c_X6_setWindow l g a T p1 p2 p3 p4 p5 hst (.inl E0) T1 hf) vv_L_114 hK hT (pq_P2 hP) (pq_D2 hD) hS hA rfl rfl rfl rfl rfl hl.1 (Nat.le_of_ble_eq_true rfl) dL_setWindow_11 (by decide) (by decide) ⟨by decide, by decide⟩ (fun E ce q9 H1 locs1 hE hk hP1 hS1 hce hcv hcl => ?_) (fun v H1 l1 h9 => by cases h9)
    obtain rfl : E0 = E := Sum.inl.inj hE
    have hP9 := va_P.app (pq_kp (pq_P1 hP) (pq_Dx hD) hk) hP1
    by_cases h1 : E0 = "java/lang/IndexOutOfBoundsException"
    · subst h1
      refine pq_catch (E := "java/lang/IndexOutOfBoundsException") S hT hL [] (0, 16, 19, 118) [(0, 16, 23, 13), (0, 16, 27, 15)] htab (by decide) (by intro z hz; cases hz) (by decide) (by decide) vc_L_118 hce hcv hcl ?_
      refine lv_astore (lv' := [(7, .ref q9), (0, .ref (a 0)), (1, .int p1), (2, .int p2), (3, .int p3), (4, .int p4), (5, .int p5), (6, .ref ob)]) hx hb dL_setWindow_19 hl (by decide) rfl (fun ls hl => ?_)
      refine lv_iconst (v := 1) hx hb dL_setWindow_21 (by decide) ?_
      exact hend _ ls _ _ _ _ _ dL_setWindow_22 (Option.some.inj hr) hP9 hS1 (by decide) (by decide)
    by_cases h2 : E0 = "java/lang/IllegalArgumentException"
    · subst h2
      refine pq_catch (E := "java/lang/IllegalArgumentException") S hT hL [((0, 16, 19, 118), "java/lang/IndexOutOfBoundsException")] (0, 16, 23, 13) [(0, 16, 27, 15)] htab (by decide) (by intro z hz; simp only [List.mem_cons, List.not_mem_nil, or_false] at hz; rcases hz with rfl; exact ⟨by decide, vc_L_118, by decide, by decide⟩) (by decide) (by decide) vc_L_13 hce hcv hcl ?_
      refine lv_astore (lv' := [(7, .ref q9), (0, .ref (a 0)), (1, .int p1), (2, .int p2), (3, .int p3), (4, .int p4), (5, .int p5), (6, .ref ob)]) hx hb dL_setWindow_23 hl (by decide) rfl (fun ls hl => ?_)
      refine lv_iconst (v := 2) hx hb dL_setWindow_25 (by decide) ?_
      exact hend _ ls _ _ _ _ _ dL_setWindow_26 (Option.some.inj hr) hP9 hS1 (by decide) (by decide)
    by_cases h3 : E0 = "java/lang/UnsupportedOperationException"
    · subst h3
      refine pq_catch (E := "java/lang/UnsupportedOperationException") S hT hL [((0, 16, 19, 118), "java/lang/IndexOutOfBoundsException"), ((0, 16, 23, 13), "java/lang/IllegalArgumentException")] (0, 16, 27, 15) [] htab (by decide) (by intro z hz; simp only [List.mem_cons, List.not_mem_nil, or_false] at hz; rcases hz with rfl | rfl <;> first | exact ⟨by decide, vc_L_118, by decide, by decide⟩ | exact ⟨by decide, vc_L_13, by decide, by decide⟩) (by decide) (by decide) vc_L_15 hce hcv hcl ?_
      refine lv_astore (lv' := [(7, .ref q9), (0, .ref (a 0)), (1, .int p1), (2, .int p2), (3, .int p3), (4, .int p4), (5, .int p5), (6, .ref ob)]) hx hb dL_setWindow_27 hl (by decide) rfl (fun ls hl => ?_)
      refine lv_iconst (v := 3) hx hb dL_setWindow_29 (by decide) ?_
      exact hend _ ls _ _ _ _ _ dL_setWindow_30 (Option.some.inj hr) hP9 hS1 (by decide) (by decide)
    exact absurd hr (by simp [pq_cd, pq_cdF, h1, h2, h3])
  · refine pq_cXV S (c_X6_setWindow l g a T p1 p2 p3 p4 p5 hst (.inr v) T1 hf) vv_L_114 hK hT (pq_P2 hP) (pq_D2 hD) hS hA rfl rfl rfl rfl rfl hl.1 (Nat.le_of_ble_eq_true rfl) dL_setWindow_11 (by decide) (by decide) ⟨by decide, by decide⟩ (fun E ce q9 H1 l1 h9 => by cases h9) (fun v9 H1 locs hv hk hP1 hS => ?_)
    obtain rfl : v9 = some (.int v) := (Sum.inr.inj hv).symm
    change W _ _ _ _ _ _ _ _ _ _ _ _ _ _ _ (F0 _ _ _ [.int v, .int 0, .ref ob])
    have hP9 : va_P g.1 pq_cl ([(ob, .inl (g.2 3, 1, .inr (.inl (f))))] ++ mainW g a T1) H1 := va_P.app (pq_kp (pq_P1 hP) (pq_Dx hD) hk) hP1
    have hD9 : va_D A ([(ob, .inl (g.2 3, 1, .inr (.inl (f))))] ++ mainW g a T1) := pq_adr hD (ad_app rfl (ad_X6 _ _))
    clear hk hP1 hP hD
    refine lv_i2l hx hb dL_setWindow_14 rfl ?_
    refine va_last hx hb hK.1 hP9 hD9 hS 0 3 rfl rfl pq_in01 dL_setWindow_15 (fun H2 locs hP2 _ hS => ?_)
    refine lv_goto (tgt := 31) hx hb dL_setWindow_16 (by decide) ?_
    refine lv_iconst (v := 0) hx hb dL_setWindow_31 (by decide) ?_
    exact hend _ ls _ _ _ _ _ dL_setWindow_32 (Option.some.inj hr) hP2 hS (by decide) (by decide)
set_option maxHeartbeats 4000000 in
set_option maxRecDepth 100000 in
theorem c_L_removeWindow (l : Launch) (g : pq_g) (a : Nat → Nat) (ob : Nat) (f : Nat → Int64) (T : MainS) (p1 : Int32) (hst : l.stackTraces = false) (o : String ⊕ Int32) (T1 : MainS) (hf : f_X6_removeWindow T p1 = some (o, T1)) (r : Int32) (hr : pq_cd ["java/lang/IndexOutOfBoundsException", "java/util/NoSuchElementException"] o = some r) : pq_H l yL_removeWindow cL_removeWindow 4 [(0, 9, 12, 118), (0, 9, 15, 21)] 9 2 g ([(ob, .inl (g.2 3, 1, .inr (.inl (f))))] ++ mainW g a T) [.ref (a 0), .int p1, .ref ob] r ([(ob, .inl (g.2 3, 1, .inr (.inl (pq_nf f (fun v => v.toInt64) o))))] ++ mainW g a T1) := by
  refine pq_H.of (by decide) rfl (Nat.le_of_ble_eq_true rfl) rfl ?_
  intro p e s m below meth c ls Q A S htab hP hK hD hS hA hT hL hl hend
  obtain ⟨hx, hb, hml, hown, hts⟩ := id S
  refine lv_aload_n hx hb dL_removeWindow_0 rfl (lv_at hl 2 rfl) ?_
  refine lv_iconst (v := 0) hx hb dL_removeWindow_1 (by decide) ?_
  refine lv_aload_n hx hb dL_removeWindow_2 rfl (lv_at hl 0 rfl) ?_
  refine lv_iload_n hx hb dL_removeWindow_3 rfl (lv_at hl 1 rfl) ?_
  rcases o with E0 | v
  · refine pq_cXV S (c_X6_removeWindow l g a T p1 hst (.inl E0) T1 hf) vv_L_120 hK hT (pq_P2 hP) (pq_D2 hD) hS hA rfl rfl rfl rfl rfl hl.1 (Nat.le_of_ble_eq_true rfl) dL_removeWindow_4 (by decide) (by decide) ⟨by decide, by decide⟩ (fun E ce q9 H1 locs1 hE hk hP1 hS1 hce hcv hcl => ?_) (fun v H1 l1 h9 => by cases h9)
    obtain rfl : E0 = E := Sum.inl.inj hE
    have hP9 := va_P.app (pq_kp (pq_P1 hP) (pq_Dx hD) hk) hP1
    by_cases h1 : E0 = "java/lang/IndexOutOfBoundsException"
    · subst h1
      refine pq_catch (E := "java/lang/IndexOutOfBoundsException") S hT hL [] (0, 9, 12, 118) [(0, 9, 15, 21)] htab (by decide) (by intro z hz; cases hz) (by decide) (by decide) vc_L_118 hce hcv hcl ?_
      refine lv_astore_n (lv' := [(3, .ref q9), (0, .ref (a 0)), (1, .int p1), (2, .ref ob)]) hx hb dL_removeWindow_12 rfl hl (by decide) rfl (fun ls hl => ?_)
      refine lv_iconst (v := 1) hx hb dL_removeWindow_13 (by decide) ?_
      exact hend _ ls _ _ _ _ _ dL_removeWindow_14 (Option.some.inj hr) hP9 hS1 (by decide) (by decide)
    by_cases h2 : E0 = "java/util/NoSuchElementException"
    · subst h2
      refine pq_catch (E := "java/util/NoSuchElementException") S hT hL [((0, 9, 12, 118), "java/lang/IndexOutOfBoundsException")] (0, 9, 15, 21) [] htab (by decide) (by intro z hz; simp only [List.mem_cons, List.not_mem_nil, or_false] at hz; rcases hz with rfl; exact ⟨by decide, vc_L_118, by decide, by decide⟩) (by decide) (by decide) vc_L_21 hce hcv hcl ?_
      refine lv_astore_n (lv' := [(3, .ref q9), (0, .ref (a 0)), (1, .int p1), (2, .ref ob)]) hx hb dL_removeWindow_15 rfl hl (by decide) rfl (fun ls hl => ?_)
      refine lv_iconst (v := 2) hx hb dL_removeWindow_16 (by decide) ?_
      exact hend _ ls _ _ _ _ _ dL_removeWindow_17 (Option.some.inj hr) hP9 hS1 (by decide) (by decide)
    exact absurd hr (by simp [pq_cd, pq_cdF, h1, h2])
  · refine pq_cXV S (c_X6_removeWindow l g a T p1 hst (.inr v) T1 hf) vv_L_120 hK hT (pq_P2 hP) (pq_D2 hD) hS hA rfl rfl rfl rfl rfl hl.1 (Nat.le_of_ble_eq_true rfl) dL_removeWindow_4 (by decide) (by decide) ⟨by decide, by decide⟩ (fun E ce q9 H1 l1 h9 => by cases h9) (fun v9 H1 locs hv hk hP1 hS => ?_)
    obtain rfl : v9 = some (.int v) := (Sum.inr.inj hv).symm
    change W _ _ _ _ _ _ _ _ _ _ _ _ _ _ _ (F0 _ _ _ [.int v, .int 0, .ref ob])
    have hP9 : va_P g.1 pq_cl ([(ob, .inl (g.2 3, 1, .inr (.inl (f))))] ++ mainW g a T1) H1 := va_P.app (pq_kp (pq_P1 hP) (pq_Dx hD) hk) hP1
    have hD9 : va_D A ([(ob, .inl (g.2 3, 1, .inr (.inl (f))))] ++ mainW g a T1) := pq_adr hD (ad_app rfl (ad_X6 _ _))
    clear hk hP1 hP hD
    refine lv_i2l hx hb dL_removeWindow_7 rfl ?_
    refine va_last hx hb hK.1 hP9 hD9 hS 0 3 rfl rfl pq_in01 dL_removeWindow_8 (fun H2 locs hP2 _ hS => ?_)
    refine lv_goto (tgt := 18) hx hb dL_removeWindow_9 (by decide) ?_
    refine lv_iconst (v := 0) hx hb dL_removeWindow_18 (by decide) ?_
    exact hend _ ls _ _ _ _ _ dL_removeWindow_19 (Option.some.inj hr) hP2 hS (by decide) (by decide)
set_option maxHeartbeats 4000000 in
set_option maxRecDepth 100000 in
theorem c_L_isWindowSet (l : Launch) (g : pq_g) (a : Nat → Nat) (ob : Nat) (f : Nat → Int64) (T : MainS) (p1 : Int32) (hst : l.stackTraces = false) (o : String ⊕ Int32) (T1 : MainS) (hf : f_X6_isWindowSet T p1 = some (o, T1)) (r : Int32) (hr : pq_cd ["java/lang/IndexOutOfBoundsException"] o = some r) : pq_H l yL_isWindowSet cL_isWindowSet 4 [(0, 16, 19, 118)] 8 1 g ([(ob, .inl (g.2 3, 1, .inr (.inl (f))))] ++ mainW g a T) [.ref (a 0), .int p1, .ref ob] r ([(ob, .inl (g.2 3, 1, .inr (.inl (pq_nf f (fun v => if v = 0 then 0 else 1) o))))] ++ mainW g a T1) := by
  refine pq_H.of (by decide) rfl (Nat.le_of_ble_eq_true rfl) rfl ?_
  intro p e s m below meth c ls Q A S htab hP hK hD hS hA hT hL hl hend
  obtain ⟨hx, hb, hml, hown, hts⟩ := id S
  refine lv_aload_n hx hb dL_isWindowSet_0 rfl (lv_at hl 2 rfl) ?_
  refine lv_iconst (v := 0) hx hb dL_isWindowSet_1 (by decide) ?_
  refine lv_aload_n hx hb dL_isWindowSet_2 rfl (lv_at hl 0 rfl) ?_
  refine lv_iload_n hx hb dL_isWindowSet_3 rfl (lv_at hl 1 rfl) ?_
  rcases o with E0 | v
  · refine pq_cXV S (c_X6_isWindowSet l g a T p1 hst (.inl E0) T1 hf) vv_L_123 hK hT (pq_P2 hP) (pq_D2 hD) hS hA rfl rfl rfl rfl rfl hl.1 (Nat.le_of_ble_eq_true rfl) dL_isWindowSet_4 (by decide) (by decide) ⟨by decide, by decide⟩ (fun E ce q9 H1 locs1 hE hk hP1 hS1 hce hcv hcl => ?_) (fun v H1 l1 h9 => by cases h9)
    obtain rfl : E0 = E := Sum.inl.inj hE
    have hP9 := va_P.app (pq_kp (pq_P1 hP) (pq_Dx hD) hk) hP1
    by_cases h1 : E0 = "java/lang/IndexOutOfBoundsException"
    · subst h1
      refine pq_catch (E := "java/lang/IndexOutOfBoundsException") S hT hL [] (0, 16, 19, 118) [] htab (by decide) (by intro z hz; cases hz) (by decide) (by decide) vc_L_118 hce hcv hcl ?_
      refine lv_astore_n (lv' := [(3, .ref q9), (0, .ref (a 0)), (1, .int p1), (2, .ref ob)]) hx hb dL_isWindowSet_19 rfl hl (by decide) rfl (fun ls hl => ?_)
      refine lv_iconst (v := 1) hx hb dL_isWindowSet_20 (by decide) ?_
      exact hend _ ls _ _ _ _ _ dL_isWindowSet_21 (Option.some.inj hr) hP9 hS1 (by decide) (by decide)
    exact absurd hr (by simp [pq_cd, pq_cdF, h1])
  · refine pq_cXV S (c_X6_isWindowSet l g a T p1 hst (.inr v) T1 hf) vv_L_123 hK hT (pq_P2 hP) (pq_D2 hD) hS hA rfl rfl rfl rfl rfl hl.1 (Nat.le_of_ble_eq_true rfl) dL_isWindowSet_4 (by decide) (by decide) ⟨by decide, by decide⟩ (fun E ce q9 H1 l1 h9 => by cases h9) (fun v9 H1 locs hv hk hP1 hS => ?_)
    obtain rfl : v9 = some (.int v) := (Sum.inr.inj hv).symm
    change W _ _ _ _ _ _ _ _ _ _ _ _ _ _ _ (F0 _ _ _ [.int v, .int 0, .ref ob])
    have hP9 : va_P g.1 pq_cl ([(ob, .inl (g.2 3, 1, .inr (.inl (f))))] ++ mainW g a T1) H1 := va_P.app (pq_kp (pq_P1 hP) (pq_Dx hD) hk) hP1
    have hD9 : va_D A ([(ob, .inl (g.2 3, 1, .inr (.inl (f))))] ++ mainW g a T1) := pq_adr hD (ad_app rfl (ad_X6 _ _))
    clear hk hP1 hP hD
    refine lv_if_eq (tgt := 14) hx hb dL_isWindowSet_7 (by decide) (fun h1 => ?_) (fun h1 => ?_)
    · refine lv_lconst (v := 0) hx hb dL_isWindowSet_14 (by decide) ?_
      replace hP9 := hP9
      refine va_last hx hb hK.1 hP9 hD9 hS 0 3 rfl rfl pq_in01 dL_isWindowSet_15 (fun H2 locs hP2 _ hS => ?_)
      refine lv_goto (tgt := 22) hx hb dL_isWindowSet_16 (by decide) ?_
      refine lv_iconst (v := 0) hx hb dL_isWindowSet_22 (by decide) ?_
      exact hend _ ls _ _ _ _ _ dL_isWindowSet_23 (Option.some.inj hr) (by subst h1; exact hP2) hS (by decide) (by decide)
    · refine lv_lconst (v := 1) hx hb dL_isWindowSet_10 (by decide) ?_
      refine lv_goto (tgt := 15) hx hb dL_isWindowSet_11 (by decide) ?_
      refine va_last hx hb hK.1 hP9 hD9 hS 0 3 rfl rfl pq_in01 dL_isWindowSet_15 (fun H2 locs hP2 _ hS => ?_)
      refine lv_goto (tgt := 22) hx hb dL_isWindowSet_16 (by decide) ?_
      refine lv_iconst (v := 0) hx hb dL_isWindowSet_22 (by decide) ?_
      exact hend _ ls _ _ _ _ _ dL_isWindowSet_23 (Option.some.inj hr) (by have e9 : (if v = 0 then (0 : Int64) else 1) = 1 := if_neg h1; show va_P g.1 pq_cl ([(ob, .inl (g.2 3, 1, .inr (.inl (fun j => if j = 0 then (if v = 0 then (0 : Int64) else 1) else f j))))] ++ mainW g a T1) _; rw [e9]; exact hP2) hS (by decide) (by decide)
set_option maxHeartbeats 4000000 in
set_option maxRecDepth 100000 in
theorem c_L_pointsInWindow (l : Launch) (g : pq_g) (a : Nat → Nat) (ob : Nat) (f : Nat → Int64) (T : MainS) (p1 : Int32) (hst : l.stackTraces = false) (o : String ⊕ Int32) (T1 : MainS) (hf : f_X6_pointsInWindow T p1 = some (o, T1)) (r : Int32) (hr : pq_cd ["java/lang/IndexOutOfBoundsException", "java/util/NoSuchElementException"] o = some r) : pq_H l yL_pointsInWindow cL_pointsInWindow 4 [(0, 9, 12, 118), (0, 9, 15, 21)] 9 2 g ([(ob, .inl (g.2 3, 1, .inr (.inl (f))))] ++ mainW g a T) [.ref (a 0), .int p1, .ref ob] r ([(ob, .inl (g.2 3, 1, .inr (.inl (pq_nf f (fun v => v.toInt64) o))))] ++ mainW g a T1) := by
  refine pq_H.of (by decide) rfl (Nat.le_of_ble_eq_true rfl) rfl ?_
  intro p e s m below meth c ls Q A S htab hP hK hD hS hA hT hL hl hend
  obtain ⟨hx, hb, hml, hown, hts⟩ := id S
  refine lv_aload_n hx hb dL_pointsInWindow_0 rfl (lv_at hl 2 rfl) ?_
  refine lv_iconst (v := 0) hx hb dL_pointsInWindow_1 (by decide) ?_
  refine lv_aload_n hx hb dL_pointsInWindow_2 rfl (lv_at hl 0 rfl) ?_
  refine lv_iload_n hx hb dL_pointsInWindow_3 rfl (lv_at hl 1 rfl) ?_
  rcases o with E0 | v
  · refine pq_cXV S (c_X6_pointsInWindow l g a T p1 hst (.inl E0) T1 hf) vv_L_126 hK hT (pq_P2 hP) (pq_D2 hD) hS hA rfl rfl rfl rfl rfl hl.1 (Nat.le_of_ble_eq_true rfl) dL_pointsInWindow_4 (by decide) (by decide) ⟨by decide, by decide⟩ (fun E ce q9 H1 locs1 hE hk hP1 hS1 hce hcv hcl => ?_) (fun v H1 l1 h9 => by cases h9)
    obtain rfl : E0 = E := Sum.inl.inj hE
    have hP9 := va_P.app (pq_kp (pq_P1 hP) (pq_Dx hD) hk) hP1
    by_cases h1 : E0 = "java/lang/IndexOutOfBoundsException"
    · subst h1
      refine pq_catch (E := "java/lang/IndexOutOfBoundsException") S hT hL [] (0, 9, 12, 118) [(0, 9, 15, 21)] htab (by decide) (by intro z hz; cases hz) (by decide) (by decide) vc_L_118 hce hcv hcl ?_
      refine lv_astore_n (lv' := [(3, .ref q9), (0, .ref (a 0)), (1, .int p1), (2, .ref ob)]) hx hb dL_pointsInWindow_12 rfl hl (by decide) rfl (fun ls hl => ?_)
      refine lv_iconst (v := 1) hx hb dL_pointsInWindow_13 (by decide) ?_
      exact hend _ ls _ _ _ _ _ dL_pointsInWindow_14 (Option.some.inj hr) hP9 hS1 (by decide) (by decide)
    by_cases h2 : E0 = "java/util/NoSuchElementException"
    · subst h2
      refine pq_catch (E := "java/util/NoSuchElementException") S hT hL [((0, 9, 12, 118), "java/lang/IndexOutOfBoundsException")] (0, 9, 15, 21) [] htab (by decide) (by intro z hz; simp only [List.mem_cons, List.not_mem_nil, or_false] at hz; rcases hz with rfl; exact ⟨by decide, vc_L_118, by decide, by decide⟩) (by decide) (by decide) vc_L_21 hce hcv hcl ?_
      refine lv_astore_n (lv' := [(3, .ref q9), (0, .ref (a 0)), (1, .int p1), (2, .ref ob)]) hx hb dL_pointsInWindow_15 rfl hl (by decide) rfl (fun ls hl => ?_)
      refine lv_iconst (v := 2) hx hb dL_pointsInWindow_16 (by decide) ?_
      exact hend _ ls _ _ _ _ _ dL_pointsInWindow_17 (Option.some.inj hr) hP9 hS1 (by decide) (by decide)
    exact absurd hr (by simp [pq_cd, pq_cdF, h1, h2])
  · refine pq_cXV S (c_X6_pointsInWindow l g a T p1 hst (.inr v) T1 hf) vv_L_126 hK hT (pq_P2 hP) (pq_D2 hD) hS hA rfl rfl rfl rfl rfl hl.1 (Nat.le_of_ble_eq_true rfl) dL_pointsInWindow_4 (by decide) (by decide) ⟨by decide, by decide⟩ (fun E ce q9 H1 l1 h9 => by cases h9) (fun v9 H1 locs hv hk hP1 hS => ?_)
    obtain rfl : v9 = some (.int v) := (Sum.inr.inj hv).symm
    change W _ _ _ _ _ _ _ _ _ _ _ _ _ _ _ (F0 _ _ _ [.int v, .int 0, .ref ob])
    have hP9 : va_P g.1 pq_cl ([(ob, .inl (g.2 3, 1, .inr (.inl (f))))] ++ mainW g a T1) H1 := va_P.app (pq_kp (pq_P1 hP) (pq_Dx hD) hk) hP1
    have hD9 : va_D A ([(ob, .inl (g.2 3, 1, .inr (.inl (f))))] ++ mainW g a T1) := pq_adr hD (ad_app rfl (ad_X6 _ _))
    clear hk hP1 hP hD
    refine lv_i2l hx hb dL_pointsInWindow_7 rfl ?_
    refine va_last hx hb hK.1 hP9 hD9 hS 0 3 rfl rfl pq_in01 dL_pointsInWindow_8 (fun H2 locs hP2 _ hS => ?_)
    refine lv_goto (tgt := 18) hx hb dL_pointsInWindow_9 (by decide) ?_
    refine lv_iconst (v := 0) hx hb dL_pointsInWindow_18 (by decide) ?_
    exact hend _ ls _ _ _ _ _ dL_pointsInWindow_19 (Option.some.inj hr) hP2 hS (by decide) (by decide)
set_option maxHeartbeats 4000000 in
set_option maxRecDepth 100000 in
theorem c_L_roomInWindow (l : Launch) (g : pq_g) (a : Nat → Nat) (ob : Nat) (f : Nat → Int64) (T : MainS) (p1 : Int32) (hst : l.stackTraces = false) (o : String ⊕ Int32) (T1 : MainS) (hf : f_X6_roomInWindow T p1 = some (o, T1)) (r : Int32) (hr : pq_cd ["java/lang/IndexOutOfBoundsException", "java/util/NoSuchElementException"] o = some r) : pq_H l yL_roomInWindow cL_roomInWindow 4 [(0, 9, 12, 118), (0, 9, 15, 21)] 9 2 g ([(ob, .inl (g.2 3, 1, .inr (.inl (f))))] ++ mainW g a T) [.ref (a 0), .int p1, .ref ob] r ([(ob, .inl (g.2 3, 1, .inr (.inl (pq_nf f (fun v => v.toInt64) o))))] ++ mainW g a T1) := by
  refine pq_H.of (by decide) rfl (Nat.le_of_ble_eq_true rfl) rfl ?_
  intro p e s m below meth c ls Q A S htab hP hK hD hS hA hT hL hl hend
  obtain ⟨hx, hb, hml, hown, hts⟩ := id S
  refine lv_aload_n hx hb dL_roomInWindow_0 rfl (lv_at hl 2 rfl) ?_
  refine lv_iconst (v := 0) hx hb dL_roomInWindow_1 (by decide) ?_
  refine lv_aload_n hx hb dL_roomInWindow_2 rfl (lv_at hl 0 rfl) ?_
  refine lv_iload_n hx hb dL_roomInWindow_3 rfl (lv_at hl 1 rfl) ?_
  rcases o with E0 | v
  · refine pq_cXV S (c_X6_roomInWindow l g a T p1 hst (.inl E0) T1 hf) vv_L_129 hK hT (pq_P2 hP) (pq_D2 hD) hS hA rfl rfl rfl rfl rfl hl.1 (Nat.le_of_ble_eq_true rfl) dL_roomInWindow_4 (by decide) (by decide) ⟨by decide, by decide⟩ (fun E ce q9 H1 locs1 hE hk hP1 hS1 hce hcv hcl => ?_) (fun v H1 l1 h9 => by cases h9)
    obtain rfl : E0 = E := Sum.inl.inj hE
    have hP9 := va_P.app (pq_kp (pq_P1 hP) (pq_Dx hD) hk) hP1
    by_cases h1 : E0 = "java/lang/IndexOutOfBoundsException"
    · subst h1
      refine pq_catch (E := "java/lang/IndexOutOfBoundsException") S hT hL [] (0, 9, 12, 118) [(0, 9, 15, 21)] htab (by decide) (by intro z hz; cases hz) (by decide) (by decide) vc_L_118 hce hcv hcl ?_
      refine lv_astore_n (lv' := [(3, .ref q9), (0, .ref (a 0)), (1, .int p1), (2, .ref ob)]) hx hb dL_roomInWindow_12 rfl hl (by decide) rfl (fun ls hl => ?_)
      refine lv_iconst (v := 1) hx hb dL_roomInWindow_13 (by decide) ?_
      exact hend _ ls _ _ _ _ _ dL_roomInWindow_14 (Option.some.inj hr) hP9 hS1 (by decide) (by decide)
    by_cases h2 : E0 = "java/util/NoSuchElementException"
    · subst h2
      refine pq_catch (E := "java/util/NoSuchElementException") S hT hL [((0, 9, 12, 118), "java/lang/IndexOutOfBoundsException")] (0, 9, 15, 21) [] htab (by decide) (by intro z hz; simp only [List.mem_cons, List.not_mem_nil, or_false] at hz; rcases hz with rfl; exact ⟨by decide, vc_L_118, by decide, by decide⟩) (by decide) (by decide) vc_L_21 hce hcv hcl ?_
      refine lv_astore_n (lv' := [(3, .ref q9), (0, .ref (a 0)), (1, .int p1), (2, .ref ob)]) hx hb dL_roomInWindow_15 rfl hl (by decide) rfl (fun ls hl => ?_)
      refine lv_iconst (v := 2) hx hb dL_roomInWindow_16 (by decide) ?_
      exact hend _ ls _ _ _ _ _ dL_roomInWindow_17 (Option.some.inj hr) hP9 hS1 (by decide) (by decide)
    exact absurd hr (by simp [pq_cd, pq_cdF, h1, h2])
  · refine pq_cXV S (c_X6_roomInWindow l g a T p1 hst (.inr v) T1 hf) vv_L_129 hK hT (pq_P2 hP) (pq_D2 hD) hS hA rfl rfl rfl rfl rfl hl.1 (Nat.le_of_ble_eq_true rfl) dL_roomInWindow_4 (by decide) (by decide) ⟨by decide, by decide⟩ (fun E ce q9 H1 l1 h9 => by cases h9) (fun v9 H1 locs hv hk hP1 hS => ?_)
    obtain rfl : v9 = some (.int v) := (Sum.inr.inj hv).symm
    change W _ _ _ _ _ _ _ _ _ _ _ _ _ _ _ (F0 _ _ _ [.int v, .int 0, .ref ob])
    have hP9 : va_P g.1 pq_cl ([(ob, .inl (g.2 3, 1, .inr (.inl (f))))] ++ mainW g a T1) H1 := va_P.app (pq_kp (pq_P1 hP) (pq_Dx hD) hk) hP1
    have hD9 : va_D A ([(ob, .inl (g.2 3, 1, .inr (.inl (f))))] ++ mainW g a T1) := pq_adr hD (ad_app rfl (ad_X6 _ _))
    clear hk hP1 hP hD
    refine lv_i2l hx hb dL_roomInWindow_7 rfl ?_
    refine va_last hx hb hK.1 hP9 hD9 hS 0 3 rfl rfl pq_in01 dL_roomInWindow_8 (fun H2 locs hP2 _ hS => ?_)
    refine lv_goto (tgt := 18) hx hb dL_roomInWindow_9 (by decide) ?_
    refine lv_iconst (v := 0) hx hb dL_roomInWindow_18 (by decide) ?_
    exact hend _ ls _ _ _ _ _ dL_roomInWindow_19 (Option.some.inj hr) hP2 hS (by decide) (by decide)
set_option maxHeartbeats 4000000 in
set_option maxRecDepth 100000 in
theorem c_L_windowKeyAt (l : Launch) (g : pq_g) (a : Nat → Nat) (ob : Nat) (f : Nat → Int64) (T : MainS) (p1 : Int32) (p2 : Int32) (hst : l.stackTraces = false) (o : String ⊕ Int32) (T1 : MainS) (hf : f_X6_windowKeyAt T p1 p2 = some (o, T1)) (r : Int32) (hr : pq_cd ["java/lang/IndexOutOfBoundsException", "java/util/NoSuchElementException"] o = some r) : pq_H l yL_windowKeyAt cL_windowKeyAt 5 [(0, 10, 13, 118), (0, 10, 17, 21)] 9 3 g ([(ob, .inl (g.2 3, 1, .inr (.inl (f))))] ++ mainW g a T) [.ref (a 0), .int p1, .int p2, .ref ob] r ([(ob, .inl (g.2 3, 1, .inr (.inl (pq_nf f (fun v => v.toInt64) o))))] ++ mainW g a T1) := by
  refine pq_H.of (by decide) rfl (Nat.le_of_ble_eq_true rfl) rfl ?_
  intro p e s m below meth c ls Q A S htab hP hK hD hS hA hT hL hl hend
  obtain ⟨hx, hb, hml, hown, hts⟩ := id S
  refine lv_aload_n hx hb dL_windowKeyAt_0 rfl (lv_at hl 3 rfl) ?_
  refine lv_iconst (v := 0) hx hb dL_windowKeyAt_1 (by decide) ?_
  refine lv_aload_n hx hb dL_windowKeyAt_2 rfl (lv_at hl 0 rfl) ?_
  refine lv_iload_n hx hb dL_windowKeyAt_3 rfl (lv_at hl 1 rfl) ?_
  refine lv_iload_n hx hb dL_windowKeyAt_4 rfl (lv_at hl 2 rfl) ?_
  rcases o with E0 | v
  · refine pq_cXV S (c_X6_windowKeyAt l g a T p1 p2 hst (.inl E0) T1 hf) vv_L_132 hK hT (pq_P2 hP) (pq_D2 hD) hS hA rfl rfl rfl rfl rfl hl.1 (Nat.le_of_ble_eq_true rfl) dL_windowKeyAt_5 (by decide) (by decide) ⟨by decide, by decide⟩ (fun E ce q9 H1 locs1 hE hk hP1 hS1 hce hcv hcl => ?_) (fun v H1 l1 h9 => by cases h9)
    obtain rfl : E0 = E := Sum.inl.inj hE
    have hP9 := va_P.app (pq_kp (pq_P1 hP) (pq_Dx hD) hk) hP1
    by_cases h1 : E0 = "java/lang/IndexOutOfBoundsException"
    · subst h1
      refine pq_catch (E := "java/lang/IndexOutOfBoundsException") S hT hL [] (0, 10, 13, 118) [(0, 10, 17, 21)] htab (by decide) (by intro z hz; cases hz) (by decide) (by decide) vc_L_118 hce hcv hcl ?_
      refine lv_astore (lv' := [(4, .ref q9), (0, .ref (a 0)), (1, .int p1), (2, .int p2), (3, .ref ob)]) hx hb dL_windowKeyAt_13 hl (by decide) rfl (fun ls hl => ?_)
      refine lv_iconst (v := 1) hx hb dL_windowKeyAt_15 (by decide) ?_
      exact hend _ ls _ _ _ _ _ dL_windowKeyAt_16 (Option.some.inj hr) hP9 hS1 (by decide) (by decide)
    by_cases h2 : E0 = "java/util/NoSuchElementException"
    · subst h2
      refine pq_catch (E := "java/util/NoSuchElementException") S hT hL [((0, 10, 13, 118), "java/lang/IndexOutOfBoundsException")] (0, 10, 17, 21) [] htab (by decide) (by intro z hz; simp only [List.mem_cons, List.not_mem_nil, or_false] at hz; rcases hz with rfl; exact ⟨by decide, vc_L_118, by decide, by decide⟩) (by decide) (by decide) vc_L_21 hce hcv hcl ?_
      refine lv_astore (lv' := [(4, .ref q9), (0, .ref (a 0)), (1, .int p1), (2, .int p2), (3, .ref ob)]) hx hb dL_windowKeyAt_17 hl (by decide) rfl (fun ls hl => ?_)
      refine lv_iconst (v := 2) hx hb dL_windowKeyAt_19 (by decide) ?_
      exact hend _ ls _ _ _ _ _ dL_windowKeyAt_20 (Option.some.inj hr) hP9 hS1 (by decide) (by decide)
    exact absurd hr (by simp [pq_cd, pq_cdF, h1, h2])
  · refine pq_cXV S (c_X6_windowKeyAt l g a T p1 p2 hst (.inr v) T1 hf) vv_L_132 hK hT (pq_P2 hP) (pq_D2 hD) hS hA rfl rfl rfl rfl rfl hl.1 (Nat.le_of_ble_eq_true rfl) dL_windowKeyAt_5 (by decide) (by decide) ⟨by decide, by decide⟩ (fun E ce q9 H1 l1 h9 => by cases h9) (fun v9 H1 locs hv hk hP1 hS => ?_)
    obtain rfl : v9 = some (.int v) := (Sum.inr.inj hv).symm
    change W _ _ _ _ _ _ _ _ _ _ _ _ _ _ _ (F0 _ _ _ [.int v, .int 0, .ref ob])
    have hP9 : va_P g.1 pq_cl ([(ob, .inl (g.2 3, 1, .inr (.inl (f))))] ++ mainW g a T1) H1 := va_P.app (pq_kp (pq_P1 hP) (pq_Dx hD) hk) hP1
    have hD9 : va_D A ([(ob, .inl (g.2 3, 1, .inr (.inl (f))))] ++ mainW g a T1) := pq_adr hD (ad_app rfl (ad_X6 _ _))
    clear hk hP1 hP hD
    refine lv_i2l hx hb dL_windowKeyAt_8 rfl ?_
    refine va_last hx hb hK.1 hP9 hD9 hS 0 3 rfl rfl pq_in01 dL_windowKeyAt_9 (fun H2 locs hP2 _ hS => ?_)
    refine lv_goto (tgt := 21) hx hb dL_windowKeyAt_10 (by decide) ?_
    refine lv_iconst (v := 0) hx hb dL_windowKeyAt_21 (by decide) ?_
    exact hend _ ls _ _ _ _ _ dL_windowKeyAt_22 (Option.some.inj hr) hP2 hS (by decide) (by decide)
set_option maxHeartbeats 4000000 in
set_option maxRecDepth 100000 in
theorem c_L_canInsert (l : Launch) (g : pq_g) (a : Nat → Nat) (ob : Nat) (f : Nat → Int64) (T : MainS) (p1 : Int32) (p2 : Int32) (hst : l.stackTraces = false) (o : String ⊕ Int32) (T1 : MainS) (hf : f_X6_canInsert T p1 p2 = some (o, T1)) (r : Int32) (hr : pq_cd ["java/lang/IllegalArgumentException"] o = some r) : pq_H l yL_canInsert cL_canInsert 5 [(0, 17, 20, 13)] 8 2 g ([(ob, .inl (g.2 3, 1, .inr (.inl (f))))] ++ mainW g a T) [.ref (a 0), .int p1, .int p2, .ref ob] r ([(ob, .inl (g.2 3, 1, .inr (.inl (pq_nf f (fun v => if v = 0 then 0 else 1) o))))] ++ mainW g a T1) := by
  refine pq_H.of (by decide) rfl (Nat.le_of_ble_eq_true rfl) rfl ?_
  intro p e s m below meth c ls Q A S htab hP hK hD hS hA hT hL hl hend
  obtain ⟨hx, hb, hml, hown, hts⟩ := id S
  refine lv_aload_n hx hb dL_canInsert_0 rfl (lv_at hl 3 rfl) ?_
  refine lv_iconst (v := 0) hx hb dL_canInsert_1 (by decide) ?_
  refine lv_aload_n hx hb dL_canInsert_2 rfl (lv_at hl 0 rfl) ?_
  refine lv_iload_n hx hb dL_canInsert_3 rfl (lv_at hl 1 rfl) ?_
  refine lv_iload_n hx hb dL_canInsert_4 rfl (lv_at hl 2 rfl) ?_
  rcases o with E0 | v
  · refine pq_cXV S (c_X6_canInsert l g a T p1 p2 hst (.inl E0) T1 hf) vv_L_135 hK hT (pq_P2 hP) (pq_D2 hD) hS hA rfl rfl rfl rfl rfl hl.1 (Nat.le_of_ble_eq_true rfl) dL_canInsert_5 (by decide) (by decide) ⟨by decide, by decide⟩ (fun E ce q9 H1 locs1 hE hk hP1 hS1 hce hcv hcl => ?_) (fun v H1 l1 h9 => by cases h9)
    obtain rfl : E0 = E := Sum.inl.inj hE
    have hP9 := va_P.app (pq_kp (pq_P1 hP) (pq_Dx hD) hk) hP1
    by_cases h1 : E0 = "java/lang/IllegalArgumentException"
    · subst h1
      refine pq_catch (E := "java/lang/IllegalArgumentException") S hT hL [] (0, 17, 20, 13) [] htab (by decide) (by intro z hz; cases hz) (by decide) (by decide) vc_L_13 hce hcv hcl ?_
      refine lv_astore (lv' := [(4, .ref q9), (0, .ref (a 0)), (1, .int p1), (2, .int p2), (3, .ref ob)]) hx hb dL_canInsert_20 hl (by decide) rfl (fun ls hl => ?_)
      refine lv_iconst (v := 1) hx hb dL_canInsert_22 (by decide) ?_
      exact hend _ ls _ _ _ _ _ dL_canInsert_23 (Option.some.inj hr) hP9 hS1 (by decide) (by decide)
    exact absurd hr (by simp [pq_cd, pq_cdF, h1])
  · refine pq_cXV S (c_X6_canInsert l g a T p1 p2 hst (.inr v) T1 hf) vv_L_135 hK hT (pq_P2 hP) (pq_D2 hD) hS hA rfl rfl rfl rfl rfl hl.1 (Nat.le_of_ble_eq_true rfl) dL_canInsert_5 (by decide) (by decide) ⟨by decide, by decide⟩ (fun E ce q9 H1 l1 h9 => by cases h9) (fun v9 H1 locs hv hk hP1 hS => ?_)
    obtain rfl : v9 = some (.int v) := (Sum.inr.inj hv).symm
    change W _ _ _ _ _ _ _ _ _ _ _ _ _ _ _ (F0 _ _ _ [.int v, .int 0, .ref ob])
    have hP9 : va_P g.1 pq_cl ([(ob, .inl (g.2 3, 1, .inr (.inl (f))))] ++ mainW g a T1) H1 := va_P.app (pq_kp (pq_P1 hP) (pq_Dx hD) hk) hP1
    have hD9 : va_D A ([(ob, .inl (g.2 3, 1, .inr (.inl (f))))] ++ mainW g a T1) := pq_adr hD (ad_app rfl (ad_X6 _ _))
    clear hk hP1 hP hD
    refine lv_if_eq (tgt := 15) hx hb dL_canInsert_8 (by decide) (fun h1 => ?_) (fun h1 => ?_)
    · refine lv_lconst (v := 0) hx hb dL_canInsert_15 (by decide) ?_
      replace hP9 := hP9
      refine va_last hx hb hK.1 hP9 hD9 hS 0 3 rfl rfl pq_in01 dL_canInsert_16 (fun H2 locs hP2 _ hS => ?_)
      refine lv_goto (tgt := 24) hx hb dL_canInsert_17 (by decide) ?_
      refine lv_iconst (v := 0) hx hb dL_canInsert_24 (by decide) ?_
      exact hend _ ls _ _ _ _ _ dL_canInsert_25 (Option.some.inj hr) (by subst h1; exact hP2) hS (by decide) (by decide)
    · refine lv_lconst (v := 1) hx hb dL_canInsert_11 (by decide) ?_
      refine lv_goto (tgt := 16) hx hb dL_canInsert_12 (by decide) ?_
      refine va_last hx hb hK.1 hP9 hD9 hS 0 3 rfl rfl pq_in01 dL_canInsert_16 (fun H2 locs hP2 _ hS => ?_)
      refine lv_goto (tgt := 24) hx hb dL_canInsert_17 (by decide) ?_
      refine lv_iconst (v := 0) hx hb dL_canInsert_24 (by decide) ?_
      exact hend _ ls _ _ _ _ _ dL_canInsert_25 (Option.some.inj hr) (by have e9 : (if v = 0 then (0 : Int64) else 1) = 1 := if_neg h1; show va_P g.1 pq_cl ([(ob, .inl (g.2 3, 1, .inr (.inl (fun j => if j = 0 then (if v = 0 then (0 : Int64) else 1) else f j))))] ++ mainW g a T1) _; rw [e9]; exact hP2) hS (by decide) (by decide)
set_option maxHeartbeats 4000000 in
set_option maxRecDepth 100000 in
theorem c_L_meanDepth (l : Launch) (g : pq_g) (a : Nat → Nat) (ob : Nat) (f : Nat → UInt64) (T : MainS) (hst : l.stackTraces = false) (o : String ⊕ UInt64) (T1 : MainS) (hf : f_X6_meanDepth T = some (o, T1)) (r : Int32) (hr : pq_cd ["java/lang/ArithmeticException"] o = some r) : pq_H l yL_meanDepth cL_meanDepth 3 [(0, 7, 10, 143)] 7 1 g ([(ob, .inl (g.2 4, 1, .inr (.inr (.inr (.inl (f))))))] ++ mainW g a T) [.ref (a 0), .ref ob] r ([(ob, .inl (g.2 4, 1, .inr (.inr (.inr (.inl (pq_nf f (fun v => v) o))))))] ++ mainW g a T1) := by
  refine pq_H.of (by decide) rfl (Nat.le_of_ble_eq_true rfl) rfl ?_
  intro p e s m below meth c ls Q A S htab hP hK hD hS hA hT hL hl hend
  obtain ⟨hx, hb, hml, hown, hts⟩ := id S
  refine lv_aload_n hx hb dL_meanDepth_0 rfl (lv_at hl 1 rfl) ?_
  refine lv_iconst (v := 0) hx hb dL_meanDepth_1 (by decide) ?_
  refine lv_aload_n hx hb dL_meanDepth_2 rfl (lv_at hl 0 rfl) ?_
  rcases o with E0 | v
  · refine pq_cXV S (c_X6_meanDepth l g a T hst (.inl E0) T1 hf) vv_L_139 hK hT (pq_P2 hP) (pq_D2 hD) hS hA rfl rfl rfl rfl rfl hl.1 (Nat.le_of_ble_eq_true rfl) dL_meanDepth_3 (by decide) (by decide) ⟨by decide, by decide⟩ (fun E ce q9 H1 locs1 hE hk hP1 hS1 hce hcv hcl => ?_) (fun v H1 l1 h9 => by cases h9)
    obtain rfl : E0 = E := Sum.inl.inj hE
    have hP9 := va_P.app (pq_kp (pq_P1 hP) (pq_Dx hD) hk) hP1
    by_cases h1 : E0 = "java/lang/ArithmeticException"
    · subst h1
      refine pq_catch (E := "java/lang/ArithmeticException") S hT hL [] (0, 7, 10, 143) [] htab (by decide) (by intro z hz; cases hz) (by decide) (by decide) vc_L_143 hce hcv hcl ?_
      refine lv_astore_n (lv' := [(2, .ref q9), (0, .ref (a 0)), (1, .ref ob)]) hx hb dL_meanDepth_10 rfl hl (by decide) rfl (fun ls hl => ?_)
      refine lv_iconst (v := 1) hx hb dL_meanDepth_11 (by decide) ?_
      exact hend _ ls _ _ _ _ _ dL_meanDepth_12 (Option.some.inj hr) hP9 hS1 (by decide) (by decide)
    exact absurd hr (by simp [pq_cd, pq_cdF, h1])
  · refine pq_cXV S (c_X6_meanDepth l g a T hst (.inr v) T1 hf) vv_L_139 hK hT (pq_P2 hP) (pq_D2 hD) hS hA rfl rfl rfl rfl rfl hl.1 (Nat.le_of_ble_eq_true rfl) dL_meanDepth_3 (by decide) (by decide) ⟨by decide, by decide⟩ (fun E ce q9 H1 l1 h9 => by cases h9) (fun v9 H1 locs hv hk hP1 hS => ?_)
    obtain rfl : v9 = some (.double v) := (Sum.inr.inj hv).symm
    change W _ _ _ _ _ _ _ _ _ _ _ _ _ _ _ (F0 _ _ _ [.double v, .int 0, .ref ob])
    have hP9 : va_P g.1 pq_cl ([(ob, .inl (g.2 4, 1, .inr (.inr (.inr (.inl (f))))))] ++ mainW g a T1) H1 := va_P.app (pq_kp (pq_P1 hP) (pq_Dx hD) hk) hP1
    have hD9 : va_D A ([(ob, .inl (g.2 4, 1, .inr (.inr (.inr (.inl (f))))))] ++ mainW g a T1) := pq_adr hD (ad_app rfl (ad_X6 _ _))
    clear hk hP1 hP hD
    refine va_dast hx hb hK.1 hP9 hD9 hS 0 4 rfl rfl pq_in01 dL_meanDepth_6 (fun H2 locs hP2 _ hS => ?_)
    refine lv_goto (tgt := 13) hx hb dL_meanDepth_7 (by decide) ?_
    refine lv_iconst (v := 0) hx hb dL_meanDepth_13 (by decide) ?_
    exact hend _ ls _ _ _ _ _ dL_meanDepth_14 (Option.some.inj hr) hP2 hS (by decide) (by decide)
set_option maxHeartbeats 4000000 in
set_option maxRecDepth 100000 in
theorem c_L_leafShare (l : Launch) (g : pq_g) (a : Nat → Nat) (ob : Nat) (f : Nat → UInt64) (T : MainS) (hst : l.stackTraces = false) (o : String ⊕ UInt32) (T1 : MainS) (hf : f_X6_leafShare T = some (o, T1)) (r : Int32) (hr : pq_cd ["java/lang/ArithmeticException"] o = some r) (hnan : ∀ v, o = .inr v → vf_n64 (FP.f2d v)) : pq_H l yL_leafShare cL_leafShare 3 [(0, 8, 11, 143)] 7 1 g ([(ob, .inl (g.2 4, 1, .inr (.inr (.inr (.inl (f))))))] ++ mainW g a T) [.ref (a 0), .ref ob] r ([(ob, .inl (g.2 4, 1, .inr (.inr (.inr (.inl (pq_nf f (fun v => FP.f2d v) o))))))] ++ mainW g a T1) := by
  refine pq_H.of (by decide) rfl (Nat.le_of_ble_eq_true rfl) rfl ?_
  intro p e s m below meth c ls Q A S htab hP hK hD hS hA hT hL hl hend
  obtain ⟨hx, hb, hml, hown, hts⟩ := id S
  refine lv_aload_n hx hb dL_leafShare_0 rfl (lv_at hl 1 rfl) ?_
  refine lv_iconst (v := 0) hx hb dL_leafShare_1 (by decide) ?_
  refine lv_aload_n hx hb dL_leafShare_2 rfl (lv_at hl 0 rfl) ?_
  rcases o with E0 | v
  · refine pq_cXV S (c_X6_leafShare l g a T hst (.inl E0) T1 hf) vv_L_145 hK hT (pq_P2 hP) (pq_D2 hD) hS hA rfl rfl rfl rfl rfl hl.1 (Nat.le_of_ble_eq_true rfl) dL_leafShare_3 (by decide) (by decide) ⟨by decide, by decide⟩ (fun E ce q9 H1 locs1 hE hk hP1 hS1 hce hcv hcl => ?_) (fun v H1 l1 h9 => by cases h9)
    obtain rfl : E0 = E := Sum.inl.inj hE
    have hP9 := va_P.app (pq_kp (pq_P1 hP) (pq_Dx hD) hk) hP1
    by_cases h1 : E0 = "java/lang/ArithmeticException"
    · subst h1
      refine pq_catch (E := "java/lang/ArithmeticException") S hT hL [] (0, 8, 11, 143) [] htab (by decide) (by intro z hz; cases hz) (by decide) (by decide) vc_L_143 hce hcv hcl ?_
      refine lv_astore_n (lv' := [(2, .ref q9), (0, .ref (a 0)), (1, .ref ob)]) hx hb dL_leafShare_11 rfl hl (by decide) rfl (fun ls hl => ?_)
      refine lv_iconst (v := 1) hx hb dL_leafShare_12 (by decide) ?_
      exact hend _ ls _ _ _ _ _ dL_leafShare_13 (Option.some.inj hr) hP9 hS1 (by decide) (by decide)
    exact absurd hr (by simp [pq_cd, pq_cdF, h1])
  · refine pq_cXV S (c_X6_leafShare l g a T hst (.inr v) T1 hf) vv_L_145 hK hT (pq_P2 hP) (pq_D2 hD) hS hA rfl rfl rfl rfl rfl hl.1 (Nat.le_of_ble_eq_true rfl) dL_leafShare_3 (by decide) (by decide) ⟨by decide, by decide⟩ (fun E ce q9 H1 l1 h9 => by cases h9) (fun v9 H1 locs hv hk hP1 hS => ?_)
    obtain rfl : v9 = some (.float v) := (Sum.inr.inj hv).symm
    change W _ _ _ _ _ _ _ _ _ _ _ _ _ _ _ (F0 _ _ _ [.float v, .int 0, .ref ob])
    have hP9 : va_P g.1 pq_cl ([(ob, .inl (g.2 4, 1, .inr (.inr (.inr (.inl (f))))))] ++ mainW g a T1) H1 := va_P.app (pq_kp (pq_P1 hP) (pq_Dx hD) hk) hP1
    have hD9 : va_D A ([(ob, .inl (g.2 4, 1, .inr (.inr (.inr (.inl (f))))))] ++ mainW g a T1) := pq_adr hD (ad_app rfl (ad_X6 _ _))
    clear hk hP1 hP hD
    refine lv_f2d hx hb dL_leafShare_6 (hnan v rfl) ?_
    refine va_dast hx hb hK.1 hP9 hD9 hS 0 4 rfl rfl pq_in01 dL_leafShare_7 (fun H2 locs hP2 _ hS => ?_)
    refine lv_goto (tgt := 14) hx hb dL_leafShare_8 (by decide) ?_
    refine lv_iconst (v := 0) hx hb dL_leafShare_14 (by decide) ?_
    exact hend _ ls _ _ _ _ _ dL_leafShare_15 (Option.some.inj hr) hP2 hS (by decide) (by decide)
set_option maxHeartbeats 4000000 in
set_option maxRecDepth 100000 in
theorem c_L_writeWindow (l : Launch) (g : pq_g) (a : Nat → Nat) (ob : Nat) (f : Nat → Int64) (T : MainS) (p1 : Int32) (hst : l.stackTraces = false) (o : String ⊕ Int32) (T1 : MainS) (hf : f_X6_writeWindow T p1 = some (o, T1)) (r : Int32) (hr : pq_cd ["java/lang/IndexOutOfBoundsException", "java/util/NoSuchElementException"] o = some r) : pq_H l yL_writeWindow cL_writeWindow 4 [(0, 9, 12, 118), (0, 9, 15, 21)] 9 2 g ([(ob, .inl (g.2 3, 1, .inr (.inl (f))))] ++ mainW g a T) [.ref (a 0), .int p1, .ref ob] r ([(ob, .inl (g.2 3, 1, .inr (.inl (pq_nf f (fun v => v.toInt64) o))))] ++ mainW g a T1) := by
  refine pq_H.of (by decide) rfl (Nat.le_of_ble_eq_true rfl) rfl ?_
  intro p e s m below meth c ls Q A S htab hP hK hD hS hA hT hL hl hend
  obtain ⟨hx, hb, hml, hown, hts⟩ := id S
  refine lv_aload_n hx hb dL_writeWindow_0 rfl (lv_at hl 2 rfl) ?_
  refine lv_iconst (v := 0) hx hb dL_writeWindow_1 (by decide) ?_
  refine lv_aload_n hx hb dL_writeWindow_2 rfl (lv_at hl 0 rfl) ?_
  refine lv_iload_n hx hb dL_writeWindow_3 rfl (lv_at hl 1 rfl) ?_
  rcases o with E0 | v
  · refine pq_cXV S (c_X6_writeWindow l g a T p1 hst (.inl E0) T1 hf) vv_L_149 hK hT (pq_P2 hP) (pq_D2 hD) hS hA rfl rfl rfl rfl rfl hl.1 (Nat.le_of_ble_eq_true rfl) dL_writeWindow_4 (by decide) (by decide) ⟨by decide, by decide⟩ (fun E ce q9 H1 locs1 hE hk hP1 hS1 hce hcv hcl => ?_) (fun v H1 l1 h9 => by cases h9)
    obtain rfl : E0 = E := Sum.inl.inj hE
    have hP9 := va_P.app (pq_kp (pq_P1 hP) (pq_Dx hD) hk) hP1
    by_cases h1 : E0 = "java/lang/IndexOutOfBoundsException"
    · subst h1
      refine pq_catch (E := "java/lang/IndexOutOfBoundsException") S hT hL [] (0, 9, 12, 118) [(0, 9, 15, 21)] htab (by decide) (by intro z hz; cases hz) (by decide) (by decide) vc_L_118 hce hcv hcl ?_
      refine lv_astore_n (lv' := [(3, .ref q9), (0, .ref (a 0)), (1, .int p1), (2, .ref ob)]) hx hb dL_writeWindow_12 rfl hl (by decide) rfl (fun ls hl => ?_)
      refine lv_iconst (v := 1) hx hb dL_writeWindow_13 (by decide) ?_
      exact hend _ ls _ _ _ _ _ dL_writeWindow_14 (Option.some.inj hr) hP9 hS1 (by decide) (by decide)
    by_cases h2 : E0 = "java/util/NoSuchElementException"
    · subst h2
      refine pq_catch (E := "java/util/NoSuchElementException") S hT hL [((0, 9, 12, 118), "java/lang/IndexOutOfBoundsException")] (0, 9, 15, 21) [] htab (by decide) (by intro z hz; simp only [List.mem_cons, List.not_mem_nil, or_false] at hz; rcases hz with rfl; exact ⟨by decide, vc_L_118, by decide, by decide⟩) (by decide) (by decide) vc_L_21 hce hcv hcl ?_
      refine lv_astore_n (lv' := [(3, .ref q9), (0, .ref (a 0)), (1, .int p1), (2, .ref ob)]) hx hb dL_writeWindow_15 rfl hl (by decide) rfl (fun ls hl => ?_)
      refine lv_iconst (v := 2) hx hb dL_writeWindow_16 (by decide) ?_
      exact hend _ ls _ _ _ _ _ dL_writeWindow_17 (Option.some.inj hr) hP9 hS1 (by decide) (by decide)
    exact absurd hr (by simp [pq_cd, pq_cdF, h1, h2])
  · refine pq_cXV S (c_X6_writeWindow l g a T p1 hst (.inr v) T1 hf) vv_L_149 hK hT (pq_P2 hP) (pq_D2 hD) hS hA rfl rfl rfl rfl rfl hl.1 (Nat.le_of_ble_eq_true rfl) dL_writeWindow_4 (by decide) (by decide) ⟨by decide, by decide⟩ (fun E ce q9 H1 l1 h9 => by cases h9) (fun v9 H1 locs hv hk hP1 hS => ?_)
    obtain rfl : v9 = some (.int v) := (Sum.inr.inj hv).symm
    change W _ _ _ _ _ _ _ _ _ _ _ _ _ _ _ (F0 _ _ _ [.int v, .int 0, .ref ob])
    have hP9 : va_P g.1 pq_cl ([(ob, .inl (g.2 3, 1, .inr (.inl (f))))] ++ mainW g a T1) H1 := va_P.app (pq_kp (pq_P1 hP) (pq_Dx hD) hk) hP1
    have hD9 : va_D A ([(ob, .inl (g.2 3, 1, .inr (.inl (f))))] ++ mainW g a T1) := pq_adr hD (ad_app rfl (ad_X6 _ _))
    clear hk hP1 hP hD
    refine lv_i2l hx hb dL_writeWindow_7 rfl ?_
    refine va_last hx hb hK.1 hP9 hD9 hS 0 3 rfl rfl pq_in01 dL_writeWindow_8 (fun H2 locs hP2 _ hS => ?_)
    refine lv_goto (tgt := 18) hx hb dL_writeWindow_9 (by decide) ?_
    refine lv_iconst (v := 0) hx hb dL_writeWindow_18 (by decide) ?_
    exact hend _ ls _ _ _ _ _ dL_writeWindow_19 (Option.some.inj hr) hP2 hS (by decide) (by decide)
set_option maxHeartbeats 4000000 in
set_option maxRecDepth 100000 in
theorem c_L_outputAt (l : Launch) (g : pq_g) (a : Nat → Nat) (ob : Nat) (f : Nat → Int64) (T : MainS) (p1 : Int32) (hst : l.stackTraces = false) (o : String ⊕ Int32) (T1 : MainS) (hf : f_X6_outputAt T p1 = some (o, T1)) (r : Int32) (hr : pq_cd ["java/lang/IndexOutOfBoundsException"] o = some r) : pq_H l yL_outputAt cL_outputAt 4 [(0, 9, 12, 118)] 7 1 g ([(ob, .inl (g.2 3, 1, .inr (.inl (f))))] ++ mainW g a T) [.ref (a 0), .int p1, .ref ob] r ([(ob, .inl (g.2 3, 1, .inr (.inl (pq_nf f (fun v => v.toInt64) o))))] ++ mainW g a T1) := by
  refine pq_H.of (by decide) rfl (Nat.le_of_ble_eq_true rfl) rfl ?_
  intro p e s m below meth c ls Q A S htab hP hK hD hS hA hT hL hl hend
  obtain ⟨hx, hb, hml, hown, hts⟩ := id S
  refine lv_aload_n hx hb dL_outputAt_0 rfl (lv_at hl 2 rfl) ?_
  refine lv_iconst (v := 0) hx hb dL_outputAt_1 (by decide) ?_
  refine lv_aload_n hx hb dL_outputAt_2 rfl (lv_at hl 0 rfl) ?_
  refine lv_iload_n hx hb dL_outputAt_3 rfl (lv_at hl 1 rfl) ?_
  rcases o with E0 | v
  · refine pq_cXV S (c_X6_outputAt l g a T p1 hst (.inl E0) T1 hf) vv_L_152 hK hT (pq_P2 hP) (pq_D2 hD) hS hA rfl rfl rfl rfl rfl hl.1 (Nat.le_of_ble_eq_true rfl) dL_outputAt_4 (by decide) (by decide) ⟨by decide, by decide⟩ (fun E ce q9 H1 locs1 hE hk hP1 hS1 hce hcv hcl => ?_) (fun v H1 l1 h9 => by cases h9)
    obtain rfl : E0 = E := Sum.inl.inj hE
    have hP9 := va_P.app (pq_kp (pq_P1 hP) (pq_Dx hD) hk) hP1
    by_cases h1 : E0 = "java/lang/IndexOutOfBoundsException"
    · subst h1
      refine pq_catch (E := "java/lang/IndexOutOfBoundsException") S hT hL [] (0, 9, 12, 118) [] htab (by decide) (by intro z hz; cases hz) (by decide) (by decide) vc_L_118 hce hcv hcl ?_
      refine lv_astore_n (lv' := [(3, .ref q9), (0, .ref (a 0)), (1, .int p1), (2, .ref ob)]) hx hb dL_outputAt_12 rfl hl (by decide) rfl (fun ls hl => ?_)
      refine lv_iconst (v := 1) hx hb dL_outputAt_13 (by decide) ?_
      exact hend _ ls _ _ _ _ _ dL_outputAt_14 (Option.some.inj hr) hP9 hS1 (by decide) (by decide)
    exact absurd hr (by simp [pq_cd, pq_cdF, h1])
  · refine pq_cXV S (c_X6_outputAt l g a T p1 hst (.inr v) T1 hf) vv_L_152 hK hT (pq_P2 hP) (pq_D2 hD) hS hA rfl rfl rfl rfl rfl hl.1 (Nat.le_of_ble_eq_true rfl) dL_outputAt_4 (by decide) (by decide) ⟨by decide, by decide⟩ (fun E ce q9 H1 l1 h9 => by cases h9) (fun v9 H1 locs hv hk hP1 hS => ?_)
    obtain rfl : v9 = some (.int v) := (Sum.inr.inj hv).symm
    change W _ _ _ _ _ _ _ _ _ _ _ _ _ _ _ (F0 _ _ _ [.int v, .int 0, .ref ob])
    have hP9 : va_P g.1 pq_cl ([(ob, .inl (g.2 3, 1, .inr (.inl (f))))] ++ mainW g a T1) H1 := va_P.app (pq_kp (pq_P1 hP) (pq_Dx hD) hk) hP1
    have hD9 : va_D A ([(ob, .inl (g.2 3, 1, .inr (.inl (f))))] ++ mainW g a T1) := pq_adr hD (ad_app rfl (ad_X6 _ _))
    clear hk hP1 hP hD
    refine lv_i2l hx hb dL_outputAt_7 rfl ?_
    refine va_last hx hb hK.1 hP9 hD9 hS 0 3 rfl rfl pq_in01 dL_outputAt_8 (fun H2 locs hP2 _ hS => ?_)
    refine lv_goto (tgt := 15) hx hb dL_outputAt_9 (by decide) ?_
    refine lv_iconst (v := 0) hx hb dL_outputAt_15 (by decide) ?_
    exact hend _ ls _ _ _ _ _ dL_outputAt_16 (Option.some.inj hr) hP2 hS (by decide) (by decide)
set_option maxHeartbeats 4000000 in
set_option maxRecDepth 100000 in
theorem c_L_appendInput (l : Launch) (g : pq_g) (a : Nat → Nat) (ob : Nat) (f : Nat → Int64) (T : MainS) (p1 : Int32) (hst : l.stackTraces = false) (o : String ⊕ Int32) (T1 : MainS) (hf : f_X6_appendInput T p1 = some (o, T1)) (r : Int32) (hr : pq_cd ["java/lang/IllegalArgumentException", "java/lang/IllegalStateException"] o = some r) : pq_H l yL_appendInput cL_appendInput 4 [(0, 9, 12, 13), (0, 9, 15, 160)] 7 2 g ([(ob, .inl (g.2 3, 1, .inr (.inl (f))))] ++ mainW g a T) [.ref (a 0), .int p1, .ref ob] r ([(ob, .inl (g.2 3, 1, .inr (.inl (pq_nf f (fun v => v.toInt64) o))))] ++ mainW g a T1) := by
  refine pq_H.of (by decide) rfl (Nat.le_of_ble_eq_true rfl) rfl ?_
  intro p e s m below meth c ls Q A S htab hP hK hD hS hA hT hL hl hend
  obtain ⟨hx, hb, hml, hown, hts⟩ := id S
  refine lv_aload_n hx hb dL_appendInput_0 rfl (lv_at hl 2 rfl) ?_
  refine lv_iconst (v := 0) hx hb dL_appendInput_1 (by decide) ?_
  refine lv_aload_n hx hb dL_appendInput_2 rfl (lv_at hl 0 rfl) ?_
  refine lv_iload_n hx hb dL_appendInput_3 rfl (lv_at hl 1 rfl) ?_
  rcases o with E0 | v
  · refine pq_cXV S (c_X6_appendInput l g a T p1 hst (.inl E0) T1 hf) vv_L_156 hK hT (pq_P2 hP) (pq_D2 hD) hS hA rfl rfl rfl rfl rfl hl.1 (Nat.le_of_ble_eq_true rfl) dL_appendInput_4 (by decide) (by decide) ⟨by decide, by decide⟩ (fun E ce q9 H1 locs1 hE hk hP1 hS1 hce hcv hcl => ?_) (fun v H1 l1 h9 => by cases h9)
    obtain rfl : E0 = E := Sum.inl.inj hE
    have hP9 := va_P.app (pq_kp (pq_P1 hP) (pq_Dx hD) hk) hP1
    by_cases h1 : E0 = "java/lang/IllegalArgumentException"
    · subst h1
      refine pq_catch (E := "java/lang/IllegalArgumentException") S hT hL [] (0, 9, 12, 13) [(0, 9, 15, 160)] htab (by decide) (by intro z hz; cases hz) (by decide) (by decide) vc_L_13 hce hcv hcl ?_
      refine lv_astore_n (lv' := [(3, .ref q9), (0, .ref (a 0)), (1, .int p1), (2, .ref ob)]) hx hb dL_appendInput_12 rfl hl (by decide) rfl (fun ls hl => ?_)
      refine lv_iconst (v := 1) hx hb dL_appendInput_13 (by decide) ?_
      exact hend _ ls _ _ _ _ _ dL_appendInput_14 (Option.some.inj hr) hP9 hS1 (by decide) (by decide)
    by_cases h2 : E0 = "java/lang/IllegalStateException"
    · subst h2
      refine pq_catch (E := "java/lang/IllegalStateException") S hT hL [((0, 9, 12, 13), "java/lang/IllegalArgumentException")] (0, 9, 15, 160) [] htab (by decide) (by intro z hz; simp only [List.mem_cons, List.not_mem_nil, or_false] at hz; rcases hz with rfl; exact ⟨by decide, vc_L_13, by decide, by decide⟩) (by decide) (by decide) vc_L_160 hce hcv hcl ?_
      refine lv_astore_n (lv' := [(3, .ref q9), (0, .ref (a 0)), (1, .int p1), (2, .ref ob)]) hx hb dL_appendInput_15 rfl hl (by decide) rfl (fun ls hl => ?_)
      refine lv_iconst (v := 2) hx hb dL_appendInput_16 (by decide) ?_
      exact hend _ ls _ _ _ _ _ dL_appendInput_17 (Option.some.inj hr) hP9 hS1 (by decide) (by decide)
    exact absurd hr (by simp [pq_cd, pq_cdF, h1, h2])
  · refine pq_cXV S (c_X6_appendInput l g a T p1 hst (.inr v) T1 hf) vv_L_156 hK hT (pq_P2 hP) (pq_D2 hD) hS hA rfl rfl rfl rfl rfl hl.1 (Nat.le_of_ble_eq_true rfl) dL_appendInput_4 (by decide) (by decide) ⟨by decide, by decide⟩ (fun E ce q9 H1 l1 h9 => by cases h9) (fun v9 H1 locs hv hk hP1 hS => ?_)
    obtain rfl : v9 = some (.int v) := (Sum.inr.inj hv).symm
    change W _ _ _ _ _ _ _ _ _ _ _ _ _ _ _ (F0 _ _ _ [.int v, .int 0, .ref ob])
    have hP9 : va_P g.1 pq_cl ([(ob, .inl (g.2 3, 1, .inr (.inl (f))))] ++ mainW g a T1) H1 := va_P.app (pq_kp (pq_P1 hP) (pq_Dx hD) hk) hP1
    have hD9 : va_D A ([(ob, .inl (g.2 3, 1, .inr (.inl (f))))] ++ mainW g a T1) := pq_adr hD (ad_app rfl (ad_X6 _ _))
    clear hk hP1 hP hD
    refine lv_i2l hx hb dL_appendInput_7 rfl ?_
    refine va_last hx hb hK.1 hP9 hD9 hS 0 3 rfl rfl pq_in01 dL_appendInput_8 (fun H2 locs hP2 _ hS => ?_)
    refine lv_goto (tgt := 18) hx hb dL_appendInput_9 (by decide) ?_
    refine lv_iconst (v := 0) hx hb dL_appendInput_18 (by decide) ?_
    exact hend _ ls _ _ _ _ _ dL_appendInput_19 (Option.some.inj hr) hP2 hS (by decide) (by decide)
set_option maxHeartbeats 4000000 in
set_option maxRecDepth 100000 in
theorem c_L_execute (l : Launch) (g : pq_g) (a : Nat → Nat) (ob : Nat) (f : Nat → Int64) (T : MainS) (hst : l.stackTraces = false) (o : String ⊕ Int32) (T1 : MainS) (hf : f_X6_execute T = some (o, T1)) (r : Int32) (hr : pq_cd ["java/lang/IllegalArgumentException", "java/lang/IllegalStateException", "java/lang/UnsupportedOperationException"] o = some r) : pq_H l yL_execute cL_execute 3 [(0, 8, 11, 13), (0, 8, 14, 160), (0, 8, 17, 15)] 9 3 g ([(ob, .inl (g.2 3, 1, .inr (.inl (f))))] ++ mainW g a T) [.ref (a 0), .ref ob] r ([(ob, .inl (g.2 3, 1, .inr (.inl (pq_nf f (fun v => v.toInt64) o))))] ++ mainW g a T1) := by
  refine pq_H.of (by decide) rfl (Nat.le_of_ble_eq_true rfl) rfl ?_
  intro p e s m below meth c ls Q A S htab hP hK hD hS hA hT hL hl hend
  obtain ⟨hx, hb, hml, hown, hts⟩ := id S
  refine lv_aload_n hx hb dL_execute_0 rfl (lv_at hl 1 rfl) ?_
  refine lv_iconst (v := 0) hx hb dL_execute_1 (by decide) ?_
  refine lv_aload_n hx hb dL_execute_2 rfl (lv_at hl 0 rfl) ?_
  rcases o with E0 | v
  · refine pq_cXV S (c_X6_execute l g a T hst (.inl E0) T1 hf) vv_L_162 hK hT (pq_P2 hP) (pq_D2 hD) hS hA rfl rfl rfl rfl rfl hl.1 (Nat.le_of_ble_eq_true rfl) dL_execute_3 (by decide) (by decide) ⟨by decide, by decide⟩ (fun E ce q9 H1 locs1 hE hk hP1 hS1 hce hcv hcl => ?_) (fun v H1 l1 h9 => by cases h9)
    obtain rfl : E0 = E := Sum.inl.inj hE
    have hP9 := va_P.app (pq_kp (pq_P1 hP) (pq_Dx hD) hk) hP1
    by_cases h1 : E0 = "java/lang/IllegalArgumentException"
    · subst h1
      refine pq_catch (E := "java/lang/IllegalArgumentException") S hT hL [] (0, 8, 11, 13) [(0, 8, 14, 160), (0, 8, 17, 15)] htab (by decide) (by intro z hz; cases hz) (by decide) (by decide) vc_L_13 hce hcv hcl ?_
      refine lv_astore_n (lv' := [(2, .ref q9), (0, .ref (a 0)), (1, .ref ob)]) hx hb dL_execute_11 rfl hl (by decide) rfl (fun ls hl => ?_)
      refine lv_iconst (v := 1) hx hb dL_execute_12 (by decide) ?_
      exact hend _ ls _ _ _ _ _ dL_execute_13 (Option.some.inj hr) hP9 hS1 (by decide) (by decide)
    by_cases h2 : E0 = "java/lang/IllegalStateException"
    · subst h2
      refine pq_catch (E := "java/lang/IllegalStateException") S hT hL [((0, 8, 11, 13), "java/lang/IllegalArgumentException")] (0, 8, 14, 160) [(0, 8, 17, 15)] htab (by decide) (by intro z hz; simp only [List.mem_cons, List.not_mem_nil, or_false] at hz; rcases hz with rfl; exact ⟨by decide, vc_L_13, by decide, by decide⟩) (by decide) (by decide) vc_L_160 hce hcv hcl ?_
      refine lv_astore_n (lv' := [(2, .ref q9), (0, .ref (a 0)), (1, .ref ob)]) hx hb dL_execute_14 rfl hl (by decide) rfl (fun ls hl => ?_)
      refine lv_iconst (v := 2) hx hb dL_execute_15 (by decide) ?_
      exact hend _ ls _ _ _ _ _ dL_execute_16 (Option.some.inj hr) hP9 hS1 (by decide) (by decide)
    by_cases h3 : E0 = "java/lang/UnsupportedOperationException"
    · subst h3
      refine pq_catch (E := "java/lang/UnsupportedOperationException") S hT hL [((0, 8, 11, 13), "java/lang/IllegalArgumentException"), ((0, 8, 14, 160), "java/lang/IllegalStateException")] (0, 8, 17, 15) [] htab (by decide) (by intro z hz; simp only [List.mem_cons, List.not_mem_nil, or_false] at hz; rcases hz with rfl | rfl <;> first | exact ⟨by decide, vc_L_13, by decide, by decide⟩ | exact ⟨by decide, vc_L_160, by decide, by decide⟩) (by decide) (by decide) vc_L_15 hce hcv hcl ?_
      refine lv_astore_n (lv' := [(2, .ref q9), (0, .ref (a 0)), (1, .ref ob)]) hx hb dL_execute_17 rfl hl (by decide) rfl (fun ls hl => ?_)
      refine lv_iconst (v := 3) hx hb dL_execute_18 (by decide) ?_
      exact hend _ ls _ _ _ _ _ dL_execute_19 (Option.some.inj hr) hP9 hS1 (by decide) (by decide)
    exact absurd hr (by simp [pq_cd, pq_cdF, h1, h2, h3])
  · refine pq_cXV S (c_X6_execute l g a T hst (.inr v) T1 hf) vv_L_162 hK hT (pq_P2 hP) (pq_D2 hD) hS hA rfl rfl rfl rfl rfl hl.1 (Nat.le_of_ble_eq_true rfl) dL_execute_3 (by decide) (by decide) ⟨by decide, by decide⟩ (fun E ce q9 H1 l1 h9 => by cases h9) (fun v9 H1 locs hv hk hP1 hS => ?_)
    obtain rfl : v9 = some (.int v) := (Sum.inr.inj hv).symm
    change W _ _ _ _ _ _ _ _ _ _ _ _ _ _ _ (F0 _ _ _ [.int v, .int 0, .ref ob])
    have hP9 : va_P g.1 pq_cl ([(ob, .inl (g.2 3, 1, .inr (.inl (f))))] ++ mainW g a T1) H1 := va_P.app (pq_kp (pq_P1 hP) (pq_Dx hD) hk) hP1
    have hD9 : va_D A ([(ob, .inl (g.2 3, 1, .inr (.inl (f))))] ++ mainW g a T1) := pq_adr hD (ad_app rfl (ad_X6 _ _))
    clear hk hP1 hP hD
    refine lv_i2l hx hb dL_execute_6 rfl ?_
    refine va_last hx hb hK.1 hP9 hD9 hS 0 3 rfl rfl pq_in01 dL_execute_7 (fun H2 locs hP2 _ hS => ?_)
    refine lv_goto (tgt := 20) hx hb dL_execute_8 (by decide) ?_
    refine lv_iconst (v := 0) hx hb dL_execute_20 (by decide) ?_
    exact hend _ ls _ _ _ _ _ dL_execute_21 (Option.some.inj hr) hP2 hS (by decide) (by decide)
set_option maxHeartbeats 4000000 in
set_option maxRecDepth 100000 in
theorem c_L_syntaxErrorOffset (l : Launch) (g : pq_g) (a : Nat → Nat) (ob : Nat) (f : Nat → Int64) (T : MainS) (hst : l.stackTraces = false) (o : String ⊕ Int32) (T1 : MainS) (hf : f_X6_syntaxErrorOffset T = some (o, T1)) (r : Int32) (hr : pq_cd ["java/util/NoSuchElementException"] o = some r) : pq_H l yL_syntaxErrorOffset cL_syntaxErrorOffset 3 [(0, 8, 11, 21)] 7 1 g ([(ob, .inl (g.2 3, 1, .inr (.inl (f))))] ++ mainW g a T) [.ref (a 0), .ref ob] r ([(ob, .inl (g.2 3, 1, .inr (.inl (pq_nf f (fun v => v.toInt64) o))))] ++ mainW g a T1) := by
  refine pq_H.of (by decide) rfl (Nat.le_of_ble_eq_true rfl) rfl ?_
  intro p e s m below meth c ls Q A S htab hP hK hD hS hA hT hL hl hend
  obtain ⟨hx, hb, hml, hown, hts⟩ := id S
  refine lv_aload_n hx hb dL_syntaxErrorOffset_0 rfl (lv_at hl 1 rfl) ?_
  refine lv_iconst (v := 0) hx hb dL_syntaxErrorOffset_1 (by decide) ?_
  refine lv_aload_n hx hb dL_syntaxErrorOffset_2 rfl (lv_at hl 0 rfl) ?_
  rcases o with E0 | v
  · refine pq_cXV S (c_X6_syntaxErrorOffset l g a T hst (.inl E0) T1 hf) vv_L_165 hK hT (pq_P2 hP) (pq_D2 hD) hS hA rfl rfl rfl rfl rfl hl.1 (Nat.le_of_ble_eq_true rfl) dL_syntaxErrorOffset_3 (by decide) (by decide) ⟨by decide, by decide⟩ (fun E ce q9 H1 locs1 hE hk hP1 hS1 hce hcv hcl => ?_) (fun v H1 l1 h9 => by cases h9)
    obtain rfl : E0 = E := Sum.inl.inj hE
    have hP9 := va_P.app (pq_kp (pq_P1 hP) (pq_Dx hD) hk) hP1
    by_cases h1 : E0 = "java/util/NoSuchElementException"
    · subst h1
      refine pq_catch (E := "java/util/NoSuchElementException") S hT hL [] (0, 8, 11, 21) [] htab (by decide) (by intro z hz; cases hz) (by decide) (by decide) vc_L_21 hce hcv hcl ?_
      refine lv_astore_n (lv' := [(2, .ref q9), (0, .ref (a 0)), (1, .ref ob)]) hx hb dL_syntaxErrorOffset_11 rfl hl (by decide) rfl (fun ls hl => ?_)
      refine lv_iconst (v := 1) hx hb dL_syntaxErrorOffset_12 (by decide) ?_
      exact hend _ ls _ _ _ _ _ dL_syntaxErrorOffset_13 (Option.some.inj hr) hP9 hS1 (by decide) (by decide)
    exact absurd hr (by simp [pq_cd, pq_cdF, h1])
  · refine pq_cXV S (c_X6_syntaxErrorOffset l g a T hst (.inr v) T1 hf) vv_L_165 hK hT (pq_P2 hP) (pq_D2 hD) hS hA rfl rfl rfl rfl rfl hl.1 (Nat.le_of_ble_eq_true rfl) dL_syntaxErrorOffset_3 (by decide) (by decide) ⟨by decide, by decide⟩ (fun E ce q9 H1 l1 h9 => by cases h9) (fun v9 H1 locs hv hk hP1 hS => ?_)
    obtain rfl : v9 = some (.int v) := (Sum.inr.inj hv).symm
    change W _ _ _ _ _ _ _ _ _ _ _ _ _ _ _ (F0 _ _ _ [.int v, .int 0, .ref ob])
    have hP9 : va_P g.1 pq_cl ([(ob, .inl (g.2 3, 1, .inr (.inl (f))))] ++ mainW g a T1) H1 := va_P.app (pq_kp (pq_P1 hP) (pq_Dx hD) hk) hP1
    have hD9 : va_D A ([(ob, .inl (g.2 3, 1, .inr (.inl (f))))] ++ mainW g a T1) := pq_adr hD (ad_app rfl (ad_X6 _ _))
    clear hk hP1 hP hD
    refine lv_i2l hx hb dL_syntaxErrorOffset_6 rfl ?_
    refine va_last hx hb hK.1 hP9 hD9 hS 0 3 rfl rfl pq_in01 dL_syntaxErrorOffset_7 (fun H2 locs hP2 _ hS => ?_)
    refine lv_goto (tgt := 14) hx hb dL_syntaxErrorOffset_8 (by decide) ?_
    refine lv_iconst (v := 0) hx hb dL_syntaxErrorOffset_14 (by decide) ?_
    exact hend _ ls _ _ _ _ _ dL_syntaxErrorOffset_15 (Option.some.inj hr) hP2 hS (by decide) (by decide)
set_option maxHeartbeats 4000000 in
set_option maxRecDepth 100000 in
theorem c_L_rejectionReason (l : Launch) (g : pq_g) (a : Nat → Nat) (ob : Nat) (f : Nat → Int64) (T : MainS) (hst : l.stackTraces = false) (o : String ⊕ Int32) (T1 : MainS) (hf : f_X6_rejectionReason T = some (o, T1)) (r : Int32) (hr : pq_cd ["java/util/NoSuchElementException"] o = some r) : pq_H l yL_rejectionReason cL_rejectionReason 3 [(0, 8, 11, 21)] 8 1 g ([(ob, .inl (g.2 3, 1, .inr (.inl (f))))] ++ mainW g a T) [.ref (a 0), .ref ob] r ([(ob, .inl (g.2 3, 1, .inr (.inl (pq_nf f (fun v => v.toInt64) o))))] ++ mainW g a T1) := by
  refine pq_H.of (by decide) rfl (Nat.le_of_ble_eq_true rfl) rfl ?_
  intro p e s m below meth c ls Q A S htab hP hK hD hS hA hT hL hl hend
  obtain ⟨hx, hb, hml, hown, hts⟩ := id S
  refine lv_aload_n hx hb dL_rejectionReason_0 rfl (lv_at hl 1 rfl) ?_
  refine lv_iconst (v := 0) hx hb dL_rejectionReason_1 (by decide) ?_
  refine lv_aload_n hx hb dL_rejectionReason_2 rfl (lv_at hl 0 rfl) ?_
  rcases o with E0 | v
  · refine pq_cXV S (c_X6_rejectionReason l g a T hst (.inl E0) T1 hf) vv_L_168 hK hT (pq_P2 hP) (pq_D2 hD) hS hA rfl rfl rfl rfl rfl hl.1 (Nat.le_of_ble_eq_true rfl) dL_rejectionReason_3 (by decide) (by decide) ⟨by decide, by decide⟩ (fun E ce q9 H1 locs1 hE hk hP1 hS1 hce hcv hcl => ?_) (fun v H1 l1 h9 => by cases h9)
    obtain rfl : E0 = E := Sum.inl.inj hE
    have hP9 := va_P.app (pq_kp (pq_P1 hP) (pq_Dx hD) hk) hP1
    by_cases h1 : E0 = "java/util/NoSuchElementException"
    · subst h1
      refine pq_catch (E := "java/util/NoSuchElementException") S hT hL [] (0, 8, 11, 21) [] htab (by decide) (by intro z hz; cases hz) (by decide) (by decide) vc_L_21 hce hcv hcl ?_
      refine lv_astore_n (lv' := [(2, .ref q9), (0, .ref (a 0)), (1, .ref ob)]) hx hb dL_rejectionReason_11 rfl hl (by decide) rfl (fun ls hl => ?_)
      refine lv_iconst (v := 1) hx hb dL_rejectionReason_12 (by decide) ?_
      exact hend _ ls _ _ _ _ _ dL_rejectionReason_13 (Option.some.inj hr) hP9 hS1 (by decide) (by decide)
    exact absurd hr (by simp [pq_cd, pq_cdF, h1])
  · refine pq_cXV S (c_X6_rejectionReason l g a T hst (.inr v) T1 hf) vv_L_168 hK hT (pq_P2 hP) (pq_D2 hD) hS hA rfl rfl rfl rfl rfl hl.1 (Nat.le_of_ble_eq_true rfl) dL_rejectionReason_3 (by decide) (by decide) ⟨by decide, by decide⟩ (fun E ce q9 H1 l1 h9 => by cases h9) (fun v9 H1 locs hv hk hP1 hS => ?_)
    obtain rfl : v9 = some (.int v) := (Sum.inr.inj hv).symm
    change W _ _ _ _ _ _ _ _ _ _ _ _ _ _ _ (F0 _ _ _ [.int v, .int 0, .ref ob])
    have hP9 : va_P g.1 pq_cl ([(ob, .inl (g.2 3, 1, .inr (.inl (f))))] ++ mainW g a T1) H1 := va_P.app (pq_kp (pq_P1 hP) (pq_Dx hD) hk) hP1
    have hD9 : va_D A ([(ob, .inl (g.2 3, 1, .inr (.inl (f))))] ++ mainW g a T1) := pq_adr hD (ad_app rfl (ad_X6 _ _))
    clear hk hP1 hP hD
    refine lv_i2l hx hb dL_rejectionReason_6 rfl ?_
    refine va_last hx hb hK.1 hP9 hD9 hS 0 3 rfl rfl pq_in01 dL_rejectionReason_7 (fun H2 locs hP2 _ hS => ?_)
    refine lv_goto (tgt := 14) hx hb dL_rejectionReason_8 (by decide) ?_
    refine lv_iconst (v := 0) hx hb dL_rejectionReason_14 (by decide) ?_
    exact hend _ ls _ _ _ _ _ dL_rejectionReason_15 (Option.some.inj hr) hP2 hS (by decide) (by decide)
set_option maxHeartbeats 4000000 in
set_option maxRecDepth 100000 in
theorem c_L_rejectionDetail (l : Launch) (g : pq_g) (a : Nat → Nat) (ob : Nat) (f : Nat → Int64) (T : MainS) (hst : l.stackTraces = false) (o : String ⊕ Int32) (T1 : MainS) (hf : f_X6_rejectionDetail T = some (o, T1)) (r : Int32) (hr : pq_cd ["java/util/NoSuchElementException"] o = some r) : pq_H l yL_rejectionDetail cL_rejectionDetail 3 [(0, 8, 11, 21)] 8 1 g ([(ob, .inl (g.2 3, 1, .inr (.inl (f))))] ++ mainW g a T) [.ref (a 0), .ref ob] r ([(ob, .inl (g.2 3, 1, .inr (.inl (pq_nf f (fun v => v.toInt64) o))))] ++ mainW g a T1) := by
  refine pq_H.of (by decide) rfl (Nat.le_of_ble_eq_true rfl) rfl ?_
  intro p e s m below meth c ls Q A S htab hP hK hD hS hA hT hL hl hend
  obtain ⟨hx, hb, hml, hown, hts⟩ := id S
  refine lv_aload_n hx hb dL_rejectionDetail_0 rfl (lv_at hl 1 rfl) ?_
  refine lv_iconst (v := 0) hx hb dL_rejectionDetail_1 (by decide) ?_
  refine lv_aload_n hx hb dL_rejectionDetail_2 rfl (lv_at hl 0 rfl) ?_
  rcases o with E0 | v
  · refine pq_cXV S (c_X6_rejectionDetail l g a T hst (.inl E0) T1 hf) vv_L_171 hK hT (pq_P2 hP) (pq_D2 hD) hS hA rfl rfl rfl rfl rfl hl.1 (Nat.le_of_ble_eq_true rfl) dL_rejectionDetail_3 (by decide) (by decide) ⟨by decide, by decide⟩ (fun E ce q9 H1 locs1 hE hk hP1 hS1 hce hcv hcl => ?_) (fun v H1 l1 h9 => by cases h9)
    obtain rfl : E0 = E := Sum.inl.inj hE
    have hP9 := va_P.app (pq_kp (pq_P1 hP) (pq_Dx hD) hk) hP1
    by_cases h1 : E0 = "java/util/NoSuchElementException"
    · subst h1
      refine pq_catch (E := "java/util/NoSuchElementException") S hT hL [] (0, 8, 11, 21) [] htab (by decide) (by intro z hz; cases hz) (by decide) (by decide) vc_L_21 hce hcv hcl ?_
      refine lv_astore_n (lv' := [(2, .ref q9), (0, .ref (a 0)), (1, .ref ob)]) hx hb dL_rejectionDetail_11 rfl hl (by decide) rfl (fun ls hl => ?_)
      refine lv_iconst (v := 1) hx hb dL_rejectionDetail_12 (by decide) ?_
      exact hend _ ls _ _ _ _ _ dL_rejectionDetail_13 (Option.some.inj hr) hP9 hS1 (by decide) (by decide)
    exact absurd hr (by simp [pq_cd, pq_cdF, h1])
  · refine pq_cXV S (c_X6_rejectionDetail l g a T hst (.inr v) T1 hf) vv_L_171 hK hT (pq_P2 hP) (pq_D2 hD) hS hA rfl rfl rfl rfl rfl hl.1 (Nat.le_of_ble_eq_true rfl) dL_rejectionDetail_3 (by decide) (by decide) ⟨by decide, by decide⟩ (fun E ce q9 H1 l1 h9 => by cases h9) (fun v9 H1 locs hv hk hP1 hS => ?_)
    obtain rfl : v9 = some (.int v) := (Sum.inr.inj hv).symm
    change W _ _ _ _ _ _ _ _ _ _ _ _ _ _ _ (F0 _ _ _ [.int v, .int 0, .ref ob])
    have hP9 : va_P g.1 pq_cl ([(ob, .inl (g.2 3, 1, .inr (.inl (f))))] ++ mainW g a T1) H1 := va_P.app (pq_kp (pq_P1 hP) (pq_Dx hD) hk) hP1
    have hD9 : va_D A ([(ob, .inl (g.2 3, 1, .inr (.inl (f))))] ++ mainW g a T1) := pq_adr hD (ad_app rfl (ad_X6 _ _))
    clear hk hP1 hP hD
    refine lv_i2l hx hb dL_rejectionDetail_6 rfl ?_
    refine va_last hx hb hK.1 hP9 hD9 hS 0 3 rfl rfl pq_in01 dL_rejectionDetail_7 (fun H2 locs hP2 _ hS => ?_)
    refine lv_goto (tgt := 14) hx hb dL_rejectionDetail_8 (by decide) ?_
    refine lv_iconst (v := 0) hx hb dL_rejectionDetail_14 (by decide) ?_
    exact hend _ ls _ _ _ _ _ dL_rejectionDetail_15 (Option.some.inj hr) hP2 hS (by decide) (by decide)
set_option maxHeartbeats 4000000 in
set_option maxRecDepth 100000 in
theorem c_L_causeReason (l : Launch) (g : pq_g) (a : Nat → Nat) (ob : Nat) (f : Nat → Int64) (T : MainS) (hst : l.stackTraces = false) (o : String ⊕ Int32) (T1 : MainS) (hf : f_X6_causeReason T = some (o, T1)) (r : Int32) (hr : pq_cd ["java/util/NoSuchElementException"] o = some r) : pq_H l yL_causeReason cL_causeReason 3 [(0, 8, 11, 21)] 7 1 g ([(ob, .inl (g.2 3, 1, .inr (.inl (f))))] ++ mainW g a T) [.ref (a 0), .ref ob] r ([(ob, .inl (g.2 3, 1, .inr (.inl (pq_nf f (fun v => v.toInt64) o))))] ++ mainW g a T1) := by
  refine pq_H.of (by decide) rfl (Nat.le_of_ble_eq_true rfl) rfl ?_
  intro p e s m below meth c ls Q A S htab hP hK hD hS hA hT hL hl hend
  obtain ⟨hx, hb, hml, hown, hts⟩ := id S
  refine lv_aload_n hx hb dL_causeReason_0 rfl (lv_at hl 1 rfl) ?_
  refine lv_iconst (v := 0) hx hb dL_causeReason_1 (by decide) ?_
  refine lv_aload_n hx hb dL_causeReason_2 rfl (lv_at hl 0 rfl) ?_
  rcases o with E0 | v
  · refine pq_cXV S (c_X6_causeReason l g a T hst (.inl E0) T1 hf) vv_L_174 hK hT (pq_P2 hP) (pq_D2 hD) hS hA rfl rfl rfl rfl rfl hl.1 (Nat.le_of_ble_eq_true rfl) dL_causeReason_3 (by decide) (by decide) ⟨by decide, by decide⟩ (fun E ce q9 H1 locs1 hE hk hP1 hS1 hce hcv hcl => ?_) (fun v H1 l1 h9 => by cases h9)
    obtain rfl : E0 = E := Sum.inl.inj hE
    have hP9 := va_P.app (pq_kp (pq_P1 hP) (pq_Dx hD) hk) hP1
    by_cases h1 : E0 = "java/util/NoSuchElementException"
    · subst h1
      refine pq_catch (E := "java/util/NoSuchElementException") S hT hL [] (0, 8, 11, 21) [] htab (by decide) (by intro z hz; cases hz) (by decide) (by decide) vc_L_21 hce hcv hcl ?_
      refine lv_astore_n (lv' := [(2, .ref q9), (0, .ref (a 0)), (1, .ref ob)]) hx hb dL_causeReason_11 rfl hl (by decide) rfl (fun ls hl => ?_)
      refine lv_iconst (v := 1) hx hb dL_causeReason_12 (by decide) ?_
      exact hend _ ls _ _ _ _ _ dL_causeReason_13 (Option.some.inj hr) hP9 hS1 (by decide) (by decide)
    exact absurd hr (by simp [pq_cd, pq_cdF, h1])
  · refine pq_cXV S (c_X6_causeReason l g a T hst (.inr v) T1 hf) vv_L_174 hK hT (pq_P2 hP) (pq_D2 hD) hS hA rfl rfl rfl rfl rfl hl.1 (Nat.le_of_ble_eq_true rfl) dL_causeReason_3 (by decide) (by decide) ⟨by decide, by decide⟩ (fun E ce q9 H1 l1 h9 => by cases h9) (fun v9 H1 locs hv hk hP1 hS => ?_)
    obtain rfl : v9 = some (.int v) := (Sum.inr.inj hv).symm
    change W _ _ _ _ _ _ _ _ _ _ _ _ _ _ _ (F0 _ _ _ [.int v, .int 0, .ref ob])
    have hP9 : va_P g.1 pq_cl ([(ob, .inl (g.2 3, 1, .inr (.inl (f))))] ++ mainW g a T1) H1 := va_P.app (pq_kp (pq_P1 hP) (pq_Dx hD) hk) hP1
    have hD9 : va_D A ([(ob, .inl (g.2 3, 1, .inr (.inl (f))))] ++ mainW g a T1) := pq_adr hD (ad_app rfl (ad_X6 _ _))
    clear hk hP1 hP hD
    refine lv_i2l hx hb dL_causeReason_6 rfl ?_
    refine va_last hx hb hK.1 hP9 hD9 hS 0 3 rfl rfl pq_in01 dL_causeReason_7 (fun H2 locs hP2 _ hS => ?_)
    refine lv_goto (tgt := 14) hx hb dL_causeReason_8 (by decide) ?_
    refine lv_iconst (v := 0) hx hb dL_causeReason_14 (by decide) ?_
    exact hend _ ls _ _ _ _ _ dL_causeReason_15 (Option.some.inj hr) hP2 hS (by decide) (by decide)
set_option maxHeartbeats 4000000 in
set_option maxRecDepth 100000 in
theorem c_L_undo (l : Launch) (g : pq_g) (a : Nat → Nat) (ob : Nat) (f : Nat → Int64) (T : MainS) (hst : l.stackTraces = false) (o : String ⊕ Int32) (T1 : MainS) (hf : f_X6_undo T = some (o, T1)) (r : Int32) (hr : pq_cd ["java/lang/IllegalStateException"] o = some r) : pq_H l yL_undo cL_undo 3 [(0, 8, 11, 160)] 8 1 g ([(ob, .inl (g.2 3, 1, .inr (.inl (f))))] ++ mainW g a T) [.ref (a 0), .ref ob] r ([(ob, .inl (g.2 3, 1, .inr (.inl (pq_nf f (fun v => v.toInt64) o))))] ++ mainW g a T1) := by
  refine pq_H.of (by decide) rfl (Nat.le_of_ble_eq_true rfl) rfl ?_
  intro p e s m below meth c ls Q A S htab hP hK hD hS hA hT hL hl hend
  obtain ⟨hx, hb, hml, hown, hts⟩ := id S
  refine lv_aload_n hx hb dL_undo_0 rfl (lv_at hl 1 rfl) ?_
  refine lv_iconst (v := 0) hx hb dL_undo_1 (by decide) ?_
  refine lv_aload_n hx hb dL_undo_2 rfl (lv_at hl 0 rfl) ?_
  rcases o with E0 | v
  · refine pq_cXV S (c_X6_undo l g a T hst (.inl E0) T1 hf) vv_L_177 hK hT (pq_P2 hP) (pq_D2 hD) hS hA rfl rfl rfl rfl rfl hl.1 (Nat.le_of_ble_eq_true rfl) dL_undo_3 (by decide) (by decide) ⟨by decide, by decide⟩ (fun E ce q9 H1 locs1 hE hk hP1 hS1 hce hcv hcl => ?_) (fun v H1 l1 h9 => by cases h9)
    obtain rfl : E0 = E := Sum.inl.inj hE
    have hP9 := va_P.app (pq_kp (pq_P1 hP) (pq_Dx hD) hk) hP1
    by_cases h1 : E0 = "java/lang/IllegalStateException"
    · subst h1
      refine pq_catch (E := "java/lang/IllegalStateException") S hT hL [] (0, 8, 11, 160) [] htab (by decide) (by intro z hz; cases hz) (by decide) (by decide) vc_L_160 hce hcv hcl ?_
      refine lv_astore_n (lv' := [(2, .ref q9), (0, .ref (a 0)), (1, .ref ob)]) hx hb dL_undo_11 rfl hl (by decide) rfl (fun ls hl => ?_)
      refine lv_iconst (v := 1) hx hb dL_undo_12 (by decide) ?_
      exact hend _ ls _ _ _ _ _ dL_undo_13 (Option.some.inj hr) hP9 hS1 (by decide) (by decide)
    exact absurd hr (by simp [pq_cd, pq_cdF, h1])
  · refine pq_cXV S (c_X6_undo l g a T hst (.inr v) T1 hf) vv_L_177 hK hT (pq_P2 hP) (pq_D2 hD) hS hA rfl rfl rfl rfl rfl hl.1 (Nat.le_of_ble_eq_true rfl) dL_undo_3 (by decide) (by decide) ⟨by decide, by decide⟩ (fun E ce q9 H1 l1 h9 => by cases h9) (fun v9 H1 locs hv hk hP1 hS => ?_)
    obtain rfl : v9 = some (.int v) := (Sum.inr.inj hv).symm
    change W _ _ _ _ _ _ _ _ _ _ _ _ _ _ _ (F0 _ _ _ [.int v, .int 0, .ref ob])
    have hP9 : va_P g.1 pq_cl ([(ob, .inl (g.2 3, 1, .inr (.inl (f))))] ++ mainW g a T1) H1 := va_P.app (pq_kp (pq_P1 hP) (pq_Dx hD) hk) hP1
    have hD9 : va_D A ([(ob, .inl (g.2 3, 1, .inr (.inl (f))))] ++ mainW g a T1) := pq_adr hD (ad_app rfl (ad_X6 _ _))
    clear hk hP1 hP hD
    refine lv_i2l hx hb dL_undo_6 rfl ?_
    refine va_last hx hb hK.1 hP9 hD9 hS 0 3 rfl rfl pq_in01 dL_undo_7 (fun H2 locs hP2 _ hS => ?_)
    refine lv_goto (tgt := 14) hx hb dL_undo_8 (by decide) ?_
    refine lv_iconst (v := 0) hx hb dL_undo_14 (by decide) ?_
    exact hend _ ls _ _ _ _ _ dL_undo_15 (Option.some.inj hr) hP2 hS (by decide) (by decide)
set_option maxHeartbeats 4000000 in
set_option maxRecDepth 100000 in
theorem c_L_restoreSnapshot (l : Launch) (g : pq_g) (a : Nat → Nat) (ob : Nat) (f : Nat → Int64) (T : MainS) (hst : l.stackTraces = false) (o : String ⊕ Int32) (T1 : MainS) (hf : f_X6_restoreSnapshot T = some (o, T1)) (r : Int32) (hr : pq_cd ["java/lang/IllegalStateException"] o = some r) : pq_H l yL_restoreSnapshot cL_restoreSnapshot 3 [(0, 8, 11, 160)] 7 1 g ([(ob, .inl (g.2 3, 1, .inr (.inl (f))))] ++ mainW g a T) [.ref (a 0), .ref ob] r ([(ob, .inl (g.2 3, 1, .inr (.inl (pq_nf f (fun v => v.toInt64) o))))] ++ mainW g a T1) := by
  refine pq_H.of (by decide) rfl (Nat.le_of_ble_eq_true rfl) rfl ?_
  intro p e s m below meth c ls Q A S htab hP hK hD hS hA hT hL hl hend
  obtain ⟨hx, hb, hml, hown, hts⟩ := id S
  refine lv_aload_n hx hb dL_restoreSnapshot_0 rfl (lv_at hl 1 rfl) ?_
  refine lv_iconst (v := 0) hx hb dL_restoreSnapshot_1 (by decide) ?_
  refine lv_aload_n hx hb dL_restoreSnapshot_2 rfl (lv_at hl 0 rfl) ?_
  rcases o with E0 | v
  · refine pq_cXV S (c_X6_restoreSnapshot l g a T hst (.inl E0) T1 hf) vv_L_180 hK hT (pq_P2 hP) (pq_D2 hD) hS hA rfl rfl rfl rfl rfl hl.1 (Nat.le_of_ble_eq_true rfl) dL_restoreSnapshot_3 (by decide) (by decide) ⟨by decide, by decide⟩ (fun E ce q9 H1 locs1 hE hk hP1 hS1 hce hcv hcl => ?_) (fun v H1 l1 h9 => by cases h9)
    obtain rfl : E0 = E := Sum.inl.inj hE
    have hP9 := va_P.app (pq_kp (pq_P1 hP) (pq_Dx hD) hk) hP1
    by_cases h1 : E0 = "java/lang/IllegalStateException"
    · subst h1
      refine pq_catch (E := "java/lang/IllegalStateException") S hT hL [] (0, 8, 11, 160) [] htab (by decide) (by intro z hz; cases hz) (by decide) (by decide) vc_L_160 hce hcv hcl ?_
      refine lv_astore_n (lv' := [(2, .ref q9), (0, .ref (a 0)), (1, .ref ob)]) hx hb dL_restoreSnapshot_11 rfl hl (by decide) rfl (fun ls hl => ?_)
      refine lv_iconst (v := 1) hx hb dL_restoreSnapshot_12 (by decide) ?_
      exact hend _ ls _ _ _ _ _ dL_restoreSnapshot_13 (Option.some.inj hr) hP9 hS1 (by decide) (by decide)
    exact absurd hr (by simp [pq_cd, pq_cdF, h1])
  · refine pq_cXV S (c_X6_restoreSnapshot l g a T hst (.inr v) T1 hf) vv_L_180 hK hT (pq_P2 hP) (pq_D2 hD) hS hA rfl rfl rfl rfl rfl hl.1 (Nat.le_of_ble_eq_true rfl) dL_restoreSnapshot_3 (by decide) (by decide) ⟨by decide, by decide⟩ (fun E ce q9 H1 l1 h9 => by cases h9) (fun v9 H1 locs hv hk hP1 hS => ?_)
    obtain rfl : v9 = some (.int v) := (Sum.inr.inj hv).symm
    change W _ _ _ _ _ _ _ _ _ _ _ _ _ _ _ (F0 _ _ _ [.int v, .int 0, .ref ob])
    have hP9 : va_P g.1 pq_cl ([(ob, .inl (g.2 3, 1, .inr (.inl (f))))] ++ mainW g a T1) H1 := va_P.app (pq_kp (pq_P1 hP) (pq_Dx hD) hk) hP1
    have hD9 : va_D A ([(ob, .inl (g.2 3, 1, .inr (.inl (f))))] ++ mainW g a T1) := pq_adr hD (ad_app rfl (ad_X6 _ _))
    clear hk hP1 hP hD
    refine lv_i2l hx hb dL_restoreSnapshot_6 rfl ?_
    refine va_last hx hb hK.1 hP9 hD9 hS 0 3 rfl rfl pq_in01 dL_restoreSnapshot_7 (fun H2 locs hP2 _ hS => ?_)
    refine lv_goto (tgt := 14) hx hb dL_restoreSnapshot_8 (by decide) ?_
    refine lv_iconst (v := 0) hx hb dL_restoreSnapshot_14 (by decide) ?_
    exact hend _ ls _ _ _ _ _ dL_restoreSnapshot_15 (Option.some.inj hr) hP2 hS (by decide) (by decide)
