/-- what a helper of the law makes of a call: an answer, or the number of what was thrown -/
def pz_hE : List (String × Option Int32) → String → MainS → Option (Int32 × MainS)
  | [], _, _ => none
  | (c, some k) :: cs, E, T => if E = c then some (k, T) else pz_hE cs E T
  | (c, none) :: cs, E, T => if E = c then (match f_X6_rejectionReason T with
    | some (.inr r, T1) => some ((-10000) - r, T1)
    | _ => none) else pz_hE cs E T
def pz_h (hs : List (String × Option Int32)) : Option ((String ⊕ Int32) × MainS) → Option (Int32 × MainS)
  | none => none
  | some (.inr v, T) => some (v, T)
  | some (.inl E, T) => pz_hE hs E T
def h_insert (T : MainS) (p1 : Int32) (p2 : Int32) : Option (Int32 × MainS) := pz_h [("java/lang/IllegalArgumentException", some (-20000)), ("java/lang/UnsupportedOperationException", none)] (f_X6_insert T p1 p2)
set_option maxHeartbeats 4000000 in
set_option maxRecDepth 100000 in
theorem c_L_insert (l : Launch) (g : pq_g) (a : Nat → Nat) (T : MainS) (p1 : Int32) (p2 : Int32) (hst : l.stackTraces = false) (r : Int32) (T1 : MainS) (hf : h_insert T p1 p2 = some (r, T1)) : pq_H l yL_insert cL_insert 4 [(0, 6, 7, 19), (0, 6, 12, 21)] 8 4 g (mainW g a T) [.ref (a 0), .int p1, .int p2] r (mainW g a T1) := by
  unfold h_insert at hf
  refine pq_H.of (by decide) rfl (Nat.le_of_ble_eq_true rfl) rfl ?_
  intro p e s m below meth c ls Q A S htab hP hK hD hS hA hT hL hl hend
  obtain ⟨hx, hb, hml, hown, hts⟩ := id S
  refine lv_aload_n hx hb dL_insert_0 rfl (lv_at hl 0 rfl) ?_
  refine lv_iload_n hx hb dL_insert_1 rfl (lv_at hl 1 rfl) ?_
  refine lv_iload_n hx hb dL_insert_2 rfl (lv_at hl 2 rfl) ?_
  cases hfx : f_X6_insert T p1 p2 with
  | none => rw [hfx] at hf; cases hf
  | some z =>
    obtain ⟨o, T2⟩ := z
    rw [hfx] at hf
    rcases o with E0 | v
    · refine pq_cXV S (c_X6_insert l g a T p1 p2 hst (.inl E0) T2 hfx) vv_L_13 hK hT hP hD hS hA rfl rfl rfl rfl rfl hl.1 (Nat.le_of_ble_eq_true rfl) dL_insert_3 (by decide) (by decide) ⟨Nat.le_of_ble_eq_true rfl, Nat.le_of_ble_eq_true rfl⟩ (fun E ce q9 H1 locs1 hE hk hP1 hS1 hce hcv hcl => ?_) (fun v H1 l1 h9 => by cases h9)
      obtain rfl : E0 = E := Sum.inl.inj hE
      replace hf : pz_hE [("java/lang/IllegalArgumentException", some (-20000)), ("java/lang/UnsupportedOperationException", none)] E0 T2 = some (r, T1) := hf
      by_cases h1 : E0 = "java/lang/IllegalArgumentException"
      · subst h1
        rw [pz_hE, if_pos rfl] at hf
        refine pq_catch (E := "java/lang/IllegalArgumentException") S hT hL [] (0, 6, 7, 19) [(0, 6, 12, 21)] htab (by decide) (by intro z hz; cases hz) (by decide) (by decide) vc_L_19 hce hcv hcl ?_
        refine lv_astore_n (lv' := [(3, .ref q9), (0, .ref (a 0)), (1, .int p1), (2, .int p2)]) hx hb dL_insert_7 rfl hl (by decide) rfl (fun ls hl => ?_)
        refine lv_sipush (v := (-20000)) hx hb dL_insert_8 (by decide) ?_
        obtain ⟨rfl, rfl⟩ := Prod.mk.inj (Option.some.inj hf)
        exact hend _ ls _ _ _ _ _ dL_insert_11 rfl hP1 hS1 (Nat.le_of_ble_eq_true rfl) (Nat.le_of_ble_eq_true rfl)
      rw [pz_hE, if_neg h1] at hf
      by_cases h2 : E0 = "java/lang/UnsupportedOperationException"
      · subst h2
        rw [pz_hE, if_pos rfl] at hf
        refine pq_catch (E := "java/lang/UnsupportedOperationException") S hT hL [((0, 6, 7, 19), "java/lang/IllegalArgumentException")] (0, 6, 12, 21) [] htab (by decide) (by intro z hz; simp only [List.mem_cons, List.not_mem_nil, or_false] at hz; rcases hz with rfl; exact ⟨by decide, vc_L_19, by decide, by decide⟩) (by decide) (by decide) vc_L_21 hce hcv hcl ?_
        refine lv_astore_n (lv' := [(3, .ref q9), (0, .ref (a 0)), (1, .int p1), (2, .int p2)]) hx hb dL_insert_12 rfl hl (by decide) rfl (fun ls hl => ?_)
        refine lv_sipush (v := (-10000)) hx hb dL_insert_13 (by decide) ?_
        refine lv_aload_n hx hb dL_insert_16 rfl (lv_at hl 1 rfl) ?_
        cases hr9 : f_X6_rejectionReason T2 with
        | none => rw [hr9] at hf; cases hf
        | some z =>
          obtain ⟨o9, T3⟩ := z
          rw [hr9] at hf
          rcases o9 with E9 | v9
          · cases hf
          · obtain ⟨rfl, rfl⟩ := Prod.mk.inj (Option.some.inj hf)
            refine pq_cXV S (c_X6_rejectionReason l g a T2 hst (.inr v9) T3 hr9) vv_L_23 hK hT hP1 (pq_adr hD (ad_X6 _ _)) hS1 hA rfl rfl rfl rfl rfl hl.1 (Nat.le_of_ble_eq_true rfl) dL_insert_17 (by decide) (by decide) ⟨Nat.le_of_ble_eq_true rfl, Nat.le_of_ble_eq_true rfl⟩ (fun E ce q9 H1 l1 h9 => by cases h9) (fun v8 H2 locs2 hv hk2 hP2 hS2 => ?_)
            obtain rfl : v8 = some (.int v9) := (Sum.inr.inj hv).symm
            show W _ _ _ _ _ _ _ _ _ _ _ _ _ _ _ (F0 _ _ _ [.int v9, .int (-10000)])
            refine lv_isub hx hb dL_insert_20 ?_
            exact hend _ ls _ _ _ _ _ dL_insert_21 rfl hP2 hS2 (Nat.le_of_ble_eq_true rfl) (Nat.le_of_ble_eq_true rfl)
      rw [pz_hE, if_neg h2] at hf
      cases hf
    · refine pq_cXV S (c_X6_insert l g a T p1 p2 hst (.inr v) T2 hfx) vv_L_13 hK hT hP hD hS hA rfl rfl rfl rfl rfl hl.1 (Nat.le_of_ble_eq_true rfl) dL_insert_3 (by decide) (by decide) ⟨Nat.le_of_ble_eq_true rfl, Nat.le_of_ble_eq_true rfl⟩ (fun E ce q9 H1 l1 h9 => by cases h9) (fun v9 H1 locs hv hk hP1 hS => ?_)
      obtain rfl : v9 = some (.int v) := (Sum.inr.inj hv).symm
      obtain ⟨rfl, rfl⟩ := Prod.mk.inj (Option.some.inj hf)
      exact hend _ ls _ _ _ _ _ dL_insert_6 rfl hP1 hS (Nat.le_of_ble_eq_true rfl) (Nat.le_of_ble_eq_true rfl)
def h_delete (T : MainS) (p1 : Int32) : Option (Int32 × MainS) := pz_h [("java/util/NoSuchElementException", some (-30000))] (f_X6_delete T p1)
set_option maxHeartbeats 4000000 in
set_option maxRecDepth 100000 in
theorem c_L_delete (l : Launch) (g : pq_g) (a : Nat → Nat) (T : MainS) (p1 : Int32) (hst : l.stackTraces = false) (r : Int32) (T1 : MainS) (hf : h_delete T p1 = some (r, T1)) : pq_H l yL_delete cL_delete 3 [(0, 5, 6, 31)] 8 1 g (mainW g a T) [.ref (a 0), .int p1] r (mainW g a T1) := by
  unfold h_delete at hf
  refine pq_H.of (by decide) rfl (Nat.le_of_ble_eq_true rfl) rfl ?_
  intro p e s m below meth c ls Q A S htab hP hK hD hS hA hT hL hl hend
  obtain ⟨hx, hb, hml, hown, hts⟩ := id S
  refine lv_aload_n hx hb dL_delete_0 rfl (lv_at hl 0 rfl) ?_
  refine lv_iload_n hx hb dL_delete_1 rfl (lv_at hl 1 rfl) ?_
  cases hfx : f_X6_delete T p1 with
  | none => rw [hfx] at hf; cases hf
  | some z =>
    obtain ⟨o, T2⟩ := z
    rw [hfx] at hf
    rcases o with E0 | v
    · refine pq_cXV S (c_X6_delete l g a T p1 hst (.inl E0) T2 hfx) vv_L_27 hK hT hP hD hS hA rfl rfl rfl rfl rfl hl.1 (Nat.le_of_ble_eq_true rfl) dL_delete_2 (by decide) (by decide) ⟨Nat.le_of_ble_eq_true rfl, Nat.le_of_ble_eq_true rfl⟩ (fun E ce q9 H1 locs1 hE hk hP1 hS1 hce hcv hcl => ?_) (fun v H1 l1 h9 => by cases h9)
      obtain rfl : E0 = E := Sum.inl.inj hE
      replace hf : pz_hE [("java/util/NoSuchElementException", some (-30000))] E0 T2 = some (r, T1) := hf
      by_cases h1 : E0 = "java/util/NoSuchElementException"
      · subst h1
        rw [pz_hE, if_pos rfl] at hf
        refine pq_catch (E := "java/util/NoSuchElementException") S hT hL [] (0, 5, 6, 31) [] htab (by decide) (by intro z hz; cases hz) (by decide) (by decide) vc_L_31 hce hcv hcl ?_
        refine lv_astore_n (lv' := [(2, .ref q9), (0, .ref (a 0)), (1, .int p1)]) hx hb dL_delete_6 rfl hl (by decide) rfl (fun ls hl => ?_)
        refine lv_sipush (v := (-30000)) hx hb dL_delete_7 (by decide) ?_
        obtain ⟨rfl, rfl⟩ := Prod.mk.inj (Option.some.inj hf)
        exact hend _ ls _ _ _ _ _ dL_delete_10 rfl hP1 hS1 (Nat.le_of_ble_eq_true rfl) (Nat.le_of_ble_eq_true rfl)
      rw [pz_hE, if_neg h1] at hf
      cases hf
    · refine pq_cXV S (c_X6_delete l g a T p1 hst (.inr v) T2 hfx) vv_L_27 hK hT hP hD hS hA rfl rfl rfl rfl rfl hl.1 (Nat.le_of_ble_eq_true rfl) dL_delete_2 (by decide) (by decide) ⟨Nat.le_of_ble_eq_true rfl, Nat.le_of_ble_eq_true rfl⟩ (fun E ce q9 H1 l1 h9 => by cases h9) (fun v9 H1 locs hv hk hP1 hS => ?_)
      obtain rfl : v9 = some (.int v) := (Sum.inr.inj hv).symm
      obtain ⟨rfl, rfl⟩ := Prod.mk.inj (Option.some.inj hf)
      exact hend _ ls _ _ _ _ _ dL_delete_5 rfl hP1 hS (Nat.le_of_ble_eq_true rfl) (Nat.le_of_ble_eq_true rfl)
def h_changePriority (T : MainS) (p1 : Int32) (p2 : Int32) : Option (Int32 × MainS) := pz_h [("java/util/NoSuchElementException", some (-30000)), ("java/lang/IllegalArgumentException", some (-20000)), ("java/lang/UnsupportedOperationException", none)] (f_X6_changePriority T p1 p2)
set_option maxHeartbeats 4000000 in
set_option maxRecDepth 100000 in
theorem c_L_changePriority (l : Launch) (g : pq_g) (a : Nat → Nat) (T : MainS) (p1 : Int32) (p2 : Int32) (hst : l.stackTraces = false) (r : Int32) (T1 : MainS) (hf : h_changePriority T p1 p2 = some (r, T1)) : pq_H l yL_changePriority cL_changePriority 4 [(0, 6, 7, 31), (0, 6, 12, 19), (0, 6, 17, 21)] 8 4 g (mainW g a T) [.ref (a 0), .int p1, .int p2] r (mainW g a T1) := by
  unfold h_changePriority at hf
  refine pq_H.of (by decide) rfl (Nat.le_of_ble_eq_true rfl) rfl ?_
  intro p e s m below meth c ls Q A S htab hP hK hD hS hA hT hL hl hend
  obtain ⟨hx, hb, hml, hown, hts⟩ := id S
  refine lv_aload_n hx hb dL_changePriority_0 rfl (lv_at hl 0 rfl) ?_
  refine lv_iload_n hx hb dL_changePriority_1 rfl (lv_at hl 1 rfl) ?_
  refine lv_iload_n hx hb dL_changePriority_2 rfl (lv_at hl 2 rfl) ?_
  cases hfx : f_X6_changePriority T p1 p2 with
  | none => rw [hfx] at hf; cases hf
  | some z =>
    obtain ⟨o, T2⟩ := z
    rw [hfx] at hf
    rcases o with E0 | v
    · refine pq_cXV S (c_X6_changePriority l g a T p1 p2 hst (.inl E0) T2 hfx) vv_L_33 hK hT hP hD hS hA rfl rfl rfl rfl rfl hl.1 (Nat.le_of_ble_eq_true rfl) dL_changePriority_3 (by decide) (by decide) ⟨Nat.le_of_ble_eq_true rfl, Nat.le_of_ble_eq_true rfl⟩ (fun E ce q9 H1 locs1 hE hk hP1 hS1 hce hcv hcl => ?_) (fun v H1 l1 h9 => by cases h9)
      obtain rfl : E0 = E := Sum.inl.inj hE
      replace hf : pz_hE [("java/util/NoSuchElementException", some (-30000)), ("java/lang/IllegalArgumentException", some (-20000)), ("java/lang/UnsupportedOperationException", none)] E0 T2 = some (r, T1) := hf
      by_cases h1 : E0 = "java/util/NoSuchElementException"
      · subst h1
        rw [pz_hE, if_pos rfl] at hf
        refine pq_catch (E := "java/util/NoSuchElementException") S hT hL [] (0, 6, 7, 31) [(0, 6, 12, 19), (0, 6, 17, 21)] htab (by decide) (by intro z hz; cases hz) (by decide) (by decide) vc_L_31 hce hcv hcl ?_
        refine lv_astore_n (lv' := [(3, .ref q9), (0, .ref (a 0)), (1, .int p1), (2, .int p2)]) hx hb dL_changePriority_7 rfl hl (by decide) rfl (fun ls hl => ?_)
        refine lv_sipush (v := (-30000)) hx hb dL_changePriority_8 (by decide) ?_
        obtain ⟨rfl, rfl⟩ := Prod.mk.inj (Option.some.inj hf)
        exact hend _ ls _ _ _ _ _ dL_changePriority_11 rfl hP1 hS1 (Nat.le_of_ble_eq_true rfl) (Nat.le_of_ble_eq_true rfl)
      rw [pz_hE, if_neg h1] at hf
      by_cases h2 : E0 = "java/lang/IllegalArgumentException"
      · subst h2
        rw [pz_hE, if_pos rfl] at hf
        refine pq_catch (E := "java/lang/IllegalArgumentException") S hT hL [((0, 6, 7, 31), "java/util/NoSuchElementException")] (0, 6, 12, 19) [(0, 6, 17, 21)] htab (by decide) (by intro z hz; simp only [List.mem_cons, List.not_mem_nil, or_false] at hz; rcases hz with rfl; exact ⟨by decide, vc_L_31, by decide, by decide⟩) (by decide) (by decide) vc_L_19 hce hcv hcl ?_
        refine lv_astore_n (lv' := [(3, .ref q9), (0, .ref (a 0)), (1, .int p1), (2, .int p2)]) hx hb dL_changePriority_12 rfl hl (by decide) rfl (fun ls hl => ?_)
        refine lv_sipush (v := (-20000)) hx hb dL_changePriority_13 (by decide) ?_
        obtain ⟨rfl, rfl⟩ := Prod.mk.inj (Option.some.inj hf)
        exact hend _ ls _ _ _ _ _ dL_changePriority_16 rfl hP1 hS1 (Nat.le_of_ble_eq_true rfl) (Nat.le_of_ble_eq_true rfl)
      rw [pz_hE, if_neg h2] at hf
      by_cases h3 : E0 = "java/lang/UnsupportedOperationException"
      · subst h3
        rw [pz_hE, if_pos rfl] at hf
        refine pq_catch (E := "java/lang/UnsupportedOperationException") S hT hL [((0, 6, 7, 31), "java/util/NoSuchElementException"), ((0, 6, 12, 19), "java/lang/IllegalArgumentException")] (0, 6, 17, 21) [] htab (by decide) (by intro z hz; simp only [List.mem_cons, List.not_mem_nil, or_false] at hz; rcases hz with rfl | rfl <;> first | exact ⟨by decide, vc_L_31, by decide, by decide⟩ | exact ⟨by decide, vc_L_19, by decide, by decide⟩) (by decide) (by decide) vc_L_21 hce hcv hcl ?_
        refine lv_astore_n (lv' := [(3, .ref q9), (0, .ref (a 0)), (1, .int p1), (2, .int p2)]) hx hb dL_changePriority_17 rfl hl (by decide) rfl (fun ls hl => ?_)
        refine lv_sipush (v := (-10000)) hx hb dL_changePriority_18 (by decide) ?_
        refine lv_aload_n hx hb dL_changePriority_21 rfl (lv_at hl 1 rfl) ?_
        cases hr9 : f_X6_rejectionReason T2 with
        | none => rw [hr9] at hf; cases hf
        | some z =>
          obtain ⟨o9, T3⟩ := z
          rw [hr9] at hf
          rcases o9 with E9 | v9
          · cases hf
          · obtain ⟨rfl, rfl⟩ := Prod.mk.inj (Option.some.inj hf)
            refine pq_cXV S (c_X6_rejectionReason l g a T2 hst (.inr v9) T3 hr9) vv_L_23 hK hT hP1 (pq_adr hD (ad_X6 _ _)) hS1 hA rfl rfl rfl rfl rfl hl.1 (Nat.le_of_ble_eq_true rfl) dL_changePriority_22 (by decide) (by decide) ⟨Nat.le_of_ble_eq_true rfl, Nat.le_of_ble_eq_true rfl⟩ (fun E ce q9 H1 l1 h9 => by cases h9) (fun v8 H2 locs2 hv hk2 hP2 hS2 => ?_)
            obtain rfl : v8 = some (.int v9) := (Sum.inr.inj hv).symm
            show W _ _ _ _ _ _ _ _ _ _ _ _ _ _ _ (F0 _ _ _ [.int v9, .int (-10000)])
            refine lv_isub hx hb dL_changePriority_25 ?_
            exact hend _ ls _ _ _ _ _ dL_changePriority_26 rfl hP2 hS2 (Nat.le_of_ble_eq_true rfl) (Nat.le_of_ble_eq_true rfl)
      rw [pz_hE, if_neg h3] at hf
      cases hf
    · refine pq_cXV S (c_X6_changePriority l g a T p1 p2 hst (.inr v) T2 hfx) vv_L_33 hK hT hP hD hS hA rfl rfl rfl rfl rfl hl.1 (Nat.le_of_ble_eq_true rfl) dL_changePriority_3 (by decide) (by decide) ⟨Nat.le_of_ble_eq_true rfl, Nat.le_of_ble_eq_true rfl⟩ (fun E ce q9 H1 l1 h9 => by cases h9) (fun v9 H1 locs hv hk hP1 hS => ?_)
      obtain rfl : v9 = some (.int v) := (Sum.inr.inj hv).symm
      obtain ⟨rfl, rfl⟩ := Prod.mk.inj (Option.some.inj hf)
      exact hend _ ls _ _ _ _ _ dL_changePriority_6 rfl hP1 hS (Nat.le_of_ble_eq_true rfl) (Nat.le_of_ble_eq_true rfl)
def h_moveKey (T : MainS) (p1 : Int32) (p2 : Int32) : Option (Int32 × MainS) := pz_h [("java/util/NoSuchElementException", some (-30000)), ("java/lang/IllegalArgumentException", some (-20000)), ("java/lang/UnsupportedOperationException", none)] (f_X6_moveKey T p1 p2)
set_option maxHeartbeats 4000000 in
set_option maxRecDepth 100000 in
theorem c_L_moveKey (l : Launch) (g : pq_g) (a : Nat → Nat) (T : MainS) (p1 : Int32) (p2 : Int32) (hst : l.stackTraces = false) (r : Int32) (T1 : MainS) (hf : h_moveKey T p1 p2 = some (r, T1)) : pq_H l yL_moveKey cL_moveKey 4 [(0, 6, 7, 31), (0, 6, 12, 19), (0, 6, 17, 21)] 8 4 g (mainW g a T) [.ref (a 0), .int p1, .int p2] r (mainW g a T1) := by
  unfold h_moveKey at hf
  refine pq_H.of (by decide) rfl (Nat.le_of_ble_eq_true rfl) rfl ?_
  intro p e s m below meth c ls Q A S htab hP hK hD hS hA hT hL hl hend
  obtain ⟨hx, hb, hml, hown, hts⟩ := id S
  refine lv_aload_n hx hb dL_moveKey_0 rfl (lv_at hl 0 rfl) ?_
  refine lv_iload_n hx hb dL_moveKey_1 rfl (lv_at hl 1 rfl) ?_
  refine lv_iload_n hx hb dL_moveKey_2 rfl (lv_at hl 2 rfl) ?_
  cases hfx : f_X6_moveKey T p1 p2 with
  | none => rw [hfx] at hf; cases hf
  | some z =>
    obtain ⟨o, T2⟩ := z
    rw [hfx] at hf
    rcases o with E0 | v
    · refine pq_cXV S (c_X6_moveKey l g a T p1 p2 hst (.inl E0) T2 hfx) vv_L_36 hK hT hP hD hS hA rfl rfl rfl rfl rfl hl.1 (Nat.le_of_ble_eq_true rfl) dL_moveKey_3 (by decide) (by decide) ⟨Nat.le_of_ble_eq_true rfl, Nat.le_of_ble_eq_true rfl⟩ (fun E ce q9 H1 locs1 hE hk hP1 hS1 hce hcv hcl => ?_) (fun v H1 l1 h9 => by cases h9)
      obtain rfl : E0 = E := Sum.inl.inj hE
      replace hf : pz_hE [("java/util/NoSuchElementException", some (-30000)), ("java/lang/IllegalArgumentException", some (-20000)), ("java/lang/UnsupportedOperationException", none)] E0 T2 = some (r, T1) := hf
      by_cases h1 : E0 = "java/util/NoSuchElementException"
      · subst h1
        rw [pz_hE, if_pos rfl] at hf
        refine pq_catch (E := "java/util/NoSuchElementException") S hT hL [] (0, 6, 7, 31) [(0, 6, 12, 19), (0, 6, 17, 21)] htab (by decide) (by intro z hz; cases hz) (by decide) (by decide) vc_L_31 hce hcv hcl ?_
        refine lv_astore_n (lv' := [(3, .ref q9), (0, .ref (a 0)), (1, .int p1), (2, .int p2)]) hx hb dL_moveKey_7 rfl hl (by decide) rfl (fun ls hl => ?_)
        refine lv_sipush (v := (-30000)) hx hb dL_moveKey_8 (by decide) ?_
        obtain ⟨rfl, rfl⟩ := Prod.mk.inj (Option.some.inj hf)
        exact hend _ ls _ _ _ _ _ dL_moveKey_11 rfl hP1 hS1 (Nat.le_of_ble_eq_true rfl) (Nat.le_of_ble_eq_true rfl)
      rw [pz_hE, if_neg h1] at hf
      by_cases h2 : E0 = "java/lang/IllegalArgumentException"
      · subst h2
        rw [pz_hE, if_pos rfl] at hf
        refine pq_catch (E := "java/lang/IllegalArgumentException") S hT hL [((0, 6, 7, 31), "java/util/NoSuchElementException")] (0, 6, 12, 19) [(0, 6, 17, 21)] htab (by decide) (by intro z hz; simp only [List.mem_cons, List.not_mem_nil, or_false] at hz; rcases hz with rfl; exact ⟨by decide, vc_L_31, by decide, by decide⟩) (by decide) (by decide) vc_L_19 hce hcv hcl ?_
        refine lv_astore_n (lv' := [(3, .ref q9), (0, .ref (a 0)), (1, .int p1), (2, .int p2)]) hx hb dL_moveKey_12 rfl hl (by decide) rfl (fun ls hl => ?_)
        refine lv_sipush (v := (-20000)) hx hb dL_moveKey_13 (by decide) ?_
        obtain ⟨rfl, rfl⟩ := Prod.mk.inj (Option.some.inj hf)
        exact hend _ ls _ _ _ _ _ dL_moveKey_16 rfl hP1 hS1 (Nat.le_of_ble_eq_true rfl) (Nat.le_of_ble_eq_true rfl)
      rw [pz_hE, if_neg h2] at hf
      by_cases h3 : E0 = "java/lang/UnsupportedOperationException"
      · subst h3
        rw [pz_hE, if_pos rfl] at hf
        refine pq_catch (E := "java/lang/UnsupportedOperationException") S hT hL [((0, 6, 7, 31), "java/util/NoSuchElementException"), ((0, 6, 12, 19), "java/lang/IllegalArgumentException")] (0, 6, 17, 21) [] htab (by decide) (by intro z hz; simp only [List.mem_cons, List.not_mem_nil, or_false] at hz; rcases hz with rfl | rfl <;> first | exact ⟨by decide, vc_L_31, by decide, by decide⟩ | exact ⟨by decide, vc_L_19, by decide, by decide⟩) (by decide) (by decide) vc_L_21 hce hcv hcl ?_
        refine lv_astore_n (lv' := [(3, .ref q9), (0, .ref (a 0)), (1, .int p1), (2, .int p2)]) hx hb dL_moveKey_17 rfl hl (by decide) rfl (fun ls hl => ?_)
        refine lv_sipush (v := (-10000)) hx hb dL_moveKey_18 (by decide) ?_
        refine lv_aload_n hx hb dL_moveKey_21 rfl (lv_at hl 1 rfl) ?_
        cases hr9 : f_X6_rejectionReason T2 with
        | none => rw [hr9] at hf; cases hf
        | some z =>
          obtain ⟨o9, T3⟩ := z
          rw [hr9] at hf
          rcases o9 with E9 | v9
          · cases hf
          · obtain ⟨rfl, rfl⟩ := Prod.mk.inj (Option.some.inj hf)
            refine pq_cXV S (c_X6_rejectionReason l g a T2 hst (.inr v9) T3 hr9) vv_L_23 hK hT hP1 (pq_adr hD (ad_X6 _ _)) hS1 hA rfl rfl rfl rfl rfl hl.1 (Nat.le_of_ble_eq_true rfl) dL_moveKey_22 (by decide) (by decide) ⟨Nat.le_of_ble_eq_true rfl, Nat.le_of_ble_eq_true rfl⟩ (fun E ce q9 H1 l1 h9 => by cases h9) (fun v8 H2 locs2 hv hk2 hP2 hS2 => ?_)
            obtain rfl : v8 = some (.int v9) := (Sum.inr.inj hv).symm
            show W _ _ _ _ _ _ _ _ _ _ _ _ _ _ _ (F0 _ _ _ [.int v9, .int (-10000)])
            refine lv_isub hx hb dL_moveKey_25 ?_
            exact hend _ ls _ _ _ _ _ dL_moveKey_26 rfl hP2 hS2 (Nat.le_of_ble_eq_true rfl) (Nat.le_of_ble_eq_true rfl)
      rw [pz_hE, if_neg h3] at hf
      cases hf
    · refine pq_cXV S (c_X6_moveKey l g a T p1 p2 hst (.inr v) T2 hfx) vv_L_36 hK hT hP hD hS hA rfl rfl rfl rfl rfl hl.1 (Nat.le_of_ble_eq_true rfl) dL_moveKey_3 (by decide) (by decide) ⟨Nat.le_of_ble_eq_true rfl, Nat.le_of_ble_eq_true rfl⟩ (fun E ce q9 H1 l1 h9 => by cases h9) (fun v9 H1 locs hv hk hP1 hS => ?_)
      obtain rfl : v9 = some (.int v) := (Sum.inr.inj hv).symm
      obtain ⟨rfl, rfl⟩ := Prod.mk.inj (Option.some.inj hf)
      exact hend _ ls _ _ _ _ _ dL_moveKey_6 rfl hP1 hS (Nat.le_of_ble_eq_true rfl) (Nat.le_of_ble_eq_true rfl)
def h_deleteRange (T : MainS) (p1 : Int32) (p2 : Int32) : Option (Int32 × MainS) := pz_h [("java/lang/IllegalArgumentException", some (-20000))] (f_X6_deleteRange T p1 p2)
set_option maxHeartbeats 4000000 in
set_option maxRecDepth 100000 in
theorem c_L_deleteRange (l : Launch) (g : pq_g) (a : Nat → Nat) (T : MainS) (p1 : Int32) (p2 : Int32) (hst : l.stackTraces = false) (r : Int32) (T1 : MainS) (hf : h_deleteRange T p1 p2 = some (r, T1)) : pq_H l yL_deleteRange cL_deleteRange 4 [(0, 6, 7, 19)] 8 1 g (mainW g a T) [.ref (a 0), .int p1, .int p2] r (mainW g a T1) := by
  unfold h_deleteRange at hf
  refine pq_H.of (by decide) rfl (Nat.le_of_ble_eq_true rfl) rfl ?_
  intro p e s m below meth c ls Q A S htab hP hK hD hS hA hT hL hl hend
  obtain ⟨hx, hb, hml, hown, hts⟩ := id S
  refine lv_aload_n hx hb dL_deleteRange_0 rfl (lv_at hl 0 rfl) ?_
  refine lv_iload_n hx hb dL_deleteRange_1 rfl (lv_at hl 1 rfl) ?_
  refine lv_iload_n hx hb dL_deleteRange_2 rfl (lv_at hl 2 rfl) ?_
  cases hfx : f_X6_deleteRange T p1 p2 with
  | none => rw [hfx] at hf; cases hf
  | some z =>
    obtain ⟨o, T2⟩ := z
    rw [hfx] at hf
    rcases o with E0 | v
    · refine pq_cXV S (c_X6_deleteRange l g a T p1 p2 hst (.inl E0) T2 hfx) vv_L_39 hK hT hP hD hS hA rfl rfl rfl rfl rfl hl.1 (Nat.le_of_ble_eq_true rfl) dL_deleteRange_3 (by decide) (by decide) ⟨Nat.le_of_ble_eq_true rfl, Nat.le_of_ble_eq_true rfl⟩ (fun E ce q9 H1 locs1 hE hk hP1 hS1 hce hcv hcl => ?_) (fun v H1 l1 h9 => by cases h9)
      obtain rfl : E0 = E := Sum.inl.inj hE
      replace hf : pz_hE [("java/lang/IllegalArgumentException", some (-20000))] E0 T2 = some (r, T1) := hf
      by_cases h1 : E0 = "java/lang/IllegalArgumentException"
      · subst h1
        rw [pz_hE, if_pos rfl] at hf
        refine pq_catch (E := "java/lang/IllegalArgumentException") S hT hL [] (0, 6, 7, 19) [] htab (by decide) (by intro z hz; cases hz) (by decide) (by decide) vc_L_19 hce hcv hcl ?_
        refine lv_astore_n (lv' := [(3, .ref q9), (0, .ref (a 0)), (1, .int p1), (2, .int p2)]) hx hb dL_deleteRange_7 rfl hl (by decide) rfl (fun ls hl => ?_)
        refine lv_sipush (v := (-20000)) hx hb dL_deleteRange_8 (by decide) ?_
        obtain ⟨rfl, rfl⟩ := Prod.mk.inj (Option.some.inj hf)
        exact hend _ ls _ _ _ _ _ dL_deleteRange_11 rfl hP1 hS1 (Nat.le_of_ble_eq_true rfl) (Nat.le_of_ble_eq_true rfl)
      rw [pz_hE, if_neg h1] at hf
      cases hf
    · refine pq_cXV S (c_X6_deleteRange l g a T p1 p2 hst (.inr v) T2 hfx) vv_L_39 hK hT hP hD hS hA rfl rfl rfl rfl rfl hl.1 (Nat.le_of_ble_eq_true rfl) dL_deleteRange_3 (by decide) (by decide) ⟨Nat.le_of_ble_eq_true rfl, Nat.le_of_ble_eq_true rfl⟩ (fun E ce q9 H1 l1 h9 => by cases h9) (fun v9 H1 locs hv hk hP1 hS => ?_)
      obtain rfl : v9 = some (.int v) := (Sum.inr.inj hv).symm
      obtain ⟨rfl, rfl⟩ := Prod.mk.inj (Option.some.inj hf)
      exact hend _ ls _ _ _ _ _ dL_deleteRange_6 rfl hP1 hS (Nat.le_of_ble_eq_true rfl) (Nat.le_of_ble_eq_true rfl)
def h_setWindow (T : MainS) (p1 : Int32) (p2 : Int32) (p3 : Int32) (p4 : Int32) (p5 : Int32) : Option (Int32 × MainS) := pz_h [("java/lang/IndexOutOfBoundsException", some (-25000)), ("java/lang/IllegalArgumentException", some (-20000)), ("java/lang/UnsupportedOperationException", none)] (f_X6_setWindow T p1 p2 p3 p4 p5)
set_option maxHeartbeats 4000000 in
set_option maxRecDepth 100000 in
theorem c_L_setWindow (l : Launch) (g : pq_g) (a : Nat → Nat) (T : MainS) (p1 : Int32) (p2 : Int32) (p3 : Int32) (p4 : Int32) (p5 : Int32) (hst : l.stackTraces = false) (r : Int32) (T1 : MainS) (hf : h_setWindow T p1 p2 p3 p4 p5 = some (r, T1)) : pq_H l yL_setWindow cL_setWindow 7 [(0, 11, 12, 46), (0, 11, 18, 19), (0, 11, 24, 21)] 8 6 g (mainW g a T) [.ref (a 0), .int p1, .int p2, .int p3, .int p4, .int p5] r (mainW g a T1) := by
  unfold h_setWindow at hf
  refine pq_H.of (by decide) rfl (Nat.le_of_ble_eq_true rfl) rfl ?_
  intro p e s m below meth c ls Q A S htab hP hK hD hS hA hT hL hl hend
  obtain ⟨hx, hb, hml, hown, hts⟩ := id S
  refine lv_aload_n hx hb dL_setWindow_0 rfl (lv_at hl 0 rfl) ?_
  refine lv_iload_n hx hb dL_setWindow_1 rfl (lv_at hl 1 rfl) ?_
  refine lv_iload_n hx hb dL_setWindow_2 rfl (lv_at hl 2 rfl) ?_
  refine lv_iload_n hx hb dL_setWindow_3 rfl (lv_at hl 3 rfl) ?_
  refine lv_iload hx hb dL_setWindow_4 (lv_at hl 4 rfl) ?_
  refine lv_iload hx hb dL_setWindow_6 (lv_at hl 5 rfl) ?_
  cases hfx : f_X6_setWindow T p1 p2 p3 p4 p5 with
  | none => rw [hfx] at hf; cases hf
  | some z =>
    obtain ⟨o, T2⟩ := z
    rw [hfx] at hf
    rcases o with E0 | v
    · refine pq_cXV S (c_X6_setWindow l g a T p1 p2 p3 p4 p5 hst (.inl E0) T2 hfx) vv_L_42 hK hT hP hD hS hA rfl rfl rfl rfl rfl hl.1 (Nat.le_of_ble_eq_true rfl) dL_setWindow_8 (by decide) (by decide) ⟨Nat.le_of_ble_eq_true rfl, Nat.le_of_ble_eq_true rfl⟩ (fun E ce q9 H1 locs1 hE hk hP1 hS1 hce hcv hcl => ?_) (fun v H1 l1 h9 => by cases h9)
      obtain rfl : E0 = E := Sum.inl.inj hE
      replace hf : pz_hE [("java/lang/IndexOutOfBoundsException", some (-25000)), ("java/lang/IllegalArgumentException", some (-20000)), ("java/lang/UnsupportedOperationException", none)] E0 T2 = some (r, T1) := hf
      by_cases h1 : E0 = "java/lang/IndexOutOfBoundsException"
      · subst h1
        rw [pz_hE, if_pos rfl] at hf
        refine pq_catch (E := "java/lang/IndexOutOfBoundsException") S hT hL [] (0, 11, 12, 46) [(0, 11, 18, 19), (0, 11, 24, 21)] htab (by decide) (by intro z hz; cases hz) (by decide) (by decide) vc_L_46 hce hcv hcl ?_
        refine lv_astore (lv' := [(6, .ref q9), (0, .ref (a 0)), (1, .int p1), (2, .int p2), (3, .int p3), (4, .int p4), (5, .int p5)]) hx hb dL_setWindow_12 hl (by decide) rfl (fun ls hl => ?_)
        refine lv_sipush (v := (-25000)) hx hb dL_setWindow_14 (by decide) ?_
        obtain ⟨rfl, rfl⟩ := Prod.mk.inj (Option.some.inj hf)
        exact hend _ ls _ _ _ _ _ dL_setWindow_17 rfl hP1 hS1 (Nat.le_of_ble_eq_true rfl) (Nat.le_of_ble_eq_true rfl)
      rw [pz_hE, if_neg h1] at hf
      by_cases h2 : E0 = "java/lang/IllegalArgumentException"
      · subst h2
        rw [pz_hE, if_pos rfl] at hf
        refine pq_catch (E := "java/lang/IllegalArgumentException") S hT hL [((0, 11, 12, 46), "java/lang/IndexOutOfBoundsException")] (0, 11, 18, 19) [(0, 11, 24, 21)] htab (by decide) (by intro z hz; simp only [List.mem_cons, List.not_mem_nil, or_false] at hz; rcases hz with rfl; exact ⟨by decide, vc_L_46, by decide, by decide⟩) (by decide) (by decide) vc_L_19 hce hcv hcl ?_
        refine lv_astore (lv' := [(6, .ref q9), (0, .ref (a 0)), (1, .int p1), (2, .int p2), (3, .int p3), (4, .int p4), (5, .int p5)]) hx hb dL_setWindow_18 hl (by decide) rfl (fun ls hl => ?_)
        refine lv_sipush (v := (-20000)) hx hb dL_setWindow_20 (by decide) ?_
        obtain ⟨rfl, rfl⟩ := Prod.mk.inj (Option.some.inj hf)
        exact hend _ ls _ _ _ _ _ dL_setWindow_23 rfl hP1 hS1 (Nat.le_of_ble_eq_true rfl) (Nat.le_of_ble_eq_true rfl)
      rw [pz_hE, if_neg h2] at hf
      by_cases h3 : E0 = "java/lang/UnsupportedOperationException"
      · subst h3
        rw [pz_hE, if_pos rfl] at hf
        refine pq_catch (E := "java/lang/UnsupportedOperationException") S hT hL [((0, 11, 12, 46), "java/lang/IndexOutOfBoundsException"), ((0, 11, 18, 19), "java/lang/IllegalArgumentException")] (0, 11, 24, 21) [] htab (by decide) (by intro z hz; simp only [List.mem_cons, List.not_mem_nil, or_false] at hz; rcases hz with rfl | rfl <;> first | exact ⟨by decide, vc_L_46, by decide, by decide⟩ | exact ⟨by decide, vc_L_19, by decide, by decide⟩) (by decide) (by decide) vc_L_21 hce hcv hcl ?_
        refine lv_astore (lv' := [(6, .ref q9), (0, .ref (a 0)), (1, .int p1), (2, .int p2), (3, .int p3), (4, .int p4), (5, .int p5)]) hx hb dL_setWindow_24 hl (by decide) rfl (fun ls hl => ?_)
        refine lv_sipush (v := (-10000)) hx hb dL_setWindow_26 (by decide) ?_
        refine lv_aload_n hx hb dL_setWindow_29 rfl (lv_at hl 1 rfl) ?_
        cases hr9 : f_X6_rejectionReason T2 with
        | none => rw [hr9] at hf; cases hf
        | some z =>
          obtain ⟨o9, T3⟩ := z
          rw [hr9] at hf
          rcases o9 with E9 | v9
          · cases hf
          · obtain ⟨rfl, rfl⟩ := Prod.mk.inj (Option.some.inj hf)
            refine pq_cXV S (c_X6_rejectionReason l g a T2 hst (.inr v9) T3 hr9) vv_L_23 hK hT hP1 (pq_adr hD (ad_X6 _ _)) hS1 hA rfl rfl rfl rfl rfl hl.1 (Nat.le_of_ble_eq_true rfl) dL_setWindow_30 (by decide) (by decide) ⟨Nat.le_of_ble_eq_true rfl, Nat.le_of_ble_eq_true rfl⟩ (fun E ce q9 H1 l1 h9 => by cases h9) (fun v8 H2 locs2 hv hk2 hP2 hS2 => ?_)
            obtain rfl : v8 = some (.int v9) := (Sum.inr.inj hv).symm
            show W _ _ _ _ _ _ _ _ _ _ _ _ _ _ _ (F0 _ _ _ [.int v9, .int (-10000)])
            refine lv_isub hx hb dL_setWindow_33 ?_
            exact hend _ ls _ _ _ _ _ dL_setWindow_34 rfl hP2 hS2 (Nat.le_of_ble_eq_true rfl) (Nat.le_of_ble_eq_true rfl)
      rw [pz_hE, if_neg h3] at hf
      cases hf
    · refine pq_cXV S (c_X6_setWindow l g a T p1 p2 p3 p4 p5 hst (.inr v) T2 hfx) vv_L_42 hK hT hP hD hS hA rfl rfl rfl rfl rfl hl.1 (Nat.le_of_ble_eq_true rfl) dL_setWindow_8 (by decide) (by decide) ⟨Nat.le_of_ble_eq_true rfl, Nat.le_of_ble_eq_true rfl⟩ (fun E ce q9 H1 l1 h9 => by cases h9) (fun v9 H1 locs hv hk hP1 hS => ?_)
      obtain rfl : v9 = some (.int v) := (Sum.inr.inj hv).symm
      obtain ⟨rfl, rfl⟩ := Prod.mk.inj (Option.some.inj hf)
      exact hend _ ls _ _ _ _ _ dL_setWindow_11 rfl hP1 hS (Nat.le_of_ble_eq_true rfl) (Nat.le_of_ble_eq_true rfl)
def h_removeWindow (T : MainS) (p1 : Int32) : Option (Int32 × MainS) := pz_h [("java/lang/IndexOutOfBoundsException", some (-25000)), ("java/util/NoSuchElementException", some (-30000))] (f_X6_removeWindow T p1)
set_option maxHeartbeats 4000000 in
set_option maxRecDepth 100000 in
theorem c_L_removeWindow (l : Launch) (g : pq_g) (a : Nat → Nat) (T : MainS) (p1 : Int32) (hst : l.stackTraces = false) (r : Int32) (T1 : MainS) (hf : h_removeWindow T p1 = some (r, T1)) : pq_H l yL_removeWindow cL_removeWindow 3 [(0, 5, 6, 46), (0, 5, 11, 31)] 9 2 g (mainW g a T) [.ref (a 0), .int p1] r (mainW g a T1) := by
  unfold h_removeWindow at hf
  refine pq_H.of (by decide) rfl (Nat.le_of_ble_eq_true rfl) rfl ?_
  intro p e s m below meth c ls Q A S htab hP hK hD hS hA hT hL hl hend
  obtain ⟨hx, hb, hml, hown, hts⟩ := id S
  refine lv_aload_n hx hb dL_removeWindow_0 rfl (lv_at hl 0 rfl) ?_
  refine lv_iload_n hx hb dL_removeWindow_1 rfl (lv_at hl 1 rfl) ?_
  cases hfx : f_X6_removeWindow T p1 with
  | none => rw [hfx] at hf; cases hf
  | some z =>
    obtain ⟨o, T2⟩ := z
    rw [hfx] at hf
    rcases o with E0 | v
    · refine pq_cXV S (c_X6_removeWindow l g a T p1 hst (.inl E0) T2 hfx) vv_L_48 hK hT hP hD hS hA rfl rfl rfl rfl rfl hl.1 (Nat.le_of_ble_eq_true rfl) dL_removeWindow_2 (by decide) (by decide) ⟨Nat.le_of_ble_eq_true rfl, Nat.le_of_ble_eq_true rfl⟩ (fun E ce q9 H1 locs1 hE hk hP1 hS1 hce hcv hcl => ?_) (fun v H1 l1 h9 => by cases h9)
      obtain rfl : E0 = E := Sum.inl.inj hE
      replace hf : pz_hE [("java/lang/IndexOutOfBoundsException", some (-25000)), ("java/util/NoSuchElementException", some (-30000))] E0 T2 = some (r, T1) := hf
      by_cases h1 : E0 = "java/lang/IndexOutOfBoundsException"
      · subst h1
        rw [pz_hE, if_pos rfl] at hf
        refine pq_catch (E := "java/lang/IndexOutOfBoundsException") S hT hL [] (0, 5, 6, 46) [(0, 5, 11, 31)] htab (by decide) (by intro z hz; cases hz) (by decide) (by decide) vc_L_46 hce hcv hcl ?_
        refine lv_astore_n (lv' := [(2, .ref q9), (0, .ref (a 0)), (1, .int p1)]) hx hb dL_removeWindow_6 rfl hl (by decide) rfl (fun ls hl => ?_)
        refine lv_sipush (v := (-25000)) hx hb dL_removeWindow_7 (by decide) ?_
        obtain ⟨rfl, rfl⟩ := Prod.mk.inj (Option.some.inj hf)
        exact hend _ ls _ _ _ _ _ dL_removeWindow_10 rfl hP1 hS1 (Nat.le_of_ble_eq_true rfl) (Nat.le_of_ble_eq_true rfl)
      rw [pz_hE, if_neg h1] at hf
      by_cases h2 : E0 = "java/util/NoSuchElementException"
      · subst h2
        rw [pz_hE, if_pos rfl] at hf
        refine pq_catch (E := "java/util/NoSuchElementException") S hT hL [((0, 5, 6, 46), "java/lang/IndexOutOfBoundsException")] (0, 5, 11, 31) [] htab (by decide) (by intro z hz; simp only [List.mem_cons, List.not_mem_nil, or_false] at hz; rcases hz with rfl; exact ⟨by decide, vc_L_46, by decide, by decide⟩) (by decide) (by decide) vc_L_31 hce hcv hcl ?_
        refine lv_astore_n (lv' := [(2, .ref q9), (0, .ref (a 0)), (1, .int p1)]) hx hb dL_removeWindow_11 rfl hl (by decide) rfl (fun ls hl => ?_)
        refine lv_sipush (v := (-30000)) hx hb dL_removeWindow_12 (by decide) ?_
        obtain ⟨rfl, rfl⟩ := Prod.mk.inj (Option.some.inj hf)
        exact hend _ ls _ _ _ _ _ dL_removeWindow_15 rfl hP1 hS1 (Nat.le_of_ble_eq_true rfl) (Nat.le_of_ble_eq_true rfl)
      rw [pz_hE, if_neg h2] at hf
      cases hf
    · refine pq_cXV S (c_X6_removeWindow l g a T p1 hst (.inr v) T2 hfx) vv_L_48 hK hT hP hD hS hA rfl rfl rfl rfl rfl hl.1 (Nat.le_of_ble_eq_true rfl) dL_removeWindow_2 (by decide) (by decide) ⟨Nat.le_of_ble_eq_true rfl, Nat.le_of_ble_eq_true rfl⟩ (fun E ce q9 H1 l1 h9 => by cases h9) (fun v9 H1 locs hv hk hP1 hS => ?_)
      obtain rfl : v9 = some (.int v) := (Sum.inr.inj hv).symm
      obtain ⟨rfl, rfl⟩ := Prod.mk.inj (Option.some.inj hf)
      exact hend _ ls _ _ _ _ _ dL_removeWindow_5 rfl hP1 hS (Nat.le_of_ble_eq_true rfl) (Nat.le_of_ble_eq_true rfl)
def h_pointsInWindow (T : MainS) (p1 : Int32) : Option (Int32 × MainS) := pz_h [("java/lang/IndexOutOfBoundsException", some (-25000)), ("java/util/NoSuchElementException", some (-30000))] (f_X6_pointsInWindow T p1)
set_option maxHeartbeats 4000000 in
set_option maxRecDepth 100000 in
theorem c_L_pointsInWindow (l : Launch) (g : pq_g) (a : Nat → Nat) (T : MainS) (p1 : Int32) (hst : l.stackTraces = false) (r : Int32) (T1 : MainS) (hf : h_pointsInWindow T p1 = some (r, T1)) : pq_H l yL_pointsInWindow cL_pointsInWindow 3 [(0, 5, 6, 46), (0, 5, 11, 31)] 9 2 g (mainW g a T) [.ref (a 0), .int p1] r (mainW g a T1) := by
  unfold h_pointsInWindow at hf
  refine pq_H.of (by decide) rfl (Nat.le_of_ble_eq_true rfl) rfl ?_
  intro p e s m below meth c ls Q A S htab hP hK hD hS hA hT hL hl hend
  obtain ⟨hx, hb, hml, hown, hts⟩ := id S
  refine lv_aload_n hx hb dL_pointsInWindow_0 rfl (lv_at hl 0 rfl) ?_
  refine lv_iload_n hx hb dL_pointsInWindow_1 rfl (lv_at hl 1 rfl) ?_
  cases hfx : f_X6_pointsInWindow T p1 with
  | none => rw [hfx] at hf; cases hf
  | some z =>
    obtain ⟨o, T2⟩ := z
    rw [hfx] at hf
    rcases o with E0 | v
    · refine pq_cXV S (c_X6_pointsInWindow l g a T p1 hst (.inl E0) T2 hfx) vv_L_51 hK hT hP hD hS hA rfl rfl rfl rfl rfl hl.1 (Nat.le_of_ble_eq_true rfl) dL_pointsInWindow_2 (by decide) (by decide) ⟨Nat.le_of_ble_eq_true rfl, Nat.le_of_ble_eq_true rfl⟩ (fun E ce q9 H1 locs1 hE hk hP1 hS1 hce hcv hcl => ?_) (fun v H1 l1 h9 => by cases h9)
      obtain rfl : E0 = E := Sum.inl.inj hE
      replace hf : pz_hE [("java/lang/IndexOutOfBoundsException", some (-25000)), ("java/util/NoSuchElementException", some (-30000))] E0 T2 = some (r, T1) := hf
      by_cases h1 : E0 = "java/lang/IndexOutOfBoundsException"
      · subst h1
        rw [pz_hE, if_pos rfl] at hf
        refine pq_catch (E := "java/lang/IndexOutOfBoundsException") S hT hL [] (0, 5, 6, 46) [(0, 5, 11, 31)] htab (by decide) (by intro z hz; cases hz) (by decide) (by decide) vc_L_46 hce hcv hcl ?_
        refine lv_astore_n (lv' := [(2, .ref q9), (0, .ref (a 0)), (1, .int p1)]) hx hb dL_pointsInWindow_6 rfl hl (by decide) rfl (fun ls hl => ?_)
        refine lv_sipush (v := (-25000)) hx hb dL_pointsInWindow_7 (by decide) ?_
        obtain ⟨rfl, rfl⟩ := Prod.mk.inj (Option.some.inj hf)
        exact hend _ ls _ _ _ _ _ dL_pointsInWindow_10 rfl hP1 hS1 (Nat.le_of_ble_eq_true rfl) (Nat.le_of_ble_eq_true rfl)
      rw [pz_hE, if_neg h1] at hf
      by_cases h2 : E0 = "java/util/NoSuchElementException"
      · subst h2
        rw [pz_hE, if_pos rfl] at hf
        refine pq_catch (E := "java/util/NoSuchElementException") S hT hL [((0, 5, 6, 46), "java/lang/IndexOutOfBoundsException")] (0, 5, 11, 31) [] htab (by decide) (by intro z hz; simp only [List.mem_cons, List.not_mem_nil, or_false] at hz; rcases hz with rfl; exact ⟨by decide, vc_L_46, by decide, by decide⟩) (by decide) (by decide) vc_L_31 hce hcv hcl ?_
        refine lv_astore_n (lv' := [(2, .ref q9), (0, .ref (a 0)), (1, .int p1)]) hx hb dL_pointsInWindow_11 rfl hl (by decide) rfl (fun ls hl => ?_)
        refine lv_sipush (v := (-30000)) hx hb dL_pointsInWindow_12 (by decide) ?_
        obtain ⟨rfl, rfl⟩ := Prod.mk.inj (Option.some.inj hf)
        exact hend _ ls _ _ _ _ _ dL_pointsInWindow_15 rfl hP1 hS1 (Nat.le_of_ble_eq_true rfl) (Nat.le_of_ble_eq_true rfl)
      rw [pz_hE, if_neg h2] at hf
      cases hf
    · refine pq_cXV S (c_X6_pointsInWindow l g a T p1 hst (.inr v) T2 hfx) vv_L_51 hK hT hP hD hS hA rfl rfl rfl rfl rfl hl.1 (Nat.le_of_ble_eq_true rfl) dL_pointsInWindow_2 (by decide) (by decide) ⟨Nat.le_of_ble_eq_true rfl, Nat.le_of_ble_eq_true rfl⟩ (fun E ce q9 H1 l1 h9 => by cases h9) (fun v9 H1 locs hv hk hP1 hS => ?_)
      obtain rfl : v9 = some (.int v) := (Sum.inr.inj hv).symm
      obtain ⟨rfl, rfl⟩ := Prod.mk.inj (Option.some.inj hf)
      exact hend _ ls _ _ _ _ _ dL_pointsInWindow_5 rfl hP1 hS (Nat.le_of_ble_eq_true rfl) (Nat.le_of_ble_eq_true rfl)
def h_windowKeyAt (T : MainS) (p1 : Int32) (p2 : Int32) : Option (Int32 × MainS) := pz_h [("java/lang/IndexOutOfBoundsException", some (-25000)), ("java/util/NoSuchElementException", some (-30000))] (f_X6_windowKeyAt T p1 p2)
set_option maxHeartbeats 4000000 in
set_option maxRecDepth 100000 in
theorem c_L_windowKeyAt (l : Launch) (g : pq_g) (a : Nat → Nat) (T : MainS) (p1 : Int32) (p2 : Int32) (hst : l.stackTraces = false) (r : Int32) (T1 : MainS) (hf : h_windowKeyAt T p1 p2 = some (r, T1)) : pq_H l yL_windowKeyAt cL_windowKeyAt 4 [(0, 6, 7, 46), (0, 6, 12, 31)] 9 3 g (mainW g a T) [.ref (a 0), .int p1, .int p2] r (mainW g a T1) := by
  unfold h_windowKeyAt at hf
  refine pq_H.of (by decide) rfl (Nat.le_of_ble_eq_true rfl) rfl ?_
  intro p e s m below meth c ls Q A S htab hP hK hD hS hA hT hL hl hend
  obtain ⟨hx, hb, hml, hown, hts⟩ := id S
  refine lv_aload_n hx hb dL_windowKeyAt_0 rfl (lv_at hl 0 rfl) ?_
  refine lv_iload_n hx hb dL_windowKeyAt_1 rfl (lv_at hl 1 rfl) ?_
  refine lv_iload_n hx hb dL_windowKeyAt_2 rfl (lv_at hl 2 rfl) ?_
  cases hfx : f_X6_windowKeyAt T p1 p2 with
  | none => rw [hfx] at hf; cases hf
  | some z =>
    obtain ⟨o, T2⟩ := z
    rw [hfx] at hf
    rcases o with E0 | v
    · refine pq_cXV S (c_X6_windowKeyAt l g a T p1 p2 hst (.inl E0) T2 hfx) vv_L_54 hK hT hP hD hS hA rfl rfl rfl rfl rfl hl.1 (Nat.le_of_ble_eq_true rfl) dL_windowKeyAt_3 (by decide) (by decide) ⟨Nat.le_of_ble_eq_true rfl, Nat.le_of_ble_eq_true rfl⟩ (fun E ce q9 H1 locs1 hE hk hP1 hS1 hce hcv hcl => ?_) (fun v H1 l1 h9 => by cases h9)
      obtain rfl : E0 = E := Sum.inl.inj hE
      replace hf : pz_hE [("java/lang/IndexOutOfBoundsException", some (-25000)), ("java/util/NoSuchElementException", some (-30000))] E0 T2 = some (r, T1) := hf
      by_cases h1 : E0 = "java/lang/IndexOutOfBoundsException"
      · subst h1
        rw [pz_hE, if_pos rfl] at hf
        refine pq_catch (E := "java/lang/IndexOutOfBoundsException") S hT hL [] (0, 6, 7, 46) [(0, 6, 12, 31)] htab (by decide) (by intro z hz; cases hz) (by decide) (by decide) vc_L_46 hce hcv hcl ?_
        refine lv_astore_n (lv' := [(3, .ref q9), (0, .ref (a 0)), (1, .int p1), (2, .int p2)]) hx hb dL_windowKeyAt_7 rfl hl (by decide) rfl (fun ls hl => ?_)
        refine lv_sipush (v := (-25000)) hx hb dL_windowKeyAt_8 (by decide) ?_
        obtain ⟨rfl, rfl⟩ := Prod.mk.inj (Option.some.inj hf)
        exact hend _ ls _ _ _ _ _ dL_windowKeyAt_11 rfl hP1 hS1 (Nat.le_of_ble_eq_true rfl) (Nat.le_of_ble_eq_true rfl)
      rw [pz_hE, if_neg h1] at hf
      by_cases h2 : E0 = "java/util/NoSuchElementException"
      · subst h2
        rw [pz_hE, if_pos rfl] at hf
        refine pq_catch (E := "java/util/NoSuchElementException") S hT hL [((0, 6, 7, 46), "java/lang/IndexOutOfBoundsException")] (0, 6, 12, 31) [] htab (by decide) (by intro z hz; simp only [List.mem_cons, List.not_mem_nil, or_false] at hz; rcases hz with rfl; exact ⟨by decide, vc_L_46, by decide, by decide⟩) (by decide) (by decide) vc_L_31 hce hcv hcl ?_
        refine lv_astore_n (lv' := [(3, .ref q9), (0, .ref (a 0)), (1, .int p1), (2, .int p2)]) hx hb dL_windowKeyAt_12 rfl hl (by decide) rfl (fun ls hl => ?_)
        refine lv_sipush (v := (-30000)) hx hb dL_windowKeyAt_13 (by decide) ?_
        obtain ⟨rfl, rfl⟩ := Prod.mk.inj (Option.some.inj hf)
        exact hend _ ls _ _ _ _ _ dL_windowKeyAt_16 rfl hP1 hS1 (Nat.le_of_ble_eq_true rfl) (Nat.le_of_ble_eq_true rfl)
      rw [pz_hE, if_neg h2] at hf
      cases hf
    · refine pq_cXV S (c_X6_windowKeyAt l g a T p1 p2 hst (.inr v) T2 hfx) vv_L_54 hK hT hP hD hS hA rfl rfl rfl rfl rfl hl.1 (Nat.le_of_ble_eq_true rfl) dL_windowKeyAt_3 (by decide) (by decide) ⟨Nat.le_of_ble_eq_true rfl, Nat.le_of_ble_eq_true rfl⟩ (fun E ce q9 H1 l1 h9 => by cases h9) (fun v9 H1 locs hv hk hP1 hS => ?_)
      obtain rfl : v9 = some (.int v) := (Sum.inr.inj hv).symm
      obtain ⟨rfl, rfl⟩ := Prod.mk.inj (Option.some.inj hf)
      exact hend _ ls _ _ _ _ _ dL_windowKeyAt_6 rfl hP1 hS (Nat.le_of_ble_eq_true rfl) (Nat.le_of_ble_eq_true rfl)
def h_floorKey (T : MainS) (p1 : Int32) : Option (Int32 × MainS) := pz_h [("java/util/NoSuchElementException", some (-30000))] (f_X6_floorKey T p1)
set_option maxHeartbeats 4000000 in
set_option maxRecDepth 100000 in
theorem c_L_floorKey (l : Launch) (g : pq_g) (a : Nat → Nat) (T : MainS) (p1 : Int32) (hst : l.stackTraces = false) (r : Int32) (T1 : MainS) (hf : h_floorKey T p1 = some (r, T1)) : pq_H l yL_floorKey cL_floorKey 3 [(0, 5, 6, 31)] 8 1 g (mainW g a T) [.ref (a 0), .int p1] r (mainW g a T1) := by
  unfold h_floorKey at hf
  refine pq_H.of (by decide) rfl (Nat.le_of_ble_eq_true rfl) rfl ?_
  intro p e s m below meth c ls Q A S htab hP hK hD hS hA hT hL hl hend
  obtain ⟨hx, hb, hml, hown, hts⟩ := id S
  refine lv_aload_n hx hb dL_floorKey_0 rfl (lv_at hl 0 rfl) ?_
  refine lv_iload_n hx hb dL_floorKey_1 rfl (lv_at hl 1 rfl) ?_
  cases hfx : f_X6_floorKey T p1 with
  | none => rw [hfx] at hf; cases hf
  | some z =>
    obtain ⟨o, T2⟩ := z
    rw [hfx] at hf
    rcases o with E0 | v
    · refine pq_cXV S (c_X6_floorKey l g a T p1 hst (.inl E0) T2 hfx) vv_L_57 hK hT hP hD hS hA rfl rfl rfl rfl rfl hl.1 (Nat.le_of_ble_eq_true rfl) dL_floorKey_2 (by decide) (by decide) ⟨Nat.le_of_ble_eq_true rfl, Nat.le_of_ble_eq_true rfl⟩ (fun E ce q9 H1 locs1 hE hk hP1 hS1 hce hcv hcl => ?_) (fun v H1 l1 h9 => by cases h9)
      obtain rfl : E0 = E := Sum.inl.inj hE
      replace hf : pz_hE [("java/util/NoSuchElementException", some (-30000))] E0 T2 = some (r, T1) := hf
      by_cases h1 : E0 = "java/util/NoSuchElementException"
      · subst h1
        rw [pz_hE, if_pos rfl] at hf
        refine pq_catch (E := "java/util/NoSuchElementException") S hT hL [] (0, 5, 6, 31) [] htab (by decide) (by intro z hz; cases hz) (by decide) (by decide) vc_L_31 hce hcv hcl ?_
        refine lv_astore_n (lv' := [(2, .ref q9), (0, .ref (a 0)), (1, .int p1)]) hx hb dL_floorKey_6 rfl hl (by decide) rfl (fun ls hl => ?_)
        refine lv_sipush (v := (-30000)) hx hb dL_floorKey_7 (by decide) ?_
        obtain ⟨rfl, rfl⟩ := Prod.mk.inj (Option.some.inj hf)
        exact hend _ ls _ _ _ _ _ dL_floorKey_10 rfl hP1 hS1 (Nat.le_of_ble_eq_true rfl) (Nat.le_of_ble_eq_true rfl)
      rw [pz_hE, if_neg h1] at hf
      cases hf
    · refine pq_cXV S (c_X6_floorKey l g a T p1 hst (.inr v) T2 hfx) vv_L_57 hK hT hP hD hS hA rfl rfl rfl rfl rfl hl.1 (Nat.le_of_ble_eq_true rfl) dL_floorKey_2 (by decide) (by decide) ⟨Nat.le_of_ble_eq_true rfl, Nat.le_of_ble_eq_true rfl⟩ (fun E ce q9 H1 l1 h9 => by cases h9) (fun v9 H1 locs hv hk hP1 hS => ?_)
      obtain rfl : v9 = some (.int v) := (Sum.inr.inj hv).symm
      obtain ⟨rfl, rfl⟩ := Prod.mk.inj (Option.some.inj hf)
      exact hend _ ls _ _ _ _ _ dL_floorKey_5 rfl hP1 hS (Nat.le_of_ble_eq_true rfl) (Nat.le_of_ble_eq_true rfl)
def h_ceilingKey (T : MainS) (p1 : Int32) : Option (Int32 × MainS) := pz_h [("java/util/NoSuchElementException", some (-30000))] (f_X6_ceilingKey T p1)
set_option maxHeartbeats 4000000 in
set_option maxRecDepth 100000 in
theorem c_L_ceilingKey (l : Launch) (g : pq_g) (a : Nat → Nat) (T : MainS) (p1 : Int32) (hst : l.stackTraces = false) (r : Int32) (T1 : MainS) (hf : h_ceilingKey T p1 = some (r, T1)) : pq_H l yL_ceilingKey cL_ceilingKey 3 [(0, 5, 6, 31)] 8 1 g (mainW g a T) [.ref (a 0), .int p1] r (mainW g a T1) := by
  unfold h_ceilingKey at hf
  refine pq_H.of (by decide) rfl (Nat.le_of_ble_eq_true rfl) rfl ?_
  intro p e s m below meth c ls Q A S htab hP hK hD hS hA hT hL hl hend
  obtain ⟨hx, hb, hml, hown, hts⟩ := id S
  refine lv_aload_n hx hb dL_ceilingKey_0 rfl (lv_at hl 0 rfl) ?_
  refine lv_iload_n hx hb dL_ceilingKey_1 rfl (lv_at hl 1 rfl) ?_
  cases hfx : f_X6_ceilingKey T p1 with
  | none => rw [hfx] at hf; cases hf
  | some z =>
    obtain ⟨o, T2⟩ := z
    rw [hfx] at hf
    rcases o with E0 | v
    · refine pq_cXV S (c_X6_ceilingKey l g a T p1 hst (.inl E0) T2 hfx) vv_L_60 hK hT hP hD hS hA rfl rfl rfl rfl rfl hl.1 (Nat.le_of_ble_eq_true rfl) dL_ceilingKey_2 (by decide) (by decide) ⟨Nat.le_of_ble_eq_true rfl, Nat.le_of_ble_eq_true rfl⟩ (fun E ce q9 H1 locs1 hE hk hP1 hS1 hce hcv hcl => ?_) (fun v H1 l1 h9 => by cases h9)
      obtain rfl : E0 = E := Sum.inl.inj hE
      replace hf : pz_hE [("java/util/NoSuchElementException", some (-30000))] E0 T2 = some (r, T1) := hf
      by_cases h1 : E0 = "java/util/NoSuchElementException"
      · subst h1
        rw [pz_hE, if_pos rfl] at hf
        refine pq_catch (E := "java/util/NoSuchElementException") S hT hL [] (0, 5, 6, 31) [] htab (by decide) (by intro z hz; cases hz) (by decide) (by decide) vc_L_31 hce hcv hcl ?_
        refine lv_astore_n (lv' := [(2, .ref q9), (0, .ref (a 0)), (1, .int p1)]) hx hb dL_ceilingKey_6 rfl hl (by decide) rfl (fun ls hl => ?_)
        refine lv_sipush (v := (-30000)) hx hb dL_ceilingKey_7 (by decide) ?_
        obtain ⟨rfl, rfl⟩ := Prod.mk.inj (Option.some.inj hf)
        exact hend _ ls _ _ _ _ _ dL_ceilingKey_10 rfl hP1 hS1 (Nat.le_of_ble_eq_true rfl) (Nat.le_of_ble_eq_true rfl)
      rw [pz_hE, if_neg h1] at hf
      cases hf
    · refine pq_cXV S (c_X6_ceilingKey l g a T p1 hst (.inr v) T2 hfx) vv_L_60 hK hT hP hD hS hA rfl rfl rfl rfl rfl hl.1 (Nat.le_of_ble_eq_true rfl) dL_ceilingKey_2 (by decide) (by decide) ⟨Nat.le_of_ble_eq_true rfl, Nat.le_of_ble_eq_true rfl⟩ (fun E ce q9 H1 l1 h9 => by cases h9) (fun v9 H1 locs hv hk hP1 hS => ?_)
      obtain rfl : v9 = some (.int v) := (Sum.inr.inj hv).symm
      obtain ⟨rfl, rfl⟩ := Prod.mk.inj (Option.some.inj hf)
      exact hend _ ls _ _ _ _ _ dL_ceilingKey_5 rfl hP1 hS (Nat.le_of_ble_eq_true rfl) (Nat.le_of_ble_eq_true rfl)
def h_nearestKey (T : MainS) (p1 : Int32) : Option (Int32 × MainS) := pz_h [("java/lang/IllegalArgumentException", some (-20000)), ("java/util/NoSuchElementException", some (-30000))] (f_X6_nearestKey T p1)
set_option maxHeartbeats 4000000 in
set_option maxRecDepth 100000 in
theorem c_L_nearestKey (l : Launch) (g : pq_g) (a : Nat → Nat) (T : MainS) (p1 : Int32) (hst : l.stackTraces = false) (r : Int32) (T1 : MainS) (hf : h_nearestKey T p1 = some (r, T1)) : pq_H l yL_nearestKey cL_nearestKey 3 [(0, 5, 6, 19), (0, 5, 11, 31)] 8 2 g (mainW g a T) [.ref (a 0), .int p1] r (mainW g a T1) := by
  unfold h_nearestKey at hf
  refine pq_H.of (by decide) rfl (Nat.le_of_ble_eq_true rfl) rfl ?_
  intro p e s m below meth c ls Q A S htab hP hK hD hS hA hT hL hl hend
  obtain ⟨hx, hb, hml, hown, hts⟩ := id S
  refine lv_aload_n hx hb dL_nearestKey_0 rfl (lv_at hl 0 rfl) ?_
  refine lv_iload_n hx hb dL_nearestKey_1 rfl (lv_at hl 1 rfl) ?_
  cases hfx : f_X6_nearestKey T p1 with
  | none => rw [hfx] at hf; cases hf
  | some z =>
    obtain ⟨o, T2⟩ := z
    rw [hfx] at hf
    rcases o with E0 | v
    · refine pq_cXV S (c_X6_nearestKey l g a T p1 hst (.inl E0) T2 hfx) vv_L_63 hK hT hP hD hS hA rfl rfl rfl rfl rfl hl.1 (Nat.le_of_ble_eq_true rfl) dL_nearestKey_2 (by decide) (by decide) ⟨Nat.le_of_ble_eq_true rfl, Nat.le_of_ble_eq_true rfl⟩ (fun E ce q9 H1 locs1 hE hk hP1 hS1 hce hcv hcl => ?_) (fun v H1 l1 h9 => by cases h9)
      obtain rfl : E0 = E := Sum.inl.inj hE
      replace hf : pz_hE [("java/lang/IllegalArgumentException", some (-20000)), ("java/util/NoSuchElementException", some (-30000))] E0 T2 = some (r, T1) := hf
      by_cases h1 : E0 = "java/lang/IllegalArgumentException"
      · subst h1
        rw [pz_hE, if_pos rfl] at hf
        refine pq_catch (E := "java/lang/IllegalArgumentException") S hT hL [] (0, 5, 6, 19) [(0, 5, 11, 31)] htab (by decide) (by intro z hz; cases hz) (by decide) (by decide) vc_L_19 hce hcv hcl ?_
        refine lv_astore_n (lv' := [(2, .ref q9), (0, .ref (a 0)), (1, .int p1)]) hx hb dL_nearestKey_6 rfl hl (by decide) rfl (fun ls hl => ?_)
        refine lv_sipush (v := (-20000)) hx hb dL_nearestKey_7 (by decide) ?_
        obtain ⟨rfl, rfl⟩ := Prod.mk.inj (Option.some.inj hf)
        exact hend _ ls _ _ _ _ _ dL_nearestKey_10 rfl hP1 hS1 (Nat.le_of_ble_eq_true rfl) (Nat.le_of_ble_eq_true rfl)
      rw [pz_hE, if_neg h1] at hf
      by_cases h2 : E0 = "java/util/NoSuchElementException"
      · subst h2
        rw [pz_hE, if_pos rfl] at hf
        refine pq_catch (E := "java/util/NoSuchElementException") S hT hL [((0, 5, 6, 19), "java/lang/IllegalArgumentException")] (0, 5, 11, 31) [] htab (by decide) (by intro z hz; simp only [List.mem_cons, List.not_mem_nil, or_false] at hz; rcases hz with rfl; exact ⟨by decide, vc_L_19, by decide, by decide⟩) (by decide) (by decide) vc_L_31 hce hcv hcl ?_
        refine lv_astore_n (lv' := [(2, .ref q9), (0, .ref (a 0)), (1, .int p1)]) hx hb dL_nearestKey_11 rfl hl (by decide) rfl (fun ls hl => ?_)
        refine lv_sipush (v := (-30000)) hx hb dL_nearestKey_12 (by decide) ?_
        obtain ⟨rfl, rfl⟩ := Prod.mk.inj (Option.some.inj hf)
        exact hend _ ls _ _ _ _ _ dL_nearestKey_15 rfl hP1 hS1 (Nat.le_of_ble_eq_true rfl) (Nat.le_of_ble_eq_true rfl)
      rw [pz_hE, if_neg h2] at hf
      cases hf
    · refine pq_cXV S (c_X6_nearestKey l g a T p1 hst (.inr v) T2 hfx) vv_L_63 hK hT hP hD hS hA rfl rfl rfl rfl rfl hl.1 (Nat.le_of_ble_eq_true rfl) dL_nearestKey_2 (by decide) (by decide) ⟨Nat.le_of_ble_eq_true rfl, Nat.le_of_ble_eq_true rfl⟩ (fun E ce q9 H1 l1 h9 => by cases h9) (fun v9 H1 locs hv hk hP1 hS => ?_)
      obtain rfl : v9 = some (.int v) := (Sum.inr.inj hv).symm
      obtain ⟨rfl, rfl⟩ := Prod.mk.inj (Option.some.inj hf)
      exact hend _ ls _ _ _ _ _ dL_nearestKey_5 rfl hP1 hS (Nat.le_of_ble_eq_true rfl) (Nat.le_of_ble_eq_true rfl)
def h_keyAt (T : MainS) (p1 : Int32) : Option (Int32 × MainS) := pz_h [("java/util/NoSuchElementException", some (-30000))] (f_X6_keyAt T p1)
set_option maxHeartbeats 4000000 in
set_option maxRecDepth 100000 in
theorem c_L_keyAt (l : Launch) (g : pq_g) (a : Nat → Nat) (T : MainS) (p1 : Int32) (hst : l.stackTraces = false) (r : Int32) (T1 : MainS) (hf : h_keyAt T p1 = some (r, T1)) : pq_H l yL_keyAt cL_keyAt 3 [(0, 5, 6, 31)] 8 1 g (mainW g a T) [.ref (a 0), .int p1] r (mainW g a T1) := by
  unfold h_keyAt at hf
  refine pq_H.of (by decide) rfl (Nat.le_of_ble_eq_true rfl) rfl ?_
  intro p e s m below meth c ls Q A S htab hP hK hD hS hA hT hL hl hend
  obtain ⟨hx, hb, hml, hown, hts⟩ := id S
  refine lv_aload_n hx hb dL_keyAt_0 rfl (lv_at hl 0 rfl) ?_
  refine lv_iload_n hx hb dL_keyAt_1 rfl (lv_at hl 1 rfl) ?_
  cases hfx : f_X6_keyAt T p1 with
  | none => rw [hfx] at hf; cases hf
  | some z =>
    obtain ⟨o, T2⟩ := z
    rw [hfx] at hf
    rcases o with E0 | v
    · refine pq_cXV S (c_X6_keyAt l g a T p1 hst (.inl E0) T2 hfx) vv_L_66 hK hT hP hD hS hA rfl rfl rfl rfl rfl hl.1 (Nat.le_of_ble_eq_true rfl) dL_keyAt_2 (by decide) (by decide) ⟨Nat.le_of_ble_eq_true rfl, Nat.le_of_ble_eq_true rfl⟩ (fun E ce q9 H1 locs1 hE hk hP1 hS1 hce hcv hcl => ?_) (fun v H1 l1 h9 => by cases h9)
      obtain rfl : E0 = E := Sum.inl.inj hE
      replace hf : pz_hE [("java/util/NoSuchElementException", some (-30000))] E0 T2 = some (r, T1) := hf
      by_cases h1 : E0 = "java/util/NoSuchElementException"
      · subst h1
        rw [pz_hE, if_pos rfl] at hf
        refine pq_catch (E := "java/util/NoSuchElementException") S hT hL [] (0, 5, 6, 31) [] htab (by decide) (by intro z hz; cases hz) (by decide) (by decide) vc_L_31 hce hcv hcl ?_
        refine lv_astore_n (lv' := [(2, .ref q9), (0, .ref (a 0)), (1, .int p1)]) hx hb dL_keyAt_6 rfl hl (by decide) rfl (fun ls hl => ?_)
        refine lv_sipush (v := (-30000)) hx hb dL_keyAt_7 (by decide) ?_
        obtain ⟨rfl, rfl⟩ := Prod.mk.inj (Option.some.inj hf)
        exact hend _ ls _ _ _ _ _ dL_keyAt_10 rfl hP1 hS1 (Nat.le_of_ble_eq_true rfl) (Nat.le_of_ble_eq_true rfl)
      rw [pz_hE, if_neg h1] at hf
      cases hf
    · refine pq_cXV S (c_X6_keyAt l g a T p1 hst (.inr v) T2 hfx) vv_L_66 hK hT hP hD hS hA rfl rfl rfl rfl rfl hl.1 (Nat.le_of_ble_eq_true rfl) dL_keyAt_2 (by decide) (by decide) ⟨Nat.le_of_ble_eq_true rfl, Nat.le_of_ble_eq_true rfl⟩ (fun E ce q9 H1 l1 h9 => by cases h9) (fun v9 H1 locs hv hk hP1 hS => ?_)
      obtain rfl : v9 = some (.int v) := (Sum.inr.inj hv).symm
      obtain ⟨rfl, rfl⟩ := Prod.mk.inj (Option.some.inj hf)
      exact hend _ ls _ _ _ _ _ dL_keyAt_5 rfl hP1 hS (Nat.le_of_ble_eq_true rfl) (Nat.le_of_ble_eq_true rfl)
def h_keyByPriority (T : MainS) (p1 : Int32) : Option (Int32 × MainS) := pz_h [("java/util/NoSuchElementException", some (-30000))] (f_X6_keyByPriority T p1)
set_option maxHeartbeats 4000000 in
set_option maxRecDepth 100000 in
theorem c_L_keyByPriority (l : Launch) (g : pq_g) (a : Nat → Nat) (T : MainS) (p1 : Int32) (hst : l.stackTraces = false) (r : Int32) (T1 : MainS) (hf : h_keyByPriority T p1 = some (r, T1)) : pq_H l yL_keyByPriority cL_keyByPriority 3 [(0, 5, 6, 31)] 8 1 g (mainW g a T) [.ref (a 0), .int p1] r (mainW g a T1) := by
  unfold h_keyByPriority at hf
  refine pq_H.of (by decide) rfl (Nat.le_of_ble_eq_true rfl) rfl ?_
  intro p e s m below meth c ls Q A S htab hP hK hD hS hA hT hL hl hend
  obtain ⟨hx, hb, hml, hown, hts⟩ := id S
  refine lv_aload_n hx hb dL_keyByPriority_0 rfl (lv_at hl 0 rfl) ?_
  refine lv_iload_n hx hb dL_keyByPriority_1 rfl (lv_at hl 1 rfl) ?_
  cases hfx : f_X6_keyByPriority T p1 with
  | none => rw [hfx] at hf; cases hf
  | some z =>
    obtain ⟨o, T2⟩ := z
    rw [hfx] at hf
    rcases o with E0 | v
    · refine pq_cXV S (c_X6_keyByPriority l g a T p1 hst (.inl E0) T2 hfx) vv_L_69 hK hT hP hD hS hA rfl rfl rfl rfl rfl hl.1 (Nat.le_of_ble_eq_true rfl) dL_keyByPriority_2 (by decide) (by decide) ⟨Nat.le_of_ble_eq_true rfl, Nat.le_of_ble_eq_true rfl⟩ (fun E ce q9 H1 locs1 hE hk hP1 hS1 hce hcv hcl => ?_) (fun v H1 l1 h9 => by cases h9)
      obtain rfl : E0 = E := Sum.inl.inj hE
      replace hf : pz_hE [("java/util/NoSuchElementException", some (-30000))] E0 T2 = some (r, T1) := hf
      by_cases h1 : E0 = "java/util/NoSuchElementException"
      · subst h1
        rw [pz_hE, if_pos rfl] at hf
        refine pq_catch (E := "java/util/NoSuchElementException") S hT hL [] (0, 5, 6, 31) [] htab (by decide) (by intro z hz; cases hz) (by decide) (by decide) vc_L_31 hce hcv hcl ?_
        refine lv_astore_n (lv' := [(2, .ref q9), (0, .ref (a 0)), (1, .int p1)]) hx hb dL_keyByPriority_6 rfl hl (by decide) rfl (fun ls hl => ?_)
        refine lv_sipush (v := (-30000)) hx hb dL_keyByPriority_7 (by decide) ?_
        obtain ⟨rfl, rfl⟩ := Prod.mk.inj (Option.some.inj hf)
        exact hend _ ls _ _ _ _ _ dL_keyByPriority_10 rfl hP1 hS1 (Nat.le_of_ble_eq_true rfl) (Nat.le_of_ble_eq_true rfl)
      rw [pz_hE, if_neg h1] at hf
      cases hf
    · refine pq_cXV S (c_X6_keyByPriority l g a T p1 hst (.inr v) T2 hfx) vv_L_69 hK hT hP hD hS hA rfl rfl rfl rfl rfl hl.1 (Nat.le_of_ble_eq_true rfl) dL_keyByPriority_2 (by decide) (by decide) ⟨Nat.le_of_ble_eq_true rfl, Nat.le_of_ble_eq_true rfl⟩ (fun E ce q9 H1 l1 h9 => by cases h9) (fun v9 H1 locs hv hk hP1 hS => ?_)
      obtain rfl : v9 = some (.int v) := (Sum.inr.inj hv).symm
      obtain ⟨rfl, rfl⟩ := Prod.mk.inj (Option.some.inj hf)
      exact hend _ ls _ _ _ _ _ dL_keyByPriority_5 rfl hP1 hS (Nat.le_of_ble_eq_true rfl) (Nat.le_of_ble_eq_true rfl)
def h_root (T : MainS) : Option (Int32 × MainS) := pz_h [("java/util/NoSuchElementException", some (-30000))] (f_X6_root T)
set_option maxHeartbeats 4000000 in
set_option maxRecDepth 100000 in
theorem c_L_root (l : Launch) (g : pq_g) (a : Nat → Nat) (T : MainS) (hst : l.stackTraces = false) (r : Int32) (T1 : MainS) (hf : h_root T = some (r, T1)) : pq_H l yL_root cL_root 2 [(0, 4, 5, 31)] 8 1 g (mainW g a T) [.ref (a 0)] r (mainW g a T1) := by
  unfold h_root at hf
  refine pq_H.of (by decide) rfl (Nat.le_of_ble_eq_true rfl) rfl ?_
  intro p e s m below meth c ls Q A S htab hP hK hD hS hA hT hL hl hend
  obtain ⟨hx, hb, hml, hown, hts⟩ := id S
  refine lv_aload_n hx hb dL_root_0 rfl (lv_at hl 0 rfl) ?_
  cases hfx : f_X6_root T with
  | none => rw [hfx] at hf; cases hf
  | some z =>
    obtain ⟨o, T2⟩ := z
    rw [hfx] at hf
    rcases o with E0 | v
    · refine pq_cXV S (c_X6_root l g a T hst (.inl E0) T2 hfx) vv_L_72 hK hT hP hD hS hA rfl rfl rfl rfl rfl hl.1 (Nat.le_of_ble_eq_true rfl) dL_root_1 (by decide) (by decide) ⟨Nat.le_of_ble_eq_true rfl, Nat.le_of_ble_eq_true rfl⟩ (fun E ce q9 H1 locs1 hE hk hP1 hS1 hce hcv hcl => ?_) (fun v H1 l1 h9 => by cases h9)
      obtain rfl : E0 = E := Sum.inl.inj hE
      replace hf : pz_hE [("java/util/NoSuchElementException", some (-30000))] E0 T2 = some (r, T1) := hf
      by_cases h1 : E0 = "java/util/NoSuchElementException"
      · subst h1
        rw [pz_hE, if_pos rfl] at hf
        refine pq_catch (E := "java/util/NoSuchElementException") S hT hL [] (0, 4, 5, 31) [] htab (by decide) (by intro z hz; cases hz) (by decide) (by decide) vc_L_31 hce hcv hcl ?_
        refine lv_astore_n (lv' := [(1, .ref q9), (0, .ref (a 0))]) hx hb dL_root_5 rfl hl (by decide) rfl (fun ls hl => ?_)
        refine lv_sipush (v := (-30000)) hx hb dL_root_6 (by decide) ?_
        obtain ⟨rfl, rfl⟩ := Prod.mk.inj (Option.some.inj hf)
        exact hend _ ls _ _ _ _ _ dL_root_9 rfl hP1 hS1 (Nat.le_of_ble_eq_true rfl) (Nat.le_of_ble_eq_true rfl)
      rw [pz_hE, if_neg h1] at hf
      cases hf
    · refine pq_cXV S (c_X6_root l g a T hst (.inr v) T2 hfx) vv_L_72 hK hT hP hD hS hA rfl rfl rfl rfl rfl hl.1 (Nat.le_of_ble_eq_true rfl) dL_root_1 (by decide) (by decide) ⟨Nat.le_of_ble_eq_true rfl, Nat.le_of_ble_eq_true rfl⟩ (fun E ce q9 H1 l1 h9 => by cases h9) (fun v9 H1 locs hv hk hP1 hS => ?_)
      obtain rfl : v9 = some (.int v) := (Sum.inr.inj hv).symm
      obtain ⟨rfl, rfl⟩ := Prod.mk.inj (Option.some.inj hf)
      exact hend _ ls _ _ _ _ _ dL_root_4 rfl hP1 hS (Nat.le_of_ble_eq_true rfl) (Nat.le_of_ble_eq_true rfl)
def h_leftOf (T : MainS) (p1 : Int32) : Option (Int32 × MainS) := pz_h [("java/util/NoSuchElementException", some (-30000))] (f_X6_leftOf T p1)
set_option maxHeartbeats 4000000 in
set_option maxRecDepth 100000 in
theorem c_L_leftOf (l : Launch) (g : pq_g) (a : Nat → Nat) (T : MainS) (p1 : Int32) (hst : l.stackTraces = false) (r : Int32) (T1 : MainS) (hf : h_leftOf T p1 = some (r, T1)) : pq_H l yL_leftOf cL_leftOf 3 [(0, 5, 6, 31)] 8 2 g (mainW g a T) [.ref (a 0), .int p1] r (mainW g a T1) := by
  unfold h_leftOf at hf
  refine pq_H.of (by decide) rfl (Nat.le_of_ble_eq_true rfl) rfl ?_
  intro p e s m below meth c ls Q A S htab hP hK hD hS hA hT hL hl hend
  obtain ⟨hx, hb, hml, hown, hts⟩ := id S
  refine lv_aload_n hx hb dL_leftOf_0 rfl (lv_at hl 0 rfl) ?_
  refine lv_iload_n hx hb dL_leftOf_1 rfl (lv_at hl 1 rfl) ?_
  cases hfx : f_X6_leftOf T p1 with
  | none => rw [hfx] at hf; cases hf
  | some z =>
    obtain ⟨o, T2⟩ := z
    rw [hfx] at hf
    rcases o with E0 | v
    · refine pq_cXV S (c_X6_leftOf l g a T p1 hst (.inl E0) T2 hfx) vv_L_75 hK hT hP hD hS hA rfl rfl rfl rfl rfl hl.1 (Nat.le_of_ble_eq_true rfl) dL_leftOf_2 (by decide) (by decide) ⟨Nat.le_of_ble_eq_true rfl, Nat.le_of_ble_eq_true rfl⟩ (fun E ce q9 H1 locs1 hE hk hP1 hS1 hce hcv hcl => ?_) (fun v H1 l1 h9 => by cases h9)
      obtain rfl : E0 = E := Sum.inl.inj hE
      replace hf : pz_hE [("java/util/NoSuchElementException", some (-30000))] E0 T2 = some (r, T1) := hf
      by_cases h1 : E0 = "java/util/NoSuchElementException"
      · subst h1
        rw [pz_hE, if_pos rfl] at hf
        refine pq_catch (E := "java/util/NoSuchElementException") S hT hL [] (0, 5, 6, 31) [] htab (by decide) (by intro z hz; cases hz) (by decide) (by decide) vc_L_31 hce hcv hcl ?_
        refine lv_astore_n (lv' := [(2, .ref q9), (0, .ref (a 0)), (1, .int p1)]) hx hb dL_leftOf_6 rfl hl (by decide) rfl (fun ls hl => ?_)
        refine lv_sipush (v := (-30000)) hx hb dL_leftOf_7 (by decide) ?_
        obtain ⟨rfl, rfl⟩ := Prod.mk.inj (Option.some.inj hf)
        exact hend _ ls _ _ _ _ _ dL_leftOf_10 rfl hP1 hS1 (Nat.le_of_ble_eq_true rfl) (Nat.le_of_ble_eq_true rfl)
      rw [pz_hE, if_neg h1] at hf
      cases hf
    · refine pq_cXV S (c_X6_leftOf l g a T p1 hst (.inr v) T2 hfx) vv_L_75 hK hT hP hD hS hA rfl rfl rfl rfl rfl hl.1 (Nat.le_of_ble_eq_true rfl) dL_leftOf_2 (by decide) (by decide) ⟨Nat.le_of_ble_eq_true rfl, Nat.le_of_ble_eq_true rfl⟩ (fun E ce q9 H1 l1 h9 => by cases h9) (fun v9 H1 locs hv hk hP1 hS => ?_)
      obtain rfl : v9 = some (.int v) := (Sum.inr.inj hv).symm
      obtain ⟨rfl, rfl⟩ := Prod.mk.inj (Option.some.inj hf)
      exact hend _ ls _ _ _ _ _ dL_leftOf_5 rfl hP1 hS (Nat.le_of_ble_eq_true rfl) (Nat.le_of_ble_eq_true rfl)
def h_rightOf (T : MainS) (p1 : Int32) : Option (Int32 × MainS) := pz_h [("java/util/NoSuchElementException", some (-30000))] (f_X6_rightOf T p1)
set_option maxHeartbeats 4000000 in
set_option maxRecDepth 100000 in
theorem c_L_rightOf (l : Launch) (g : pq_g) (a : Nat → Nat) (T : MainS) (p1 : Int32) (hst : l.stackTraces = false) (r : Int32) (T1 : MainS) (hf : h_rightOf T p1 = some (r, T1)) : pq_H l yL_rightOf cL_rightOf 3 [(0, 5, 6, 31)] 8 2 g (mainW g a T) [.ref (a 0), .int p1] r (mainW g a T1) := by
  unfold h_rightOf at hf
  refine pq_H.of (by decide) rfl (Nat.le_of_ble_eq_true rfl) rfl ?_
  intro p e s m below meth c ls Q A S htab hP hK hD hS hA hT hL hl hend
  obtain ⟨hx, hb, hml, hown, hts⟩ := id S
  refine lv_aload_n hx hb dL_rightOf_0 rfl (lv_at hl 0 rfl) ?_
  refine lv_iload_n hx hb dL_rightOf_1 rfl (lv_at hl 1 rfl) ?_
  cases hfx : f_X6_rightOf T p1 with
  | none => rw [hfx] at hf; cases hf
  | some z =>
    obtain ⟨o, T2⟩ := z
    rw [hfx] at hf
    rcases o with E0 | v
    · refine pq_cXV S (c_X6_rightOf l g a T p1 hst (.inl E0) T2 hfx) vv_L_78 hK hT hP hD hS hA rfl rfl rfl rfl rfl hl.1 (Nat.le_of_ble_eq_true rfl) dL_rightOf_2 (by decide) (by decide) ⟨Nat.le_of_ble_eq_true rfl, Nat.le_of_ble_eq_true rfl⟩ (fun E ce q9 H1 locs1 hE hk hP1 hS1 hce hcv hcl => ?_) (fun v H1 l1 h9 => by cases h9)
      obtain rfl : E0 = E := Sum.inl.inj hE
      replace hf : pz_hE [("java/util/NoSuchElementException", some (-30000))] E0 T2 = some (r, T1) := hf
      by_cases h1 : E0 = "java/util/NoSuchElementException"
      · subst h1
        rw [pz_hE, if_pos rfl] at hf
        refine pq_catch (E := "java/util/NoSuchElementException") S hT hL [] (0, 5, 6, 31) [] htab (by decide) (by intro z hz; cases hz) (by decide) (by decide) vc_L_31 hce hcv hcl ?_
        refine lv_astore_n (lv' := [(2, .ref q9), (0, .ref (a 0)), (1, .int p1)]) hx hb dL_rightOf_6 rfl hl (by decide) rfl (fun ls hl => ?_)
        refine lv_sipush (v := (-30000)) hx hb dL_rightOf_7 (by decide) ?_
        obtain ⟨rfl, rfl⟩ := Prod.mk.inj (Option.some.inj hf)
        exact hend _ ls _ _ _ _ _ dL_rightOf_10 rfl hP1 hS1 (Nat.le_of_ble_eq_true rfl) (Nat.le_of_ble_eq_true rfl)
      rw [pz_hE, if_neg h1] at hf
      cases hf
    · refine pq_cXV S (c_X6_rightOf l g a T p1 hst (.inr v) T2 hfx) vv_L_78 hK hT hP hD hS hA rfl rfl rfl rfl rfl hl.1 (Nat.le_of_ble_eq_true rfl) dL_rightOf_2 (by decide) (by decide) ⟨Nat.le_of_ble_eq_true rfl, Nat.le_of_ble_eq_true rfl⟩ (fun E ce q9 H1 l1 h9 => by cases h9) (fun v9 H1 locs hv hk hP1 hS => ?_)
      obtain rfl : v9 = some (.int v) := (Sum.inr.inj hv).symm
      obtain ⟨rfl, rfl⟩ := Prod.mk.inj (Option.some.inj hf)
      exact hend _ ls _ _ _ _ _ dL_rightOf_5 rfl hP1 hS (Nat.le_of_ble_eq_true rfl) (Nat.le_of_ble_eq_true rfl)
def h_parentOf (T : MainS) (p1 : Int32) : Option (Int32 × MainS) := pz_h [("java/util/NoSuchElementException", some (-30000))] (f_X6_parentOf T p1)
set_option maxHeartbeats 4000000 in
set_option maxRecDepth 100000 in
theorem c_L_parentOf (l : Launch) (g : pq_g) (a : Nat → Nat) (T : MainS) (p1 : Int32) (hst : l.stackTraces = false) (r : Int32) (T1 : MainS) (hf : h_parentOf T p1 = some (r, T1)) : pq_H l yL_parentOf cL_parentOf 3 [(0, 5, 6, 31)] 8 2 g (mainW g a T) [.ref (a 0), .int p1] r (mainW g a T1) := by
  unfold h_parentOf at hf
  refine pq_H.of (by decide) rfl (Nat.le_of_ble_eq_true rfl) rfl ?_
  intro p e s m below meth c ls Q A S htab hP hK hD hS hA hT hL hl hend
  obtain ⟨hx, hb, hml, hown, hts⟩ := id S
  refine lv_aload_n hx hb dL_parentOf_0 rfl (lv_at hl 0 rfl) ?_
  refine lv_iload_n hx hb dL_parentOf_1 rfl (lv_at hl 1 rfl) ?_
  cases hfx : f_X6_parentOf T p1 with
  | none => rw [hfx] at hf; cases hf
  | some z =>
    obtain ⟨o, T2⟩ := z
    rw [hfx] at hf
    rcases o with E0 | v
    · refine pq_cXV S (c_X6_parentOf l g a T p1 hst (.inl E0) T2 hfx) vv_L_81 hK hT hP hD hS hA rfl rfl rfl rfl rfl hl.1 (Nat.le_of_ble_eq_true rfl) dL_parentOf_2 (by decide) (by decide) ⟨Nat.le_of_ble_eq_true rfl, Nat.le_of_ble_eq_true rfl⟩ (fun E ce q9 H1 locs1 hE hk hP1 hS1 hce hcv hcl => ?_) (fun v H1 l1 h9 => by cases h9)
      obtain rfl : E0 = E := Sum.inl.inj hE
      replace hf : pz_hE [("java/util/NoSuchElementException", some (-30000))] E0 T2 = some (r, T1) := hf
      by_cases h1 : E0 = "java/util/NoSuchElementException"
      · subst h1
        rw [pz_hE, if_pos rfl] at hf
        refine pq_catch (E := "java/util/NoSuchElementException") S hT hL [] (0, 5, 6, 31) [] htab (by decide) (by intro z hz; cases hz) (by decide) (by decide) vc_L_31 hce hcv hcl ?_
        refine lv_astore_n (lv' := [(2, .ref q9), (0, .ref (a 0)), (1, .int p1)]) hx hb dL_parentOf_6 rfl hl (by decide) rfl (fun ls hl => ?_)
        refine lv_sipush (v := (-30000)) hx hb dL_parentOf_7 (by decide) ?_
        obtain ⟨rfl, rfl⟩ := Prod.mk.inj (Option.some.inj hf)
        exact hend _ ls _ _ _ _ _ dL_parentOf_10 rfl hP1 hS1 (Nat.le_of_ble_eq_true rfl) (Nat.le_of_ble_eq_true rfl)
      rw [pz_hE, if_neg h1] at hf
      cases hf
    · refine pq_cXV S (c_X6_parentOf l g a T p1 hst (.inr v) T2 hfx) vv_L_81 hK hT hP hD hS hA rfl rfl rfl rfl rfl hl.1 (Nat.le_of_ble_eq_true rfl) dL_parentOf_2 (by decide) (by decide) ⟨Nat.le_of_ble_eq_true rfl, Nat.le_of_ble_eq_true rfl⟩ (fun E ce q9 H1 l1 h9 => by cases h9) (fun v9 H1 locs hv hk hP1 hS => ?_)
      obtain rfl : v9 = some (.int v) := (Sum.inr.inj hv).symm
      obtain ⟨rfl, rfl⟩ := Prod.mk.inj (Option.some.inj hf)
      exact hend _ ls _ _ _ _ _ dL_parentOf_5 rfl hP1 hS (Nat.le_of_ble_eq_true rfl) (Nat.le_of_ble_eq_true rfl)
def h_topInRange (T : MainS) (p1 : Int32) (p2 : Int32) : Option (Int32 × MainS) := pz_h [("java/lang/IllegalArgumentException", some (-20000)), ("java/util/NoSuchElementException", some (-30000))] (f_X6_topInRange T p1 p2)
set_option maxHeartbeats 4000000 in
set_option maxRecDepth 100000 in
theorem c_L_topInRange (l : Launch) (g : pq_g) (a : Nat → Nat) (T : MainS) (p1 : Int32) (p2 : Int32) (hst : l.stackTraces = false) (r : Int32) (T1 : MainS) (hf : h_topInRange T p1 p2 = some (r, T1)) : pq_H l yL_topInRange cL_topInRange 4 [(0, 6, 7, 19), (0, 6, 12, 31)] 8 2 g (mainW g a T) [.ref (a 0), .int p1, .int p2] r (mainW g a T1) := by
  unfold h_topInRange at hf
  refine pq_H.of (by decide) rfl (Nat.le_of_ble_eq_true rfl) rfl ?_
  intro p e s m below meth c ls Q A S htab hP hK hD hS hA hT hL hl hend
  obtain ⟨hx, hb, hml, hown, hts⟩ := id S
  refine lv_aload_n hx hb dL_topInRange_0 rfl (lv_at hl 0 rfl) ?_
  refine lv_iload_n hx hb dL_topInRange_1 rfl (lv_at hl 1 rfl) ?_
  refine lv_iload_n hx hb dL_topInRange_2 rfl (lv_at hl 2 rfl) ?_
  cases hfx : f_X6_topInRange T p1 p2 with
  | none => rw [hfx] at hf; cases hf
  | some z =>
    obtain ⟨o, T2⟩ := z
    rw [hfx] at hf
    rcases o with E0 | v
    · refine pq_cXV S (c_X6_topInRange l g a T p1 p2 hst (.inl E0) T2 hfx) vv_L_84 hK hT hP hD hS hA rfl rfl rfl rfl rfl hl.1 (Nat.le_of_ble_eq_true rfl) dL_topInRange_3 (by decide) (by decide) ⟨Nat.le_of_ble_eq_true rfl, Nat.le_of_ble_eq_true rfl⟩ (fun E ce q9 H1 locs1 hE hk hP1 hS1 hce hcv hcl => ?_) (fun v H1 l1 h9 => by cases h9)
      obtain rfl : E0 = E := Sum.inl.inj hE
      replace hf : pz_hE [("java/lang/IllegalArgumentException", some (-20000)), ("java/util/NoSuchElementException", some (-30000))] E0 T2 = some (r, T1) := hf
      by_cases h1 : E0 = "java/lang/IllegalArgumentException"
      · subst h1
        rw [pz_hE, if_pos rfl] at hf
        refine pq_catch (E := "java/lang/IllegalArgumentException") S hT hL [] (0, 6, 7, 19) [(0, 6, 12, 31)] htab (by decide) (by intro z hz; cases hz) (by decide) (by decide) vc_L_19 hce hcv hcl ?_
        refine lv_astore_n (lv' := [(3, .ref q9), (0, .ref (a 0)), (1, .int p1), (2, .int p2)]) hx hb dL_topInRange_7 rfl hl (by decide) rfl (fun ls hl => ?_)
        refine lv_sipush (v := (-20000)) hx hb dL_topInRange_8 (by decide) ?_
        obtain ⟨rfl, rfl⟩ := Prod.mk.inj (Option.some.inj hf)
        exact hend _ ls _ _ _ _ _ dL_topInRange_11 rfl hP1 hS1 (Nat.le_of_ble_eq_true rfl) (Nat.le_of_ble_eq_true rfl)
      rw [pz_hE, if_neg h1] at hf
      by_cases h2 : E0 = "java/util/NoSuchElementException"
      · subst h2
        rw [pz_hE, if_pos rfl] at hf
        refine pq_catch (E := "java/util/NoSuchElementException") S hT hL [((0, 6, 7, 19), "java/lang/IllegalArgumentException")] (0, 6, 12, 31) [] htab (by decide) (by intro z hz; simp only [List.mem_cons, List.not_mem_nil, or_false] at hz; rcases hz with rfl; exact ⟨by decide, vc_L_19, by decide, by decide⟩) (by decide) (by decide) vc_L_31 hce hcv hcl ?_
        refine lv_astore_n (lv' := [(3, .ref q9), (0, .ref (a 0)), (1, .int p1), (2, .int p2)]) hx hb dL_topInRange_12 rfl hl (by decide) rfl (fun ls hl => ?_)
        refine lv_sipush (v := (-30000)) hx hb dL_topInRange_13 (by decide) ?_
        obtain ⟨rfl, rfl⟩ := Prod.mk.inj (Option.some.inj hf)
        exact hend _ ls _ _ _ _ _ dL_topInRange_16 rfl hP1 hS1 (Nat.le_of_ble_eq_true rfl) (Nat.le_of_ble_eq_true rfl)
      rw [pz_hE, if_neg h2] at hf
      cases hf
    · refine pq_cXV S (c_X6_topInRange l g a T p1 p2 hst (.inr v) T2 hfx) vv_L_84 hK hT hP hD hS hA rfl rfl rfl rfl rfl hl.1 (Nat.le_of_ble_eq_true rfl) dL_topInRange_3 (by decide) (by decide) ⟨Nat.le_of_ble_eq_true rfl, Nat.le_of_ble_eq_true rfl⟩ (fun E ce q9 H1 l1 h9 => by cases h9) (fun v9 H1 locs hv hk hP1 hS => ?_)
      obtain rfl : v9 = some (.int v) := (Sum.inr.inj hv).symm
      obtain ⟨rfl, rfl⟩ := Prod.mk.inj (Option.some.inj hf)
      exact hend _ ls _ _ _ _ _ dL_topInRange_6 rfl hP1 hS (Nat.le_of_ble_eq_true rfl) (Nat.le_of_ble_eq_true rfl)
def h_topInRangeByScan (T : MainS) (p1 : Int32) (p2 : Int32) : Option (Int32 × MainS) := pz_h [("java/lang/IllegalArgumentException", some (-20000)), ("java/util/NoSuchElementException", some (-30000))] (f_X6_topInRangeByScan T p1 p2)
set_option maxHeartbeats 4000000 in
set_option maxRecDepth 100000 in
theorem c_L_topInRangeByScan (l : Launch) (g : pq_g) (a : Nat → Nat) (T : MainS) (p1 : Int32) (p2 : Int32) (hst : l.stackTraces = false) (r : Int32) (T1 : MainS) (hf : h_topInRangeByScan T p1 p2 = some (r, T1)) : pq_H l yL_topInRangeByScan cL_topInRangeByScan 4 [(0, 6, 7, 19), (0, 6, 12, 31)] 8 2 g (mainW g a T) [.ref (a 0), .int p1, .int p2] r (mainW g a T1) := by
  unfold h_topInRangeByScan at hf
  refine pq_H.of (by decide) rfl (Nat.le_of_ble_eq_true rfl) rfl ?_
  intro p e s m below meth c ls Q A S htab hP hK hD hS hA hT hL hl hend
  obtain ⟨hx, hb, hml, hown, hts⟩ := id S
  refine lv_aload_n hx hb dL_topInRangeByScan_0 rfl (lv_at hl 0 rfl) ?_
  refine lv_iload_n hx hb dL_topInRangeByScan_1 rfl (lv_at hl 1 rfl) ?_
  refine lv_iload_n hx hb dL_topInRangeByScan_2 rfl (lv_at hl 2 rfl) ?_
  cases hfx : f_X6_topInRangeByScan T p1 p2 with
  | none => rw [hfx] at hf; cases hf
  | some z =>
    obtain ⟨o, T2⟩ := z
    rw [hfx] at hf
    rcases o with E0 | v
    · refine pq_cXV S (c_X6_topInRangeByScan l g a T p1 p2 hst (.inl E0) T2 hfx) vv_L_87 hK hT hP hD hS hA rfl rfl rfl rfl rfl hl.1 (Nat.le_of_ble_eq_true rfl) dL_topInRangeByScan_3 (by decide) (by decide) ⟨Nat.le_of_ble_eq_true rfl, Nat.le_of_ble_eq_true rfl⟩ (fun E ce q9 H1 locs1 hE hk hP1 hS1 hce hcv hcl => ?_) (fun v H1 l1 h9 => by cases h9)
      obtain rfl : E0 = E := Sum.inl.inj hE
      replace hf : pz_hE [("java/lang/IllegalArgumentException", some (-20000)), ("java/util/NoSuchElementException", some (-30000))] E0 T2 = some (r, T1) := hf
      by_cases h1 : E0 = "java/lang/IllegalArgumentException"
      · subst h1
        rw [pz_hE, if_pos rfl] at hf
        refine pq_catch (E := "java/lang/IllegalArgumentException") S hT hL [] (0, 6, 7, 19) [(0, 6, 12, 31)] htab (by decide) (by intro z hz; cases hz) (by decide) (by decide) vc_L_19 hce hcv hcl ?_
        refine lv_astore_n (lv' := [(3, .ref q9), (0, .ref (a 0)), (1, .int p1), (2, .int p2)]) hx hb dL_topInRangeByScan_7 rfl hl (by decide) rfl (fun ls hl => ?_)
        refine lv_sipush (v := (-20000)) hx hb dL_topInRangeByScan_8 (by decide) ?_
        obtain ⟨rfl, rfl⟩ := Prod.mk.inj (Option.some.inj hf)
        exact hend _ ls _ _ _ _ _ dL_topInRangeByScan_11 rfl hP1 hS1 (Nat.le_of_ble_eq_true rfl) (Nat.le_of_ble_eq_true rfl)
      rw [pz_hE, if_neg h1] at hf
      by_cases h2 : E0 = "java/util/NoSuchElementException"
      · subst h2
        rw [pz_hE, if_pos rfl] at hf
        refine pq_catch (E := "java/util/NoSuchElementException") S hT hL [((0, 6, 7, 19), "java/lang/IllegalArgumentException")] (0, 6, 12, 31) [] htab (by decide) (by intro z hz; simp only [List.mem_cons, List.not_mem_nil, or_false] at hz; rcases hz with rfl; exact ⟨by decide, vc_L_19, by decide, by decide⟩) (by decide) (by decide) vc_L_31 hce hcv hcl ?_
        refine lv_astore_n (lv' := [(3, .ref q9), (0, .ref (a 0)), (1, .int p1), (2, .int p2)]) hx hb dL_topInRangeByScan_12 rfl hl (by decide) rfl (fun ls hl => ?_)
        refine lv_sipush (v := (-30000)) hx hb dL_topInRangeByScan_13 (by decide) ?_
        obtain ⟨rfl, rfl⟩ := Prod.mk.inj (Option.some.inj hf)
        exact hend _ ls _ _ _ _ _ dL_topInRangeByScan_16 rfl hP1 hS1 (Nat.le_of_ble_eq_true rfl) (Nat.le_of_ble_eq_true rfl)
      rw [pz_hE, if_neg h2] at hf
      cases hf
    · refine pq_cXV S (c_X6_topInRangeByScan l g a T p1 p2 hst (.inr v) T2 hfx) vv_L_87 hK hT hP hD hS hA rfl rfl rfl rfl rfl hl.1 (Nat.le_of_ble_eq_true rfl) dL_topInRangeByScan_3 (by decide) (by decide) ⟨Nat.le_of_ble_eq_true rfl, Nat.le_of_ble_eq_true rfl⟩ (fun E ce q9 H1 l1 h9 => by cases h9) (fun v9 H1 locs hv hk hP1 hS => ?_)
      obtain rfl : v9 = some (.int v) := (Sum.inr.inj hv).symm
      obtain ⟨rfl, rfl⟩ := Prod.mk.inj (Option.some.inj hf)
      exact hend _ ls _ _ _ _ _ dL_topInRangeByScan_6 rfl hP1 hS (Nat.le_of_ble_eq_true rfl) (Nat.le_of_ble_eq_true rfl)
