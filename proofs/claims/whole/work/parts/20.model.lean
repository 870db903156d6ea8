def f_X7_thrown (T : ModS) : Option (Int32) :=
    some T.1
set_option maxHeartbeats 4000000 in
set_option maxRecDepth 100000 in
theorem c_X7_thrown (l : Launch) (g : pq_g) (a : Nat → Nat) (T : ModS) (r : Int32) (hf : f_X7_thrown T = some r) : pq_R l yX7_thrown cX7_thrown 1 .int 1 g (modW g a T) [.ref (a 0)] r := by
  rw [f_X7_thrown] at hf
  refine pq_R.of (own := RX7) (by decide) rfl (Nat.le_of_ble_eq_true rfl) rfl ?_
  intro p e s m below meth c ls Q S hP hK hl hend
  obtain ⟨hx, hb, hml, hown, hts⟩ := id S
  refine lv_aload_n hx hb dX7_thrown_0 rfl (lv_at hl 0 rfl) ?_
  refine pq_get S hK hP inX7 0 rfl rfl 0 (by decide) fl_X7_27 rfl (v := .int T.1) rfl dX7_thrown_1 ?_
  exact hend _ _ _ dX7_thrown_4 rfl hf
def f_X7_in (p1 : Int32) (p2 : Int32) (p3 : Int32) : Option (Int32) :=
    if p1 < p2 then
      some 0
    else
      if p3 < p1 then
        some 0
      else
        some 1
set_option maxHeartbeats 4000000 in
set_option maxRecDepth 100000 in
theorem c_X7_in (l : Launch) (g : pq_g) (p1 : Int32) (p2 : Int32) (p3 : Int32) (r : Int32) (hf : f_X7_in p1 p2 p3 = some r) : pq_R l yX7_in cX7_in 3 .boolean 1 g ([]) [.int p1, .int p2, .int p3] r := by
  rw [f_X7_in] at hf
  refine pq_R.of (own := RX7) (by decide) rfl (Nat.le_of_ble_eq_true rfl) rfl ?_
  intro p e s m below meth c ls Q S hP hK hl hend
  obtain ⟨hx, hb, hml, hown, hts⟩ := id S
  refine lv_iload_n hx hb dX7_in_0 rfl (lv_at hl 0 rfl) ?_
  refine lv_iload_n hx hb dX7_in_1 rfl (lv_at hl 1 rfl) ?_
  refine lv_icmp_lt (tgt := 14) hx hb dX7_in_2 (by decide) (fun h1 => ?_) (fun h1 => ?_)
  · replace hf := pq_ifp h1 hf
    refine lv_iconst (v := 0) hx hb dX7_in_14 (by decide) ?_
    exact hend _ _ _ dX7_in_15 rfl hf
  · replace hf := pq_ifn h1 hf
    refine lv_iload_n hx hb dX7_in_5 rfl (lv_at hl 0 rfl) ?_
    refine lv_iload_n hx hb dX7_in_6 rfl (lv_at hl 2 rfl) ?_
    refine lv_icmp_gt (tgt := 14) hx hb dX7_in_7 (by decide) (fun h2 => ?_) (fun h2 => ?_)
    · replace hf := pq_ifp h2 hf
      refine lv_iconst (v := 0) hx hb dX7_in_14 (by decide) ?_
      exact hend _ _ _ dX7_in_15 rfl hf
    · replace hf := pq_ifn h2 hf
      refine lv_iconst (v := 1) hx hb dX7_in_10 (by decide) ?_
      refine lv_goto (tgt := 15) hx hb dX7_in_11 (by decide) ?_
      exact hend _ _ _ dX7_in_15 rfl hf
def f_X7_isNumber (p1 : Int32) : Option (Int32) :=
    (f_X7_in p1 0 99).bind fun q2 =>
    if q2 = 0 ∨ q2 = 1 then
      some q2
    else none
set_option maxHeartbeats 4000000 in
set_option maxRecDepth 100000 in
theorem c_X7_isNumber (l : Launch) (g : pq_g) (p1 : Int32) (r : Int32) (hf : f_X7_isNumber p1 = some r) : pq_R l yX7_isNumber cX7_isNumber 1 .boolean 2 g ([]) [.int p1] r := by
  rw [f_X7_isNumber] at hf
  refine pq_R.of (own := RX7) (by decide) rfl (Nat.le_of_ble_eq_true rfl) rfl ?_
  intro p e s m below meth c ls Q S hP hK hl hend
  obtain ⟨hx, hb, hml, hown, hts⟩ := id S
  refine lv_iload_n hx hb dX7_isNumber_0 rfl (lv_at hl 0 rfl) ?_
  refine lv_iconst (v := 0) hx hb dX7_isNumber_1 (by decide) ?_
  refine lv_bipush (v := 99) hx hb dX7_isNumber_2 (by decide) ?_
  obtain ⟨q2, e1, hf⟩ := pq_bind hf
  refine pq_cS S (c_X7_in l g p1 0 99 q2 e1) vs_X7_30 hK (hP.sub [] rfl) rfl rfl hl.1 (Nat.le_of_ble_eq_true rfl) dX7_isNumber_4 (by decide) (by decide) ⟨Nat.le_refl _, Nat.le_refl _⟩ ?_
  by_cases h3 : q2 = 0 ∨ q2 = 1
  case neg => exact absurd (pq_ifn h3 hf) (fun h9 => by cases h9)
  replace hf := pq_ifp h3 hf
  exact hend _ _ _ dX7_isNumber_7 (pq_nb h3) hf
def f_X7_copies_c2 : Nat → ModS → Int32 → Int32 → Int32 → Option (ModS)
  | 0, _, _, _, _ => none
  | n + 1, T, v1, v2, v3 =>
    if 70 ≤ v3 then
      some T
    else
      if (((70 * v1) + v3) < 0 ∨ 770 ≤ ((70 * v1) + v3).toNatClampNeg) then none
      else
        if (((70 * v2) + v3) < 0 ∨ 770 ≤ ((70 * v2) + v3).toNatClampNeg) then none
        else
          f_X7_copies_c2 n (T.1, (upd T.2.1 ((70 * v2) + v3).toNatClampNeg (T.2.1 ((70 * v1) + v3).toNatClampNeg)), T.2.2.1, T.2.2.2.1, T.2.2.2.2.1, T.2.2.2.2.2.1, T.2.2.2.2.2.2.1, T.2.2.2.2.2.2.2.1, T.2.2.2.2.2.2.2.2.1, T.2.2.2.2.2.2.2.2.2.1, T.2.2.2.2.2.2.2.2.2.2.1, T.2.2.2.2.2.2.2.2.2.2.2.1, T.2.2.2.2.2.2.2.2.2.2.2.2.1, T.2.2.2.2.2.2.2.2.2.2.2.2.2.1, T.2.2.2.2.2.2.2.2.2.2.2.2.2.2.1, T.2.2.2.2.2.2.2.2.2.2.2.2.2.2.2.1, T.2.2.2.2.2.2.2.2.2.2.2.2.2.2.2.2) v1 v2 (v3 + 1)
def f_X7_copies (T : ModS) (p1 : Int32) (p2 : Int32) : Option (ModS) :=
    f_X7_copies_c2 200 T p1 p2 0
set_option maxHeartbeats 4000000 in
set_option maxRecDepth 100000 in
theorem c_X7_copies (l : Launch) (g : pq_g) (a : Nat → Nat) (T : ModS) (p1 : Int32) (p2 : Int32) (T1 : ModS) (hf : f_X7_copies T p1 p2 = some T1) : pq_Mv l yX7_copies cX7_copies 4 1 g (modW g a T) [.ref (a 0), .int p1, .int p2] (modW g a T1) := by
  rw [f_X7_copies] at hf
  refine pq_Mv.of (own := RX7) (by decide) rfl (Nat.le_of_ble_eq_true rfl) rfl ?_
  intro p e s m below meth c ls Q A S hP hK hD hS hA hl hend
  obtain ⟨hx, hb, hml, hown, hts⟩ := id S
  have B2 : ∀ (n2 : Nat) (T : ModS) (v1 : Int32) (v2 : Int32) (v3 : Int32) (ls : Array Slot) (H : Heap) (locs : List Loc), va_P g.1 pq_cl (modW g a T) H → va_D A (modW g a T) → va_S A s.heap H locs → lv_has ls 4 [(0, .ref (a 0)), (1, .int v1), (2, .int v2), (3, .int v3)] → f_X7_copies_c2 n2 T v1 v2 v3 = some T1 → W p l e (pq_rm 1 0 0) s m ([.ref (a 0), .int p1, .int p2] : List Value).toArray below meth c H locs 0 0 Q (F0 m 2 ls []) := by
    intro n2
    induction n2 with
    | zero =>
      intro T v1 v2 v3 ls H locs hP hD hS hl hf
      exact absurd hf (by simp [f_X7_copies_c2])
    | succ n2 ih2 =>
      intro T v1 v2 v3 ls H locs hP hD hS hl hf
      rw [f_X7_copies_c2] at hf
      refine lv_iload_n hx hb dX7_copies_2 rfl (lv_at hl 3 rfl) ?_
      refine lv_bipush (v := 70) hx hb dX7_copies_3 (by decide) ?_
      refine lv_icmp_ge (tgt := 36) hx hb dX7_copies_5 (by decide) (fun h1 => ?_) (fun h1 => ?_)
      · replace hf := pq_ifp h1 hf
        exact hend _ _ _ _ dX7_copies_36 (by rw [← Option.some.inj hf]; exact hP) hS
      · replace hf := pq_ifn h1 hf
        refine lv_aload_n hx hb dX7_copies_8 rfl (lv_at hl 0 rfl) ?_
        refine pq_get S hK hP inX7 0 rfl rfl 1 (by decide) fl_X7_9 rfl (v := .ref (a 1)) rfl dX7_copies_9 ?_
        refine lv_bipush (v := 70) hx hb dX7_copies_12 (by decide) ?_
        refine lv_iload_n hx hb dX7_copies_14 rfl (lv_at hl 2 rfl) ?_
        refine lv_imul hx hb dX7_copies_15 ?_
        refine lv_iload_n hx hb dX7_copies_16 rfl (lv_at hl 3 rfl) ?_
        refine lv_iadd hx hb dX7_copies_17 ?_
        refine lv_aload_n hx hb dX7_copies_18 rfl (lv_at hl 0 rfl) ?_
        refine pq_get S hK hP inX7 0 rfl rfl 1 (by decide) fl_X7_9 rfl (v := .ref (a 1)) rfl dX7_copies_19 ?_
        refine lv_bipush (v := 70) hx hb dX7_copies_22 (by decide) ?_
        refine lv_iload_n hx hb dX7_copies_24 rfl (lv_at hl 1 rfl) ?_
        refine lv_imul hx hb dX7_copies_25 ?_
        refine lv_iload_n hx hb dX7_copies_26 rfl (lv_at hl 3 rfl) ?_
        refine lv_iadd hx hb dX7_copies_27 ?_
        by_cases h2 : (((70 * v1) + v3) < 0 ∨ 770 ≤ ((70 * v1) + v3).toNatClampNeg)
        · exact absurd (pq_ifp h2 hf) (fun h9 => by cases h9)
        replace hf := pq_ifn h2 hf
        refine va_iald hx hb hK.1 hP 1 0 rfl rfl h2 dX7_copies_28 ?_
        by_cases h3 : (((70 * v2) + v3) < 0 ∨ 770 ≤ ((70 * v2) + v3).toNatClampNeg)
        · exact absurd (pq_ifp h3 hf) (fun h9 => by cases h9)
        replace hf := pq_ifn h3 hf
        refine va_iast hx hb hK.1 hP hD hS 1 0 rfl rfl h3 dX7_copies_29 (fun H locs hP _ hS => ?_)
        replace hP : va_P g.1 pq_cl (modW g a (T.1, (upd T.2.1 ((70 * v2) + v3).toNatClampNeg (T.2.1 ((70 * v1) + v3).toNatClampNeg)), T.2.2.1, T.2.2.2.1, T.2.2.2.2.1, T.2.2.2.2.2.1, T.2.2.2.2.2.2.1, T.2.2.2.2.2.2.2.1, T.2.2.2.2.2.2.2.2.1, T.2.2.2.2.2.2.2.2.2.1, T.2.2.2.2.2.2.2.2.2.2.1, T.2.2.2.2.2.2.2.2.2.2.2.1, T.2.2.2.2.2.2.2.2.2.2.2.2.1, T.2.2.2.2.2.2.2.2.2.2.2.2.2.1, T.2.2.2.2.2.2.2.2.2.2.2.2.2.2.1, T.2.2.2.2.2.2.2.2.2.2.2.2.2.2.2.1, T.2.2.2.2.2.2.2.2.2.2.2.2.2.2.2.2)) H := hP
        replace hD : va_D A (modW g a (T.1, (upd T.2.1 ((70 * v2) + v3).toNatClampNeg (T.2.1 ((70 * v1) + v3).toNatClampNeg)), T.2.2.1, T.2.2.2.1, T.2.2.2.2.1, T.2.2.2.2.2.1, T.2.2.2.2.2.2.1, T.2.2.2.2.2.2.2.1, T.2.2.2.2.2.2.2.2.1, T.2.2.2.2.2.2.2.2.2.1, T.2.2.2.2.2.2.2.2.2.2.1, T.2.2.2.2.2.2.2.2.2.2.2.1, T.2.2.2.2.2.2.2.2.2.2.2.2.1, T.2.2.2.2.2.2.2.2.2.2.2.2.2.1, T.2.2.2.2.2.2.2.2.2.2.2.2.2.2.1, T.2.2.2.2.2.2.2.2.2.2.2.2.2.2.2.1, T.2.2.2.2.2.2.2.2.2.2.2.2.2.2.2.2)) := pq_adr hD (ad_X7 _ _)
        refine lv_iinc (v := (v3 + 1)) (lv' := [(3, .int (v3 + 1)), (0, .ref (a 0)), (1, .int v1), (2, .int v2)]) hx hb dX7_copies_30 hl (k := 3) rfl rfl (by decide) rfl (fun ls hl => ?_)
        refine lv_goto (tgt := 2) hx hb dX7_copies_33 (by decide) ?_
        exact ih2 (T.1, (upd T.2.1 ((70 * v2) + v3).toNatClampNeg (T.2.1 ((70 * v1) + v3).toNatClampNeg)), T.2.2.1, T.2.2.2.1, T.2.2.2.2.1, T.2.2.2.2.2.1, T.2.2.2.2.2.2.1, T.2.2.2.2.2.2.2.1, T.2.2.2.2.2.2.2.2.1, T.2.2.2.2.2.2.2.2.2.1, T.2.2.2.2.2.2.2.2.2.2.1, T.2.2.2.2.2.2.2.2.2.2.2.1, T.2.2.2.2.2.2.2.2.2.2.2.2.1, T.2.2.2.2.2.2.2.2.2.2.2.2.2.1, T.2.2.2.2.2.2.2.2.2.2.2.2.2.2.1, T.2.2.2.2.2.2.2.2.2.2.2.2.2.2.2.1, T.2.2.2.2.2.2.2.2.2.2.2.2.2.2.2.2) v1 v2 (v3 + 1) ls _ _ hP hD hS (lv_sub hl [1, 2, 3, 0] rfl) hf
  refine lv_iconst (v := 0) hx hb dX7_copies_0 (by decide) ?_
  refine lv_istore_n (lv' := [(3, .int 0), (0, .ref (a 0)), (1, .int p1), (2, .int p2)]) hx hb dX7_copies_1 rfl hl (by decide) rfl (fun ls hl => ?_)
  exact B2 200 T p1 p2 0 ls _ _ hP hD hS (lv_sub hl [1, 2, 3, 0] rfl) hf
def f_X7_begins (T : ModS) : Option (ModS) :=
    (f_X7_copies T 0 10).bind fun q2 =>
    some q2
set_option maxHeartbeats 4000000 in
set_option maxRecDepth 100000 in
theorem c_X7_begins (l : Launch) (g : pq_g) (a : Nat → Nat) (T : ModS) (T1 : ModS) (hf : f_X7_begins T = some T1) : pq_Mv l yX7_begins cX7_begins 1 2 g (modW g a T) [.ref (a 0)] (modW g a T1) := by
  rw [f_X7_begins] at hf
  refine pq_Mv.of (own := RX7) (by decide) rfl (Nat.le_of_ble_eq_true rfl) rfl ?_
  intro p e s m below meth c ls Q A S hP hK hD hS hA hl hend
  obtain ⟨hx, hb, hml, hown, hts⟩ := id S
  refine lv_aload_n hx hb dX7_begins_0 rfl (lv_at hl 0 rfl) ?_
  refine lv_iconst (v := 0) hx hb dX7_begins_1 (by decide) ?_
  refine lv_bipush (v := 10) hx hb dX7_begins_2 (by decide) ?_
  obtain ⟨q2, e1, hf⟩ := pq_bind hf
  refine pq_cVv S (c_X7_copies l g a T 0 10 q2 e1) vv_X7_34 hK hP hD hS hA rfl rfl rfl rfl rfl hl.1 (Nat.le_of_ble_eq_true rfl) dX7_begins_4 (by decide) (by decide) ⟨Nat.le_refl _, Nat.le_refl _⟩ (fun H9 locs hk hP1 hS => ?_)
  replace hP := hP1
  replace hP : va_P g.1 pq_cl (modW g a q2) H9 := hP
  replace hD : va_D A (modW g a q2) := pq_adr hD (ad_X7 _ _)
  clear hk
  generalize H9 = H at hP hS ⊢
  exact hend _ _ _ _ dX7_begins_7 (by rw [← Option.some.inj hf]; exact hP) hS
def f_X7_ends_c104 (T : ModS) : Option (Int32 × (ModS)) :=
    (f_X7_copies (T.1, T.2.1, (T.2.2.1 + 1), T.2.2.2.1, T.2.2.2.2.1, T.2.2.2.2.2.1, T.2.2.2.2.2.2.1, T.2.2.2.2.2.2.2.1, T.2.2.2.2.2.2.2.2.1, T.2.2.2.2.2.2.2.2.2.1, T.2.2.2.2.2.2.2.2.2.2.1, T.2.2.2.2.2.2.2.2.2.2.2.1, T.2.2.2.2.2.2.2.2.2.2.2.2.1, T.2.2.2.2.2.2.2.2.2.2.2.2.2.1, T.2.2.2.2.2.2.2.2.2.2.2.2.2.2.1, T.2.2.2.2.2.2.2.2.2.2.2.2.2.2.2.1, T.2.2.2.2.2.2.2.2.2.2.2.2.2.2.2.2) 10 (T.2.2.1 + 1)).bind fun q2 =>
    some (q2.2.2.2.2.1, q2)
def f_X7_ends_c71 : Nat → ModS → Int32 → Option (Int32 × (ModS))
  | 0, _, _ => none
  | n + 1, T, v6 =>
    if 8 ≤ v6 then
      f_X7_ends_c104 (T.1, T.2.1, (T.2.2.1 - 1), T.2.2.2.1, T.2.2.2.2.1, T.2.2.2.2.2.1, T.2.2.2.2.2.2.1, T.2.2.2.2.2.2.2.1, T.2.2.2.2.2.2.2.2.1, T.2.2.2.2.2.2.2.2.2.1, T.2.2.2.2.2.2.2.2.2.2.1, T.2.2.2.2.2.2.2.2.2.2.2.1, T.2.2.2.2.2.2.2.2.2.2.2.2.1, T.2.2.2.2.2.2.2.2.2.2.2.2.2.1, T.2.2.2.2.2.2.2.2.2.2.2.2.2.2.1, T.2.2.2.2.2.2.2.2.2.2.2.2.2.2.2.1, T.2.2.2.2.2.2.2.2.2.2.2.2.2.2.2.2)
    else
      (f_X7_copies T (v6 + 1) v6).bind fun q5 =>
      f_X7_ends_c71 n q5 (v6 + 1)
def f_X7_ends (T : ModS) (p1 : Int32) (p2 : Int32) (p3 : Int32) (p4 : Int32) (p5 : Int32) : Option (Int32 × (ModS)) :=
    if p1 = 1 then
      if p2 = 0 then
        if T.2.2.1 = 8 then
          f_X7_ends_c71 200 (p2, T.2.1, T.2.2.1, T.2.2.2.1, T.2.2.2.2.1, T.2.2.2.2.2.1, T.2.2.2.2.2.2.1, T.2.2.2.2.2.2.2.1, T.2.2.2.2.2.2.2.2.1, T.2.2.2.2.2.2.2.2.2.1, T.2.2.2.2.2.2.2.2.2.2.1, T.2.2.2.2.2.2.2.2.2.2.2.1, T.2.2.2.2.2.2.2.2.2.2.2.2.1, T.2.2.2.2.2.2.2.2.2.2.2.2.2.1, T.2.2.2.2.2.2.2.2.2.2.2.2.2.2.1, T.2.2.2.2.2.2.2.2.2.2.2.2.2.2.2.1, T.2.2.2.2.2.2.2.2.2.2.2.2.2.2.2.2) 1
        else
          f_X7_ends_c104 (p2, T.2.1, T.2.2.1, T.2.2.2.1, T.2.2.2.2.1, T.2.2.2.2.2.1, T.2.2.2.2.2.2.1, T.2.2.2.2.2.2.2.1, T.2.2.2.2.2.2.2.2.1, T.2.2.2.2.2.2.2.2.2.1, T.2.2.2.2.2.2.2.2.2.2.1, T.2.2.2.2.2.2.2.2.2.2.2.1, T.2.2.2.2.2.2.2.2.2.2.2.2.1, T.2.2.2.2.2.2.2.2.2.2.2.2.2.1, T.2.2.2.2.2.2.2.2.2.2.2.2.2.2.1, T.2.2.2.2.2.2.2.2.2.2.2.2.2.2.2.1, T.2.2.2.2.2.2.2.2.2.2.2.2.2.2.2.2)
      else
        (f_X7_copies (p2, T.2.1, T.2.2.1, T.2.2.2.1, T.2.2.2.2.1, T.2.2.2.2.2.1, T.2.2.2.2.2.2.1, T.2.2.2.2.2.2.2.1, T.2.2.2.2.2.2.2.2.1, T.2.2.2.2.2.2.2.2.2.1, T.2.2.2.2.2.2.2.2.2.2.1, T.2.2.2.2.2.2.2.2.2.2.2.1, T.2.2.2.2.2.2.2.2.2.2.2.2.1, T.2.2.2.2.2.2.2.2.2.2.2.2.2.1, T.2.2.2.2.2.2.2.2.2.2.2.2.2.2.1, T.2.2.2.2.2.2.2.2.2.2.2.2.2.2.2.1, T.2.2.2.2.2.2.2.2.2.2.2.2.2.2.2.2) 10 0).bind fun q26 =>
        some (0, q26)
    else
      if p1 = 2 then
        if p3 = 0 then
          if T.2.2.1 = 8 then
            f_X7_ends_c71 200 (p3, T.2.1, T.2.2.1, T.2.2.2.1, T.2.2.2.2.1, T.2.2.2.2.2.1, T.2.2.2.2.2.2.1, T.2.2.2.2.2.2.2.1, T.2.2.2.2.2.2.2.2.1, T.2.2.2.2.2.2.2.2.2.1, T.2.2.2.2.2.2.2.2.2.2.1, T.2.2.2.2.2.2.2.2.2.2.2.1, T.2.2.2.2.2.2.2.2.2.2.2.2.1, T.2.2.2.2.2.2.2.2.2.2.2.2.2.1, T.2.2.2.2.2.2.2.2.2.2.2.2.2.2.1, T.2.2.2.2.2.2.2.2.2.2.2.2.2.2.2.1, T.2.2.2.2.2.2.2.2.2.2.2.2.2.2.2.2) 1
          else
            f_X7_ends_c104 (p3, T.2.1, T.2.2.1, T.2.2.2.1, T.2.2.2.2.1, T.2.2.2.2.2.1, T.2.2.2.2.2.2.1, T.2.2.2.2.2.2.2.1, T.2.2.2.2.2.2.2.2.1, T.2.2.2.2.2.2.2.2.2.1, T.2.2.2.2.2.2.2.2.2.2.1, T.2.2.2.2.2.2.2.2.2.2.2.1, T.2.2.2.2.2.2.2.2.2.2.2.2.1, T.2.2.2.2.2.2.2.2.2.2.2.2.2.1, T.2.2.2.2.2.2.2.2.2.2.2.2.2.2.1, T.2.2.2.2.2.2.2.2.2.2.2.2.2.2.2.1, T.2.2.2.2.2.2.2.2.2.2.2.2.2.2.2.2)
        else
          (f_X7_copies (p3, T.2.1, T.2.2.1, T.2.2.2.1, T.2.2.2.2.1, T.2.2.2.2.2.1, T.2.2.2.2.2.2.1, T.2.2.2.2.2.2.2.1, T.2.2.2.2.2.2.2.2.1, T.2.2.2.2.2.2.2.2.2.1, T.2.2.2.2.2.2.2.2.2.2.1, T.2.2.2.2.2.2.2.2.2.2.2.1, T.2.2.2.2.2.2.2.2.2.2.2.2.1, T.2.2.2.2.2.2.2.2.2.2.2.2.2.1, T.2.2.2.2.2.2.2.2.2.2.2.2.2.2.1, T.2.2.2.2.2.2.2.2.2.2.2.2.2.2.2.1, T.2.2.2.2.2.2.2.2.2.2.2.2.2.2.2.2) 10 0).bind fun q22 =>
          some (0, q22)
      else
        if p1 = 3 then
          if p4 = 0 then
            if T.2.2.1 = 8 then
              f_X7_ends_c71 200 (p4, T.2.1, T.2.2.1, T.2.2.2.1, T.2.2.2.2.1, T.2.2.2.2.2.1, T.2.2.2.2.2.2.1, T.2.2.2.2.2.2.2.1, T.2.2.2.2.2.2.2.2.1, T.2.2.2.2.2.2.2.2.2.1, T.2.2.2.2.2.2.2.2.2.2.1, T.2.2.2.2.2.2.2.2.2.2.2.1, T.2.2.2.2.2.2.2.2.2.2.2.2.1, T.2.2.2.2.2.2.2.2.2.2.2.2.2.1, T.2.2.2.2.2.2.2.2.2.2.2.2.2.2.1, T.2.2.2.2.2.2.2.2.2.2.2.2.2.2.2.1, T.2.2.2.2.2.2.2.2.2.2.2.2.2.2.2.2) 1
            else
              f_X7_ends_c104 (p4, T.2.1, T.2.2.1, T.2.2.2.1, T.2.2.2.2.1, T.2.2.2.2.2.1, T.2.2.2.2.2.2.1, T.2.2.2.2.2.2.2.1, T.2.2.2.2.2.2.2.2.1, T.2.2.2.2.2.2.2.2.2.1, T.2.2.2.2.2.2.2.2.2.2.1, T.2.2.2.2.2.2.2.2.2.2.2.1, T.2.2.2.2.2.2.2.2.2.2.2.2.1, T.2.2.2.2.2.2.2.2.2.2.2.2.2.1, T.2.2.2.2.2.2.2.2.2.2.2.2.2.2.1, T.2.2.2.2.2.2.2.2.2.2.2.2.2.2.2.1, T.2.2.2.2.2.2.2.2.2.2.2.2.2.2.2.2)
          else
            (f_X7_copies (p4, T.2.1, T.2.2.1, T.2.2.2.1, T.2.2.2.2.1, T.2.2.2.2.2.1, T.2.2.2.2.2.2.1, T.2.2.2.2.2.2.2.1, T.2.2.2.2.2.2.2.2.1, T.2.2.2.2.2.2.2.2.2.1, T.2.2.2.2.2.2.2.2.2.2.1, T.2.2.2.2.2.2.2.2.2.2.2.1, T.2.2.2.2.2.2.2.2.2.2.2.2.1, T.2.2.2.2.2.2.2.2.2.2.2.2.2.1, T.2.2.2.2.2.2.2.2.2.2.2.2.2.2.1, T.2.2.2.2.2.2.2.2.2.2.2.2.2.2.2.1, T.2.2.2.2.2.2.2.2.2.2.2.2.2.2.2.2) 10 0).bind fun q18 =>
            some (0, q18)
        else
          if p1 = 4 then
            if p5 = 0 then
              if T.2.2.1 = 8 then
                f_X7_ends_c71 200 (p5, T.2.1, T.2.2.1, T.2.2.2.1, T.2.2.2.2.1, T.2.2.2.2.2.1, T.2.2.2.2.2.2.1, T.2.2.2.2.2.2.2.1, T.2.2.2.2.2.2.2.2.1, T.2.2.2.2.2.2.2.2.2.1, T.2.2.2.2.2.2.2.2.2.2.1, T.2.2.2.2.2.2.2.2.2.2.2.1, T.2.2.2.2.2.2.2.2.2.2.2.2.1, T.2.2.2.2.2.2.2.2.2.2.2.2.2.1, T.2.2.2.2.2.2.2.2.2.2.2.2.2.2.1, T.2.2.2.2.2.2.2.2.2.2.2.2.2.2.2.1, T.2.2.2.2.2.2.2.2.2.2.2.2.2.2.2.2) 1
              else
                f_X7_ends_c104 (p5, T.2.1, T.2.2.1, T.2.2.2.1, T.2.2.2.2.1, T.2.2.2.2.2.1, T.2.2.2.2.2.2.1, T.2.2.2.2.2.2.2.1, T.2.2.2.2.2.2.2.2.1, T.2.2.2.2.2.2.2.2.2.1, T.2.2.2.2.2.2.2.2.2.2.1, T.2.2.2.2.2.2.2.2.2.2.2.1, T.2.2.2.2.2.2.2.2.2.2.2.2.1, T.2.2.2.2.2.2.2.2.2.2.2.2.2.1, T.2.2.2.2.2.2.2.2.2.2.2.2.2.2.1, T.2.2.2.2.2.2.2.2.2.2.2.2.2.2.2.1, T.2.2.2.2.2.2.2.2.2.2.2.2.2.2.2.2)
            else
              (f_X7_copies (p5, T.2.1, T.2.2.1, T.2.2.2.1, T.2.2.2.2.1, T.2.2.2.2.2.1, T.2.2.2.2.2.2.1, T.2.2.2.2.2.2.2.1, T.2.2.2.2.2.2.2.2.1, T.2.2.2.2.2.2.2.2.2.1, T.2.2.2.2.2.2.2.2.2.2.1, T.2.2.2.2.2.2.2.2.2.2.2.1, T.2.2.2.2.2.2.2.2.2.2.2.2.1, T.2.2.2.2.2.2.2.2.2.2.2.2.2.1, T.2.2.2.2.2.2.2.2.2.2.2.2.2.2.1, T.2.2.2.2.2.2.2.2.2.2.2.2.2.2.2.1, T.2.2.2.2.2.2.2.2.2.2.2.2.2.2.2.2) 10 0).bind fun q14 =>
              some (0, q14)
          else
            if T.2.2.1 = 8 then
              f_X7_ends_c71 200 (0, T.2.1, T.2.2.1, T.2.2.2.1, T.2.2.2.2.1, T.2.2.2.2.2.1, T.2.2.2.2.2.2.1, T.2.2.2.2.2.2.2.1, T.2.2.2.2.2.2.2.2.1, T.2.2.2.2.2.2.2.2.2.1, T.2.2.2.2.2.2.2.2.2.2.1, T.2.2.2.2.2.2.2.2.2.2.2.1, T.2.2.2.2.2.2.2.2.2.2.2.2.1, T.2.2.2.2.2.2.2.2.2.2.2.2.2.1, T.2.2.2.2.2.2.2.2.2.2.2.2.2.2.1, T.2.2.2.2.2.2.2.2.2.2.2.2.2.2.2.1, T.2.2.2.2.2.2.2.2.2.2.2.2.2.2.2.2) 1
            else
              f_X7_ends_c104 (0, T.2.1, T.2.2.1, T.2.2.2.1, T.2.2.2.2.1, T.2.2.2.2.2.1, T.2.2.2.2.2.2.1, T.2.2.2.2.2.2.2.1, T.2.2.2.2.2.2.2.2.1, T.2.2.2.2.2.2.2.2.2.1, T.2.2.2.2.2.2.2.2.2.2.1, T.2.2.2.2.2.2.2.2.2.2.2.1, T.2.2.2.2.2.2.2.2.2.2.2.2.1, T.2.2.2.2.2.2.2.2.2.2.2.2.2.1, T.2.2.2.2.2.2.2.2.2.2.2.2.2.2.1, T.2.2.2.2.2.2.2.2.2.2.2.2.2.2.2.1, T.2.2.2.2.2.2.2.2.2.2.2.2.2.2.2.2)
set_option maxHeartbeats 4000000 in
set_option maxRecDepth 100000 in
theorem c_X7_ends (l : Launch) (g : pq_g) (a : Nat → Nat) (T : ModS) (p1 : Int32) (p2 : Int32) (p3 : Int32) (p4 : Int32) (p5 : Int32) (r : Int32) (T1 : ModS) (hf : f_X7_ends T p1 p2 p3 p4 p5 = some (r, T1)) : pq_Mi l yX7_ends cX7_ends 7 .int 2 g (modW g a T) [.ref (a 0), .int p1, .int p2, .int p3, .int p4, .int p5] r (modW g a T1) := by
  rw [f_X7_ends] at hf
  refine pq_Mi.of (own := RX7) (by decide) rfl (Nat.le_of_ble_eq_true rfl) rfl ?_
  intro p e s m below meth c ls Q A S hP hK hD hS hA hl hend
  obtain ⟨hx, hb, hml, hown, hts⟩ := id S
  have B104 : ∀ (T : ModS) (ls : Array Slot) (H : Heap) (locs : List Loc), va_P g.1 pq_cl (modW g a T) H → va_D A (modW g a T) → va_S A s.heap H locs → lv_has ls 7 [(0, .ref (a 0))] → f_X7_ends_c104 T = some (r, T1) → W p l e (pq_rm 2 0 0) s m ([.ref (a 0), .int p1, .int p2, .int p3, .int p4, .int p5] : List Value).toArray below meth c H locs 0 0 Q (F0 m 104 ls []) := by
    intro T ls H locs hP hD hS hl hf
    rw [f_X7_ends_c104] at hf
    refine lv_aload_n hx hb dX7_ends_104 rfl (lv_at hl 0 rfl) ?_
    refine lv_dup hx hb dX7_ends_105 rfl ?_
    refine pq_get S hK hP inX7 0 rfl rfl 2 (by decide) fl_X7_38 rfl (v := .int T.2.2.1) rfl dX7_ends_106 ?_
    refine lv_iconst (v := 1) hx hb dX7_ends_109 (by decide) ?_
    refine lv_iadd hx hb dX7_ends_110 ?_
    refine pq_putf S hK hP hD hS inX7 tyX7_ok nmX7 0 rfl rfl 2 (by decide) fl_X7_38 rfl rfl (ty := .int) rfl rfl rfl (Nat.le_of_ble_eq_true rfl) dX7_ends_111 (fun H locs hP hS => ?_)
    replace hP : va_P g.1 pq_cl (modW g a (T.1, T.2.1, (T.2.2.1 + 1), T.2.2.2.1, T.2.2.2.2.1, T.2.2.2.2.2.1, T.2.2.2.2.2.2.1, T.2.2.2.2.2.2.2.1, T.2.2.2.2.2.2.2.2.1, T.2.2.2.2.2.2.2.2.2.1, T.2.2.2.2.2.2.2.2.2.2.1, T.2.2.2.2.2.2.2.2.2.2.2.1, T.2.2.2.2.2.2.2.2.2.2.2.2.1, T.2.2.2.2.2.2.2.2.2.2.2.2.2.1, T.2.2.2.2.2.2.2.2.2.2.2.2.2.2.1, T.2.2.2.2.2.2.2.2.2.2.2.2.2.2.2.1, T.2.2.2.2.2.2.2.2.2.2.2.2.2.2.2.2)) H := hP
    replace hD : va_D A (modW g a (T.1, T.2.1, (T.2.2.1 + 1), T.2.2.2.1, T.2.2.2.2.1, T.2.2.2.2.2.1, T.2.2.2.2.2.2.1, T.2.2.2.2.2.2.2.1, T.2.2.2.2.2.2.2.2.1, T.2.2.2.2.2.2.2.2.2.1, T.2.2.2.2.2.2.2.2.2.2.1, T.2.2.2.2.2.2.2.2.2.2.2.1, T.2.2.2.2.2.2.2.2.2.2.2.2.1, T.2.2.2.2.2.2.2.2.2.2.2.2.2.1, T.2.2.2.2.2.2.2.2.2.2.2.2.2.2.1, T.2.2.2.2.2.2.2.2.2.2.2.2.2.2.2.1, T.2.2.2.2.2.2.2.2.2.2.2.2.2.2.2.2)) := pq_adr hD (ad_X7 _ _)
    refine lv_aload_n hx hb dX7_ends_114 rfl (lv_at hl 0 rfl) ?_
    refine lv_bipush (v := 10) hx hb dX7_ends_115 (by decide) ?_
    refine lv_aload_n hx hb dX7_ends_117 rfl (lv_at hl 0 rfl) ?_
    refine pq_get S hK hP inX7 0 rfl rfl 2 (by decide) fl_X7_38 rfl (v := .int (T.2.2.1 + 1)) rfl dX7_ends_118 ?_
    obtain ⟨q2, e1, hf⟩ := pq_bind hf
    refine pq_cVv S (c_X7_copies l g a (T.1, T.2.1, (T.2.2.1 + 1), T.2.2.2.1, T.2.2.2.2.1, T.2.2.2.2.2.1, T.2.2.2.2.2.2.1, T.2.2.2.2.2.2.2.1, T.2.2.2.2.2.2.2.2.1, T.2.2.2.2.2.2.2.2.2.1, T.2.2.2.2.2.2.2.2.2.2.1, T.2.2.2.2.2.2.2.2.2.2.2.1, T.2.2.2.2.2.2.2.2.2.2.2.2.1, T.2.2.2.2.2.2.2.2.2.2.2.2.2.1, T.2.2.2.2.2.2.2.2.2.2.2.2.2.2.1, T.2.2.2.2.2.2.2.2.2.2.2.2.2.2.2.1, T.2.2.2.2.2.2.2.2.2.2.2.2.2.2.2.2) 10 (T.2.2.1 + 1) q2 e1) vv_X7_34 hK hP hD hS hA rfl rfl rfl rfl rfl hl.1 (Nat.le_of_ble_eq_true rfl) dX7_ends_121 (by decide) (by decide) ⟨Nat.le_refl _, Nat.le_refl _⟩ (fun H9 locs hk hP1 hS => ?_)
    replace hP := hP1
    replace hP : va_P g.1 pq_cl (modW g a q2) H9 := hP
    replace hD : va_D A (modW g a q2) := pq_adr hD (ad_X7 _ _)
    clear hk
    generalize H9 = H at hP hS ⊢
    refine lv_aload_n hx hb dX7_ends_124 rfl (lv_at hl 0 rfl) ?_
    refine pq_get S hK hP inX7 0 rfl rfl 4 (by decide) fl_X7_41 rfl (v := .int q2.2.2.2.2.1) rfl dX7_ends_125 ?_
    obtain ⟨h8, h9⟩ := pq_pair hf
    exact hend _ _ _ _ _ dX7_ends_128 rfl h8 (by rw [← h9]; exact hP) hS
  have B71 : ∀ (n71 : Nat) (T : ModS) (v6 : Int32) (ls : Array Slot) (H : Heap) (locs : List Loc), va_P g.1 pq_cl (modW g a T) H → va_D A (modW g a T) → va_S A s.heap H locs → lv_has ls 7 [(0, .ref (a 0)), (6, .int v6)] → f_X7_ends_c71 n71 T v6 = some (r, T1) → W p l e (pq_rm 2 0 0) s m ([.ref (a 0), .int p1, .int p2, .int p3, .int p4, .int p5] : List Value).toArray below meth c H locs 0 0 Q (F0 m 71 ls []) := by
    intro n71
    induction n71 with
    | zero =>
      intro T v6 ls H locs hP hD hS hl hf
      exact absurd hf (by simp [f_X7_ends_c71])
    | succ n71 ih71 =>
      intro T v6 ls H locs hP hD hS hl hf
      rw [f_X7_ends_c71] at hf
      refine lv_iload hx hb dX7_ends_71 (lv_at hl 1 rfl) ?_
      refine lv_bipush (v := 8) hx hb dX7_ends_73 (by decide) ?_
      refine lv_icmp_ge (tgt := 94) hx hb dX7_ends_75 (by decide) (fun h3 => ?_) (fun h3 => ?_)
      · replace hf := pq_ifp h3 hf
        refine lv_aload_n hx hb dX7_ends_94 rfl (lv_at hl 0 rfl) ?_
        refine lv_dup hx hb dX7_ends_95 rfl ?_
        refine pq_get S hK hP inX7 0 rfl rfl 2 (by decide) fl_X7_38 rfl (v := .int T.2.2.1) rfl dX7_ends_96 ?_
        refine lv_iconst (v := 1) hx hb dX7_ends_99 (by decide) ?_
        refine lv_isub hx hb dX7_ends_100 ?_
        refine pq_putf S hK hP hD hS inX7 tyX7_ok nmX7 0 rfl rfl 2 (by decide) fl_X7_38 rfl rfl (ty := .int) rfl rfl rfl (Nat.le_of_ble_eq_true rfl) dX7_ends_101 (fun H locs hP hS => ?_)
        replace hP : va_P g.1 pq_cl (modW g a (T.1, T.2.1, (T.2.2.1 - 1), T.2.2.2.1, T.2.2.2.2.1, T.2.2.2.2.2.1, T.2.2.2.2.2.2.1, T.2.2.2.2.2.2.2.1, T.2.2.2.2.2.2.2.2.1, T.2.2.2.2.2.2.2.2.2.1, T.2.2.2.2.2.2.2.2.2.2.1, T.2.2.2.2.2.2.2.2.2.2.2.1, T.2.2.2.2.2.2.2.2.2.2.2.2.1, T.2.2.2.2.2.2.2.2.2.2.2.2.2.1, T.2.2.2.2.2.2.2.2.2.2.2.2.2.2.1, T.2.2.2.2.2.2.2.2.2.2.2.2.2.2.2.1, T.2.2.2.2.2.2.2.2.2.2.2.2.2.2.2.2)) H := hP
        replace hD : va_D A (modW g a (T.1, T.2.1, (T.2.2.1 - 1), T.2.2.2.1, T.2.2.2.2.1, T.2.2.2.2.2.1, T.2.2.2.2.2.2.1, T.2.2.2.2.2.2.2.1, T.2.2.2.2.2.2.2.2.1, T.2.2.2.2.2.2.2.2.2.1, T.2.2.2.2.2.2.2.2.2.2.1, T.2.2.2.2.2.2.2.2.2.2.2.1, T.2.2.2.2.2.2.2.2.2.2.2.2.1, T.2.2.2.2.2.2.2.2.2.2.2.2.2.1, T.2.2.2.2.2.2.2.2.2.2.2.2.2.2.1, T.2.2.2.2.2.2.2.2.2.2.2.2.2.2.2.1, T.2.2.2.2.2.2.2.2.2.2.2.2.2.2.2.2)) := pq_adr hD (ad_X7 _ _)
        exact B104 (T.1, T.2.1, (T.2.2.1 - 1), T.2.2.2.1, T.2.2.2.2.1, T.2.2.2.2.2.1, T.2.2.2.2.2.2.1, T.2.2.2.2.2.2.2.1, T.2.2.2.2.2.2.2.2.1, T.2.2.2.2.2.2.2.2.2.1, T.2.2.2.2.2.2.2.2.2.2.1, T.2.2.2.2.2.2.2.2.2.2.2.1, T.2.2.2.2.2.2.2.2.2.2.2.2.1, T.2.2.2.2.2.2.2.2.2.2.2.2.2.1, T.2.2.2.2.2.2.2.2.2.2.2.2.2.2.1, T.2.2.2.2.2.2.2.2.2.2.2.2.2.2.2.1, T.2.2.2.2.2.2.2.2.2.2.2.2.2.2.2.2) ls _ _ hP hD hS (lv_sub hl [0] rfl) hf
      · replace hf := pq_ifn h3 hf
        refine lv_aload_n hx hb dX7_ends_78 rfl (lv_at hl 0 rfl) ?_
        refine lv_iload hx hb dX7_ends_79 (lv_at hl 1 rfl) ?_
        refine lv_iconst (v := 1) hx hb dX7_ends_81 (by decide) ?_
        refine lv_iadd hx hb dX7_ends_82 ?_
        refine lv_iload hx hb dX7_ends_83 (lv_at hl 1 rfl) ?_
        obtain ⟨q5, e4, hf⟩ := pq_bind hf
        refine pq_cVv S (c_X7_copies l g a T (v6 + 1) v6 q5 e4) vv_X7_34 hK hP hD hS hA rfl rfl rfl rfl rfl hl.1 (Nat.le_of_ble_eq_true rfl) dX7_ends_85 (by decide) (by decide) ⟨Nat.le_refl _, Nat.le_refl _⟩ (fun H9 locs hk hP1 hS => ?_)
        replace hP := hP1
        replace hP : va_P g.1 pq_cl (modW g a q5) H9 := hP
        replace hD : va_D A (modW g a q5) := pq_adr hD (ad_X7 _ _)
        clear hk
        generalize H9 = H at hP hS ⊢
        refine lv_iinc (v := (v6 + 1)) (lv' := [(6, .int (v6 + 1)), (0, .ref (a 0))]) hx hb dX7_ends_88 hl (k := 1) rfl rfl (by decide) rfl (fun ls hl => ?_)
        refine lv_goto (tgt := 71) hx hb dX7_ends_91 (by decide) ?_
        exact ih71 q5 (v6 + 1) ls _ _ hP hD hS (lv_sub hl [1, 0] rfl) hf
  refine lv_aload_n hx hb dX7_ends_0 rfl (lv_at hl 0 rfl) ?_
  refine lv_iload_n hx hb dX7_ends_1 rfl (lv_at hl 1 rfl) ?_
  refine lv_iconst (v := 1) hx hb dX7_ends_2 (by decide) ?_
  refine lv_icmp_ne (tgt := 10) hx hb dX7_ends_3 (by decide) (fun h6 => ?_) (fun h6 => ?_)
  · replace hf := pq_ifn h6 hf
    refine lv_iload_n hx hb dX7_ends_10 rfl (lv_at hl 1 rfl) ?_
    refine lv_iconst (v := 2) hx hb dX7_ends_11 (by decide) ?_
    refine lv_icmp_ne (tgt := 19) hx hb dX7_ends_12 (by decide) (fun h7 => ?_) (fun h7 => ?_)
    · replace hf := pq_ifn h7 hf
      refine lv_iload_n hx hb dX7_ends_19 rfl (lv_at hl 1 rfl) ?_
      refine lv_iconst (v := 3) hx hb dX7_ends_20 (by decide) ?_
      refine lv_icmp_ne (tgt := 29) hx hb dX7_ends_21 (by decide) (fun h8 => ?_) (fun h8 => ?_)
      · replace hf := pq_ifn h8 hf
        refine lv_iload_n hx hb dX7_ends_29 rfl (lv_at hl 1 rfl) ?_
        refine lv_iconst (v := 4) hx hb dX7_ends_30 (by decide) ?_
        refine lv_icmp_ne (tgt := 39) hx hb dX7_ends_31 (by decide) (fun h9 => ?_) (fun h9 => ?_)
        · replace hf := pq_ifn h9 hf
          refine lv_iconst (v := 0) hx hb dX7_ends_39 (by decide) ?_
          refine pq_putf S hK hP hD hS inX7 tyX7_ok nmX7 0 rfl rfl 0 (by decide) fl_X7_27 rfl rfl (ty := .int) rfl rfl rfl (Nat.le_of_ble_eq_true rfl) dX7_ends_40 (fun H locs hP hS => ?_)
          replace hP : va_P g.1 pq_cl (modW g a (0, T.2.1, T.2.2.1, T.2.2.2.1, T.2.2.2.2.1, T.2.2.2.2.2.1, T.2.2.2.2.2.2.1, T.2.2.2.2.2.2.2.1, T.2.2.2.2.2.2.2.2.1, T.2.2.2.2.2.2.2.2.2.1, T.2.2.2.2.2.2.2.2.2.2.1, T.2.2.2.2.2.2.2.2.2.2.2.1, T.2.2.2.2.2.2.2.2.2.2.2.2.1, T.2.2.2.2.2.2.2.2.2.2.2.2.2.1, T.2.2.2.2.2.2.2.2.2.2.2.2.2.2.1, T.2.2.2.2.2.2.2.2.2.2.2.2.2.2.2.1, T.2.2.2.2.2.2.2.2.2.2.2.2.2.2.2.2)) H := hP
          replace hD : va_D A (modW g a (0, T.2.1, T.2.2.1, T.2.2.2.1, T.2.2.2.2.1, T.2.2.2.2.2.1, T.2.2.2.2.2.2.1, T.2.2.2.2.2.2.2.1, T.2.2.2.2.2.2.2.2.1, T.2.2.2.2.2.2.2.2.2.1, T.2.2.2.2.2.2.2.2.2.2.1, T.2.2.2.2.2.2.2.2.2.2.2.1, T.2.2.2.2.2.2.2.2.2.2.2.2.1, T.2.2.2.2.2.2.2.2.2.2.2.2.2.1, T.2.2.2.2.2.2.2.2.2.2.2.2.2.2.1, T.2.2.2.2.2.2.2.2.2.2.2.2.2.2.2.1, T.2.2.2.2.2.2.2.2.2.2.2.2.2.2.2.2)) := pq_adr hD (ad_X7 _ _)
          refine lv_aload_n hx hb dX7_ends_43 rfl (lv_at hl 0 rfl) ?_
          refine pq_get S hK hP inX7 0 rfl rfl 0 (by decide) fl_X7_27 rfl (v := .int 0) rfl dX7_ends_44 ?_
          refine lv_if_eq (tgt := 59) hx hb dX7_ends_47 (by decide) (fun _ => ?_) (fun h9 => absurd h9 (by decide))
          refine lv_aload_n hx hb dX7_ends_59 rfl (lv_at hl 0 rfl) ?_
          refine pq_get S hK hP inX7 0 rfl rfl 2 (by decide) fl_X7_38 rfl (v := .int T.2.2.1) rfl dX7_ends_60 ?_
          refine lv_bipush (v := 8) hx hb dX7_ends_63 (by decide) ?_
          refine lv_icmp_ne (tgt := 104) hx hb dX7_ends_65 (by decide) (fun h10 => ?_) (fun h10 => ?_)
          · replace hf := pq_ifn h10 hf
            exact B104 (0, T.2.1, T.2.2.1, T.2.2.2.1, T.2.2.2.2.1, T.2.2.2.2.2.1, T.2.2.2.2.2.2.1, T.2.2.2.2.2.2.2.1, T.2.2.2.2.2.2.2.2.1, T.2.2.2.2.2.2.2.2.2.1, T.2.2.2.2.2.2.2.2.2.2.1, T.2.2.2.2.2.2.2.2.2.2.2.1, T.2.2.2.2.2.2.2.2.2.2.2.2.1, T.2.2.2.2.2.2.2.2.2.2.2.2.2.1, T.2.2.2.2.2.2.2.2.2.2.2.2.2.2.1, T.2.2.2.2.2.2.2.2.2.2.2.2.2.2.2.1, T.2.2.2.2.2.2.2.2.2.2.2.2.2.2.2.2) ls _ _ hP hD hS (lv_sub hl [0] rfl) hf
          · replace hf := pq_ifp h10 hf
            refine lv_iconst (v := 1) hx hb dX7_ends_68 (by decide) ?_
            refine lv_istore (lv' := [(6, .int 1), (0, .ref (a 0)), (1, .int p1), (2, .int p2), (3, .int p3), (4, .int p4), (5, .int p5)]) hx hb dX7_ends_69 hl (by decide) rfl (fun ls hl => ?_)
            exact B71 200 (0, T.2.1, T.2.2.1, T.2.2.2.1, T.2.2.2.2.1, T.2.2.2.2.2.1, T.2.2.2.2.2.2.1, T.2.2.2.2.2.2.2.1, T.2.2.2.2.2.2.2.2.1, T.2.2.2.2.2.2.2.2.2.1, T.2.2.2.2.2.2.2.2.2.2.1, T.2.2.2.2.2.2.2.2.2.2.2.1, T.2.2.2.2.2.2.2.2.2.2.2.2.1, T.2.2.2.2.2.2.2.2.2.2.2.2.2.1, T.2.2.2.2.2.2.2.2.2.2.2.2.2.2.1, T.2.2.2.2.2.2.2.2.2.2.2.2.2.2.2.1, T.2.2.2.2.2.2.2.2.2.2.2.2.2.2.2.2) 1 ls _ _ hP hD hS (lv_sub hl [1, 0] rfl) hf
        · replace hf := pq_ifp h9 hf
          refine lv_iload hx hb dX7_ends_34 (lv_at hl 5 rfl) ?_
          refine lv_goto (tgt := 40) hx hb dX7_ends_36 (by decide) ?_
          refine pq_putf S hK hP hD hS inX7 tyX7_ok nmX7 0 rfl rfl 0 (by decide) fl_X7_27 rfl rfl (ty := .int) rfl rfl rfl (Nat.le_of_ble_eq_true rfl) dX7_ends_40 (fun H locs hP hS => ?_)
          replace hP : va_P g.1 pq_cl (modW g a (p5, T.2.1, T.2.2.1, T.2.2.2.1, T.2.2.2.2.1, T.2.2.2.2.2.1, T.2.2.2.2.2.2.1, T.2.2.2.2.2.2.2.1, T.2.2.2.2.2.2.2.2.1, T.2.2.2.2.2.2.2.2.2.1, T.2.2.2.2.2.2.2.2.2.2.1, T.2.2.2.2.2.2.2.2.2.2.2.1, T.2.2.2.2.2.2.2.2.2.2.2.2.1, T.2.2.2.2.2.2.2.2.2.2.2.2.2.1, T.2.2.2.2.2.2.2.2.2.2.2.2.2.2.1, T.2.2.2.2.2.2.2.2.2.2.2.2.2.2.2.1, T.2.2.2.2.2.2.2.2.2.2.2.2.2.2.2.2)) H := hP
          replace hD : va_D A (modW g a (p5, T.2.1, T.2.2.1, T.2.2.2.1, T.2.2.2.2.1, T.2.2.2.2.2.1, T.2.2.2.2.2.2.1, T.2.2.2.2.2.2.2.1, T.2.2.2.2.2.2.2.2.1, T.2.2.2.2.2.2.2.2.2.1, T.2.2.2.2.2.2.2.2.2.2.1, T.2.2.2.2.2.2.2.2.2.2.2.1, T.2.2.2.2.2.2.2.2.2.2.2.2.1, T.2.2.2.2.2.2.2.2.2.2.2.2.2.1, T.2.2.2.2.2.2.2.2.2.2.2.2.2.2.1, T.2.2.2.2.2.2.2.2.2.2.2.2.2.2.2.1, T.2.2.2.2.2.2.2.2.2.2.2.2.2.2.2.2)) := pq_adr hD (ad_X7 _ _)
          refine lv_aload_n hx hb dX7_ends_43 rfl (lv_at hl 0 rfl) ?_
          refine pq_get S hK hP inX7 0 rfl rfl 0 (by decide) fl_X7_27 rfl (v := .int p5) rfl dX7_ends_44 ?_
          refine lv_if_eq (tgt := 59) hx hb dX7_ends_47 (by decide) (fun h11 => ?_) (fun h11 => ?_)
          · replace hf := pq_ifp h11 hf
            refine lv_aload_n hx hb dX7_ends_59 rfl (lv_at hl 0 rfl) ?_
            refine pq_get S hK hP inX7 0 rfl rfl 2 (by decide) fl_X7_38 rfl (v := .int T.2.2.1) rfl dX7_ends_60 ?_
            refine lv_bipush (v := 8) hx hb dX7_ends_63 (by decide) ?_
            refine lv_icmp_ne (tgt := 104) hx hb dX7_ends_65 (by decide) (fun h12 => ?_) (fun h12 => ?_)
            · replace hf := pq_ifn h12 hf
              exact B104 (p5, T.2.1, T.2.2.1, T.2.2.2.1, T.2.2.2.2.1, T.2.2.2.2.2.1, T.2.2.2.2.2.2.1, T.2.2.2.2.2.2.2.1, T.2.2.2.2.2.2.2.2.1, T.2.2.2.2.2.2.2.2.2.1, T.2.2.2.2.2.2.2.2.2.2.1, T.2.2.2.2.2.2.2.2.2.2.2.1, T.2.2.2.2.2.2.2.2.2.2.2.2.1, T.2.2.2.2.2.2.2.2.2.2.2.2.2.1, T.2.2.2.2.2.2.2.2.2.2.2.2.2.2.1, T.2.2.2.2.2.2.2.2.2.2.2.2.2.2.2.1, T.2.2.2.2.2.2.2.2.2.2.2.2.2.2.2.2) ls _ _ hP hD hS (lv_sub hl [0] rfl) hf
            · replace hf := pq_ifp h12 hf
              refine lv_iconst (v := 1) hx hb dX7_ends_68 (by decide) ?_
              refine lv_istore (lv' := [(6, .int 1), (0, .ref (a 0)), (1, .int p1), (2, .int p2), (3, .int p3), (4, .int p4), (5, .int p5)]) hx hb dX7_ends_69 hl (by decide) rfl (fun ls hl => ?_)
              exact B71 200 (p5, T.2.1, T.2.2.1, T.2.2.2.1, T.2.2.2.2.1, T.2.2.2.2.2.1, T.2.2.2.2.2.2.1, T.2.2.2.2.2.2.2.1, T.2.2.2.2.2.2.2.2.1, T.2.2.2.2.2.2.2.2.2.1, T.2.2.2.2.2.2.2.2.2.2.1, T.2.2.2.2.2.2.2.2.2.2.2.1, T.2.2.2.2.2.2.2.2.2.2.2.2.1, T.2.2.2.2.2.2.2.2.2.2.2.2.2.1, T.2.2.2.2.2.2.2.2.2.2.2.2.2.2.1, T.2.2.2.2.2.2.2.2.2.2.2.2.2.2.2.1, T.2.2.2.2.2.2.2.2.2.2.2.2.2.2.2.2) 1 ls _ _ hP hD hS (lv_sub hl [1, 0] rfl) hf
          · replace hf := pq_ifn h11 hf
            refine lv_aload_n hx hb dX7_ends_50 rfl (lv_at hl 0 rfl) ?_
            refine lv_bipush (v := 10) hx hb dX7_ends_51 (by decide) ?_
            refine lv_iconst (v := 0) hx hb dX7_ends_53 (by decide) ?_
            obtain ⟨q14, e13, hf⟩ := pq_bind hf
            refine pq_cVv S (c_X7_copies l g a (p5, T.2.1, T.2.2.1, T.2.2.2.1, T.2.2.2.2.1, T.2.2.2.2.2.1, T.2.2.2.2.2.2.1, T.2.2.2.2.2.2.2.1, T.2.2.2.2.2.2.2.2.1, T.2.2.2.2.2.2.2.2.2.1, T.2.2.2.2.2.2.2.2.2.2.1, T.2.2.2.2.2.2.2.2.2.2.2.1, T.2.2.2.2.2.2.2.2.2.2.2.2.1, T.2.2.2.2.2.2.2.2.2.2.2.2.2.1, T.2.2.2.2.2.2.2.2.2.2.2.2.2.2.1, T.2.2.2.2.2.2.2.2.2.2.2.2.2.2.2.1, T.2.2.2.2.2.2.2.2.2.2.2.2.2.2.2.2) 10 0 q14 e13) vv_X7_34 hK hP hD hS hA rfl rfl rfl rfl rfl hl.1 (Nat.le_of_ble_eq_true rfl) dX7_ends_54 (by decide) (by decide) ⟨Nat.le_refl _, Nat.le_refl _⟩ (fun H9 locs hk hP1 hS => ?_)
            replace hP := hP1
            replace hP : va_P g.1 pq_cl (modW g a q14) H9 := hP
            replace hD : va_D A (modW g a q14) := pq_adr hD (ad_X7 _ _)
            clear hk
            generalize H9 = H at hP hS ⊢
            refine lv_iconst (v := 0) hx hb dX7_ends_57 (by decide) ?_
            obtain ⟨h8, h9⟩ := pq_pair hf
            exact hend _ _ _ _ _ dX7_ends_58 rfl h8 (by rw [← h9]; exact hP) hS
      · replace hf := pq_ifp h8 hf
        refine lv_iload hx hb dX7_ends_24 (lv_at hl 4 rfl) ?_
        refine lv_goto (tgt := 40) hx hb dX7_ends_26 (by decide) ?_
        refine pq_putf S hK hP hD hS inX7 tyX7_ok nmX7 0 rfl rfl 0 (by decide) fl_X7_27 rfl rfl (ty := .int) rfl rfl rfl (Nat.le_of_ble_eq_true rfl) dX7_ends_40 (fun H locs hP hS => ?_)
        replace hP : va_P g.1 pq_cl (modW g a (p4, T.2.1, T.2.2.1, T.2.2.2.1, T.2.2.2.2.1, T.2.2.2.2.2.1, T.2.2.2.2.2.2.1, T.2.2.2.2.2.2.2.1, T.2.2.2.2.2.2.2.2.1, T.2.2.2.2.2.2.2.2.2.1, T.2.2.2.2.2.2.2.2.2.2.1, T.2.2.2.2.2.2.2.2.2.2.2.1, T.2.2.2.2.2.2.2.2.2.2.2.2.1, T.2.2.2.2.2.2.2.2.2.2.2.2.2.1, T.2.2.2.2.2.2.2.2.2.2.2.2.2.2.1, T.2.2.2.2.2.2.2.2.2.2.2.2.2.2.2.1, T.2.2.2.2.2.2.2.2.2.2.2.2.2.2.2.2)) H := hP
        replace hD : va_D A (modW g a (p4, T.2.1, T.2.2.1, T.2.2.2.1, T.2.2.2.2.1, T.2.2.2.2.2.1, T.2.2.2.2.2.2.1, T.2.2.2.2.2.2.2.1, T.2.2.2.2.2.2.2.2.1, T.2.2.2.2.2.2.2.2.2.1, T.2.2.2.2.2.2.2.2.2.2.1, T.2.2.2.2.2.2.2.2.2.2.2.1, T.2.2.2.2.2.2.2.2.2.2.2.2.1, T.2.2.2.2.2.2.2.2.2.2.2.2.2.1, T.2.2.2.2.2.2.2.2.2.2.2.2.2.2.1, T.2.2.2.2.2.2.2.2.2.2.2.2.2.2.2.1, T.2.2.2.2.2.2.2.2.2.2.2.2.2.2.2.2)) := pq_adr hD (ad_X7 _ _)
        refine lv_aload_n hx hb dX7_ends_43 rfl (lv_at hl 0 rfl) ?_
        refine pq_get S hK hP inX7 0 rfl rfl 0 (by decide) fl_X7_27 rfl (v := .int p4) rfl dX7_ends_44 ?_
        refine lv_if_eq (tgt := 59) hx hb dX7_ends_47 (by decide) (fun h15 => ?_) (fun h15 => ?_)
        · replace hf := pq_ifp h15 hf
          refine lv_aload_n hx hb dX7_ends_59 rfl (lv_at hl 0 rfl) ?_
          refine pq_get S hK hP inX7 0 rfl rfl 2 (by decide) fl_X7_38 rfl (v := .int T.2.2.1) rfl dX7_ends_60 ?_
          refine lv_bipush (v := 8) hx hb dX7_ends_63 (by decide) ?_
          refine lv_icmp_ne (tgt := 104) hx hb dX7_ends_65 (by decide) (fun h16 => ?_) (fun h16 => ?_)
          · replace hf := pq_ifn h16 hf
            exact B104 (p4, T.2.1, T.2.2.1, T.2.2.2.1, T.2.2.2.2.1, T.2.2.2.2.2.1, T.2.2.2.2.2.2.1, T.2.2.2.2.2.2.2.1, T.2.2.2.2.2.2.2.2.1, T.2.2.2.2.2.2.2.2.2.1, T.2.2.2.2.2.2.2.2.2.2.1, T.2.2.2.2.2.2.2.2.2.2.2.1, T.2.2.2.2.2.2.2.2.2.2.2.2.1, T.2.2.2.2.2.2.2.2.2.2.2.2.2.1, T.2.2.2.2.2.2.2.2.2.2.2.2.2.2.1, T.2.2.2.2.2.2.2.2.2.2.2.2.2.2.2.1, T.2.2.2.2.2.2.2.2.2.2.2.2.2.2.2.2) ls _ _ hP hD hS (lv_sub hl [0] rfl) hf
          · replace hf := pq_ifp h16 hf
            refine lv_iconst (v := 1) hx hb dX7_ends_68 (by decide) ?_
            refine lv_istore (lv' := [(6, .int 1), (0, .ref (a 0)), (1, .int p1), (2, .int p2), (3, .int p3), (4, .int p4), (5, .int p5)]) hx hb dX7_ends_69 hl (by decide) rfl (fun ls hl => ?_)
            exact B71 200 (p4, T.2.1, T.2.2.1, T.2.2.2.1, T.2.2.2.2.1, T.2.2.2.2.2.1, T.2.2.2.2.2.2.1, T.2.2.2.2.2.2.2.1, T.2.2.2.2.2.2.2.2.1, T.2.2.2.2.2.2.2.2.2.1, T.2.2.2.2.2.2.2.2.2.2.1, T.2.2.2.2.2.2.2.2.2.2.2.1, T.2.2.2.2.2.2.2.2.2.2.2.2.1, T.2.2.2.2.2.2.2.2.2.2.2.2.2.1, T.2.2.2.2.2.2.2.2.2.2.2.2.2.2.1, T.2.2.2.2.2.2.2.2.2.2.2.2.2.2.2.1, T.2.2.2.2.2.2.2.2.2.2.2.2.2.2.2.2) 1 ls _ _ hP hD hS (lv_sub hl [1, 0] rfl) hf
        · replace hf := pq_ifn h15 hf
          refine lv_aload_n hx hb dX7_ends_50 rfl (lv_at hl 0 rfl) ?_
          refine lv_bipush (v := 10) hx hb dX7_ends_51 (by decide) ?_
          refine lv_iconst (v := 0) hx hb dX7_ends_53 (by decide) ?_
          obtain ⟨q18, e17, hf⟩ := pq_bind hf
          refine pq_cVv S (c_X7_copies l g a (p4, T.2.1, T.2.2.1, T.2.2.2.1, T.2.2.2.2.1, T.2.2.2.2.2.1, T.2.2.2.2.2.2.1, T.2.2.2.2.2.2.2.1, T.2.2.2.2.2.2.2.2.1, T.2.2.2.2.2.2.2.2.2.1, T.2.2.2.2.2.2.2.2.2.2.1, T.2.2.2.2.2.2.2.2.2.2.2.1, T.2.2.2.2.2.2.2.2.2.2.2.2.1, T.2.2.2.2.2.2.2.2.2.2.2.2.2.1, T.2.2.2.2.2.2.2.2.2.2.2.2.2.2.1, T.2.2.2.2.2.2.2.2.2.2.2.2.2.2.2.1, T.2.2.2.2.2.2.2.2.2.2.2.2.2.2.2.2) 10 0 q18 e17) vv_X7_34 hK hP hD hS hA rfl rfl rfl rfl rfl hl.1 (Nat.le_of_ble_eq_true rfl) dX7_ends_54 (by decide) (by decide) ⟨Nat.le_refl _, Nat.le_refl _⟩ (fun H9 locs hk hP1 hS => ?_)
          replace hP := hP1
          replace hP : va_P g.1 pq_cl (modW g a q18) H9 := hP
          replace hD : va_D A (modW g a q18) := pq_adr hD (ad_X7 _ _)
          clear hk
          generalize H9 = H at hP hS ⊢
          refine lv_iconst (v := 0) hx hb dX7_ends_57 (by decide) ?_
          obtain ⟨h8, h9⟩ := pq_pair hf
          exact hend _ _ _ _ _ dX7_ends_58 rfl h8 (by rw [← h9]; exact hP) hS
    · replace hf := pq_ifp h7 hf
      refine lv_iload_n hx hb dX7_ends_15 rfl (lv_at hl 3 rfl) ?_
      refine lv_goto (tgt := 40) hx hb dX7_ends_16 (by decide) ?_
      refine pq_putf S hK hP hD hS inX7 tyX7_ok nmX7 0 rfl rfl 0 (by decide) fl_X7_27 rfl rfl (ty := .int) rfl rfl rfl (Nat.le_of_ble_eq_true rfl) dX7_ends_40 (fun H locs hP hS => ?_)
      replace hP : va_P g.1 pq_cl (modW g a (p3, T.2.1, T.2.2.1, T.2.2.2.1, T.2.2.2.2.1, T.2.2.2.2.2.1, T.2.2.2.2.2.2.1, T.2.2.2.2.2.2.2.1, T.2.2.2.2.2.2.2.2.1, T.2.2.2.2.2.2.2.2.2.1, T.2.2.2.2.2.2.2.2.2.2.1, T.2.2.2.2.2.2.2.2.2.2.2.1, T.2.2.2.2.2.2.2.2.2.2.2.2.1, T.2.2.2.2.2.2.2.2.2.2.2.2.2.1, T.2.2.2.2.2.2.2.2.2.2.2.2.2.2.1, T.2.2.2.2.2.2.2.2.2.2.2.2.2.2.2.1, T.2.2.2.2.2.2.2.2.2.2.2.2.2.2.2.2)) H := hP
      replace hD : va_D A (modW g a (p3, T.2.1, T.2.2.1, T.2.2.2.1, T.2.2.2.2.1, T.2.2.2.2.2.1, T.2.2.2.2.2.2.1, T.2.2.2.2.2.2.2.1, T.2.2.2.2.2.2.2.2.1, T.2.2.2.2.2.2.2.2.2.1, T.2.2.2.2.2.2.2.2.2.2.1, T.2.2.2.2.2.2.2.2.2.2.2.1, T.2.2.2.2.2.2.2.2.2.2.2.2.1, T.2.2.2.2.2.2.2.2.2.2.2.2.2.1, T.2.2.2.2.2.2.2.2.2.2.2.2.2.2.1, T.2.2.2.2.2.2.2.2.2.2.2.2.2.2.2.1, T.2.2.2.2.2.2.2.2.2.2.2.2.2.2.2.2)) := pq_adr hD (ad_X7 _ _)
      refine lv_aload_n hx hb dX7_ends_43 rfl (lv_at hl 0 rfl) ?_
      refine pq_get S hK hP inX7 0 rfl rfl 0 (by decide) fl_X7_27 rfl (v := .int p3) rfl dX7_ends_44 ?_
      refine lv_if_eq (tgt := 59) hx hb dX7_ends_47 (by decide) (fun h19 => ?_) (fun h19 => ?_)
      · replace hf := pq_ifp h19 hf
        refine lv_aload_n hx hb dX7_ends_59 rfl (lv_at hl 0 rfl) ?_
        refine pq_get S hK hP inX7 0 rfl rfl 2 (by decide) fl_X7_38 rfl (v := .int T.2.2.1) rfl dX7_ends_60 ?_
        refine lv_bipush (v := 8) hx hb dX7_ends_63 (by decide) ?_
        refine lv_icmp_ne (tgt := 104) hx hb dX7_ends_65 (by decide) (fun h20 => ?_) (fun h20 => ?_)
        · replace hf := pq_ifn h20 hf
          exact B104 (p3, T.2.1, T.2.2.1, T.2.2.2.1, T.2.2.2.2.1, T.2.2.2.2.2.1, T.2.2.2.2.2.2.1, T.2.2.2.2.2.2.2.1, T.2.2.2.2.2.2.2.2.1, T.2.2.2.2.2.2.2.2.2.1, T.2.2.2.2.2.2.2.2.2.2.1, T.2.2.2.2.2.2.2.2.2.2.2.1, T.2.2.2.2.2.2.2.2.2.2.2.2.1, T.2.2.2.2.2.2.2.2.2.2.2.2.2.1, T.2.2.2.2.2.2.2.2.2.2.2.2.2.2.1, T.2.2.2.2.2.2.2.2.2.2.2.2.2.2.2.1, T.2.2.2.2.2.2.2.2.2.2.2.2.2.2.2.2) ls _ _ hP hD hS (lv_sub hl [0] rfl) hf
        · replace hf := pq_ifp h20 hf
          refine lv_iconst (v := 1) hx hb dX7_ends_68 (by decide) ?_
          refine lv_istore (lv' := [(6, .int 1), (0, .ref (a 0)), (1, .int p1), (2, .int p2), (3, .int p3), (4, .int p4), (5, .int p5)]) hx hb dX7_ends_69 hl (by decide) rfl (fun ls hl => ?_)
          exact B71 200 (p3, T.2.1, T.2.2.1, T.2.2.2.1, T.2.2.2.2.1, T.2.2.2.2.2.1, T.2.2.2.2.2.2.1, T.2.2.2.2.2.2.2.1, T.2.2.2.2.2.2.2.2.1, T.2.2.2.2.2.2.2.2.2.1, T.2.2.2.2.2.2.2.2.2.2.1, T.2.2.2.2.2.2.2.2.2.2.2.1, T.2.2.2.2.2.2.2.2.2.2.2.2.1, T.2.2.2.2.2.2.2.2.2.2.2.2.2.1, T.2.2.2.2.2.2.2.2.2.2.2.2.2.2.1, T.2.2.2.2.2.2.2.2.2.2.2.2.2.2.2.1, T.2.2.2.2.2.2.2.2.2.2.2.2.2.2.2.2) 1 ls _ _ hP hD hS (lv_sub hl [1, 0] rfl) hf
      · replace hf := pq_ifn h19 hf
        refine lv_aload_n hx hb dX7_ends_50 rfl (lv_at hl 0 rfl) ?_
        refine lv_bipush (v := 10) hx hb dX7_ends_51 (by decide) ?_
        refine lv_iconst (v := 0) hx hb dX7_ends_53 (by decide) ?_
        obtain ⟨q22, e21, hf⟩ := pq_bind hf
        refine pq_cVv S (c_X7_copies l g a (p3, T.2.1, T.2.2.1, T.2.2.2.1, T.2.2.2.2.1, T.2.2.2.2.2.1, T.2.2.2.2.2.2.1, T.2.2.2.2.2.2.2.1, T.2.2.2.2.2.2.2.2.1, T.2.2.2.2.2.2.2.2.2.1, T.2.2.2.2.2.2.2.2.2.2.1, T.2.2.2.2.2.2.2.2.2.2.2.1, T.2.2.2.2.2.2.2.2.2.2.2.2.1, T.2.2.2.2.2.2.2.2.2.2.2.2.2.1, T.2.2.2.2.2.2.2.2.2.2.2.2.2.2.1, T.2.2.2.2.2.2.2.2.2.2.2.2.2.2.2.1, T.2.2.2.2.2.2.2.2.2.2.2.2.2.2.2.2) 10 0 q22 e21) vv_X7_34 hK hP hD hS hA rfl rfl rfl rfl rfl hl.1 (Nat.le_of_ble_eq_true rfl) dX7_ends_54 (by decide) (by decide) ⟨Nat.le_refl _, Nat.le_refl _⟩ (fun H9 locs hk hP1 hS => ?_)
        replace hP := hP1
        replace hP : va_P g.1 pq_cl (modW g a q22) H9 := hP
        replace hD : va_D A (modW g a q22) := pq_adr hD (ad_X7 _ _)
        clear hk
        generalize H9 = H at hP hS ⊢
        refine lv_iconst (v := 0) hx hb dX7_ends_57 (by decide) ?_
        obtain ⟨h8, h9⟩ := pq_pair hf
        exact hend _ _ _ _ _ dX7_ends_58 rfl h8 (by rw [← h9]; exact hP) hS
  · replace hf := pq_ifp h6 hf
    refine lv_iload_n hx hb dX7_ends_6 rfl (lv_at hl 2 rfl) ?_
    refine lv_goto (tgt := 40) hx hb dX7_ends_7 (by decide) ?_
    refine pq_putf S hK hP hD hS inX7 tyX7_ok nmX7 0 rfl rfl 0 (by decide) fl_X7_27 rfl rfl (ty := .int) rfl rfl rfl (Nat.le_of_ble_eq_true rfl) dX7_ends_40 (fun H locs hP hS => ?_)
    replace hP : va_P g.1 pq_cl (modW g a (p2, T.2.1, T.2.2.1, T.2.2.2.1, T.2.2.2.2.1, T.2.2.2.2.2.1, T.2.2.2.2.2.2.1, T.2.2.2.2.2.2.2.1, T.2.2.2.2.2.2.2.2.1, T.2.2.2.2.2.2.2.2.2.1, T.2.2.2.2.2.2.2.2.2.2.1, T.2.2.2.2.2.2.2.2.2.2.2.1, T.2.2.2.2.2.2.2.2.2.2.2.2.1, T.2.2.2.2.2.2.2.2.2.2.2.2.2.1, T.2.2.2.2.2.2.2.2.2.2.2.2.2.2.1, T.2.2.2.2.2.2.2.2.2.2.2.2.2.2.2.1, T.2.2.2.2.2.2.2.2.2.2.2.2.2.2.2.2)) H := hP
    replace hD : va_D A (modW g a (p2, T.2.1, T.2.2.1, T.2.2.2.1, T.2.2.2.2.1, T.2.2.2.2.2.1, T.2.2.2.2.2.2.1, T.2.2.2.2.2.2.2.1, T.2.2.2.2.2.2.2.2.1, T.2.2.2.2.2.2.2.2.2.1, T.2.2.2.2.2.2.2.2.2.2.1, T.2.2.2.2.2.2.2.2.2.2.2.1, T.2.2.2.2.2.2.2.2.2.2.2.2.1, T.2.2.2.2.2.2.2.2.2.2.2.2.2.1, T.2.2.2.2.2.2.2.2.2.2.2.2.2.2.1, T.2.2.2.2.2.2.2.2.2.2.2.2.2.2.2.1, T.2.2.2.2.2.2.2.2.2.2.2.2.2.2.2.2)) := pq_adr hD (ad_X7 _ _)
    refine lv_aload_n hx hb dX7_ends_43 rfl (lv_at hl 0 rfl) ?_
    refine pq_get S hK hP inX7 0 rfl rfl 0 (by decide) fl_X7_27 rfl (v := .int p2) rfl dX7_ends_44 ?_
    refine lv_if_eq (tgt := 59) hx hb dX7_ends_47 (by decide) (fun h23 => ?_) (fun h23 => ?_)
    · replace hf := pq_ifp h23 hf
      refine lv_aload_n hx hb dX7_ends_59 rfl (lv_at hl 0 rfl) ?_
      refine pq_get S hK hP inX7 0 rfl rfl 2 (by decide) fl_X7_38 rfl (v := .int T.2.2.1) rfl dX7_ends_60 ?_
      refine lv_bipush (v := 8) hx hb dX7_ends_63 (by decide) ?_
      refine lv_icmp_ne (tgt := 104) hx hb dX7_ends_65 (by decide) (fun h24 => ?_) (fun h24 => ?_)
      · replace hf := pq_ifn h24 hf
        exact B104 (p2, T.2.1, T.2.2.1, T.2.2.2.1, T.2.2.2.2.1, T.2.2.2.2.2.1, T.2.2.2.2.2.2.1, T.2.2.2.2.2.2.2.1, T.2.2.2.2.2.2.2.2.1, T.2.2.2.2.2.2.2.2.2.1, T.2.2.2.2.2.2.2.2.2.2.1, T.2.2.2.2.2.2.2.2.2.2.2.1, T.2.2.2.2.2.2.2.2.2.2.2.2.1, T.2.2.2.2.2.2.2.2.2.2.2.2.2.1, T.2.2.2.2.2.2.2.2.2.2.2.2.2.2.1, T.2.2.2.2.2.2.2.2.2.2.2.2.2.2.2.1, T.2.2.2.2.2.2.2.2.2.2.2.2.2.2.2.2) ls _ _ hP hD hS (lv_sub hl [0] rfl) hf
      · replace hf := pq_ifp h24 hf
        refine lv_iconst (v := 1) hx hb dX7_ends_68 (by decide) ?_
        refine lv_istore (lv' := [(6, .int 1), (0, .ref (a 0)), (1, .int p1), (2, .int p2), (3, .int p3), (4, .int p4), (5, .int p5)]) hx hb dX7_ends_69 hl (by decide) rfl (fun ls hl => ?_)
        exact B71 200 (p2, T.2.1, T.2.2.1, T.2.2.2.1, T.2.2.2.2.1, T.2.2.2.2.2.1, T.2.2.2.2.2.2.1, T.2.2.2.2.2.2.2.1, T.2.2.2.2.2.2.2.2.1, T.2.2.2.2.2.2.2.2.2.1, T.2.2.2.2.2.2.2.2.2.2.1, T.2.2.2.2.2.2.2.2.2.2.2.1, T.2.2.2.2.2.2.2.2.2.2.2.2.1, T.2.2.2.2.2.2.2.2.2.2.2.2.2.1, T.2.2.2.2.2.2.2.2.2.2.2.2.2.2.1, T.2.2.2.2.2.2.2.2.2.2.2.2.2.2.2.1, T.2.2.2.2.2.2.2.2.2.2.2.2.2.2.2.2) 1 ls _ _ hP hD hS (lv_sub hl [1, 0] rfl) hf
    · replace hf := pq_ifn h23 hf
      refine lv_aload_n hx hb dX7_ends_50 rfl (lv_at hl 0 rfl) ?_
      refine lv_bipush (v := 10) hx hb dX7_ends_51 (by decide) ?_
      refine lv_iconst (v := 0) hx hb dX7_ends_53 (by decide) ?_
      obtain ⟨q26, e25, hf⟩ := pq_bind hf
      refine pq_cVv S (c_X7_copies l g a (p2, T.2.1, T.2.2.1, T.2.2.2.1, T.2.2.2.2.1, T.2.2.2.2.2.1, T.2.2.2.2.2.2.1, T.2.2.2.2.2.2.2.1, T.2.2.2.2.2.2.2.2.1, T.2.2.2.2.2.2.2.2.2.1, T.2.2.2.2.2.2.2.2.2.2.1, T.2.2.2.2.2.2.2.2.2.2.2.1, T.2.2.2.2.2.2.2.2.2.2.2.2.1, T.2.2.2.2.2.2.2.2.2.2.2.2.2.1, T.2.2.2.2.2.2.2.2.2.2.2.2.2.2.1, T.2.2.2.2.2.2.2.2.2.2.2.2.2.2.2.1, T.2.2.2.2.2.2.2.2.2.2.2.2.2.2.2.2) 10 0 q26 e25) vv_X7_34 hK hP hD hS hA rfl rfl rfl rfl rfl hl.1 (Nat.le_of_ble_eq_true rfl) dX7_ends_54 (by decide) (by decide) ⟨Nat.le_refl _, Nat.le_refl _⟩ (fun H9 locs hk hP1 hS => ?_)
      replace hP := hP1
      replace hP : va_P g.1 pq_cl (modW g a q26) H9 := hP
      replace hD : va_D A (modW g a q26) := pq_adr hD (ad_X7 _ _)
      clear hk
      generalize H9 = H at hP hS ⊢
      refine lv_iconst (v := 0) hx hb dX7_ends_57 (by decide) ?_
      obtain ⟨h8, h9⟩ := pq_pair hf
      exact hend _ _ _ _ _ dX7_ends_58 rfl h8 (by rw [← h9]; exact hP) hS
def f_X7_isFine (T : ModS) (p1 : Int32) : Option (Int32 × (ModS)) :=
    if p1 = 0 then
      if p1 = 0 ∨ p1 = 1 then
        some (p1, (1, T.2.1, T.2.2.1, T.2.2.2.1, T.2.2.2.2.1, T.2.2.2.2.2.1, T.2.2.2.2.2.2.1, T.2.2.2.2.2.2.2.1, T.2.2.2.2.2.2.2.2.1, T.2.2.2.2.2.2.2.2.2.1, T.2.2.2.2.2.2.2.2.2.2.1, T.2.2.2.2.2.2.2.2.2.2.2.1, T.2.2.2.2.2.2.2.2.2.2.2.2.1, T.2.2.2.2.2.2.2.2.2.2.2.2.2.1, T.2.2.2.2.2.2.2.2.2.2.2.2.2.2.1, T.2.2.2.2.2.2.2.2.2.2.2.2.2.2.2.1, T.2.2.2.2.2.2.2.2.2.2.2.2.2.2.2.2))
      else none
    else
      if p1 = 0 ∨ p1 = 1 then
        some (p1, (0, T.2.1, T.2.2.1, T.2.2.2.1, T.2.2.2.2.1, T.2.2.2.2.2.1, T.2.2.2.2.2.2.1, T.2.2.2.2.2.2.2.1, T.2.2.2.2.2.2.2.2.1, T.2.2.2.2.2.2.2.2.2.1, T.2.2.2.2.2.2.2.2.2.2.1, T.2.2.2.2.2.2.2.2.2.2.2.1, T.2.2.2.2.2.2.2.2.2.2.2.2.1, T.2.2.2.2.2.2.2.2.2.2.2.2.2.1, T.2.2.2.2.2.2.2.2.2.2.2.2.2.2.1, T.2.2.2.2.2.2.2.2.2.2.2.2.2.2.2.1, T.2.2.2.2.2.2.2.2.2.2.2.2.2.2.2.2))
      else none
set_option maxHeartbeats 4000000 in
set_option maxRecDepth 100000 in
theorem c_X7_isFine (l : Launch) (g : pq_g) (a : Nat → Nat) (T : ModS) (p1 : Int32) (r : Int32) (T1 : ModS) (hf : f_X7_isFine T p1 = some (r, T1)) : pq_Mi l yX7_isFine cX7_isFine 2 .boolean 1 g (modW g a T) [.ref (a 0), .int p1] r (modW g a T1) := by
  rw [f_X7_isFine] at hf
  refine pq_Mi.of (own := RX7) (by decide) rfl (Nat.le_of_ble_eq_true rfl) rfl ?_
  intro p e s m below meth c ls Q A S hP hK hD hS hA hl hend
  obtain ⟨hx, hb, hml, hown, hts⟩ := id S
  refine lv_aload_n hx hb dX7_isFine_0 rfl (lv_at hl 0 rfl) ?_
  refine lv_iload_n hx hb dX7_isFine_1 rfl (lv_at hl 1 rfl) ?_
  refine lv_if_eq (tgt := 9) hx hb dX7_isFine_2 (by decide) (fun h1 => ?_) (fun h1 => ?_)
  · replace hf := pq_ifp h1 hf
    refine lv_iconst (v := 1) hx hb dX7_isFine_9 (by decide) ?_
    refine pq_putf S hK hP hD hS inX7 tyX7_ok nmX7 0 rfl rfl 0 (by decide) fl_X7_27 rfl rfl (ty := .int) rfl rfl rfl (Nat.le_of_ble_eq_true rfl) dX7_isFine_10 (fun H locs hP hS => ?_)
    replace hP : va_P g.1 pq_cl (modW g a (1, T.2.1, T.2.2.1, T.2.2.2.1, T.2.2.2.2.1, T.2.2.2.2.2.1, T.2.2.2.2.2.2.1, T.2.2.2.2.2.2.2.1, T.2.2.2.2.2.2.2.2.1, T.2.2.2.2.2.2.2.2.2.1, T.2.2.2.2.2.2.2.2.2.2.1, T.2.2.2.2.2.2.2.2.2.2.2.1, T.2.2.2.2.2.2.2.2.2.2.2.2.1, T.2.2.2.2.2.2.2.2.2.2.2.2.2.1, T.2.2.2.2.2.2.2.2.2.2.2.2.2.2.1, T.2.2.2.2.2.2.2.2.2.2.2.2.2.2.2.1, T.2.2.2.2.2.2.2.2.2.2.2.2.2.2.2.2)) H := hP
    replace hD : va_D A (modW g a (1, T.2.1, T.2.2.1, T.2.2.2.1, T.2.2.2.2.1, T.2.2.2.2.2.1, T.2.2.2.2.2.2.1, T.2.2.2.2.2.2.2.1, T.2.2.2.2.2.2.2.2.1, T.2.2.2.2.2.2.2.2.2.1, T.2.2.2.2.2.2.2.2.2.2.1, T.2.2.2.2.2.2.2.2.2.2.2.1, T.2.2.2.2.2.2.2.2.2.2.2.2.1, T.2.2.2.2.2.2.2.2.2.2.2.2.2.1, T.2.2.2.2.2.2.2.2.2.2.2.2.2.2.1, T.2.2.2.2.2.2.2.2.2.2.2.2.2.2.2.1, T.2.2.2.2.2.2.2.2.2.2.2.2.2.2.2.2)) := pq_adr hD (ad_X7 _ _)
    refine lv_iload_n hx hb dX7_isFine_13 rfl (lv_at hl 1 rfl) ?_
    by_cases h2 : p1 = 0 ∨ p1 = 1
    case neg => exact absurd (pq_ifn h2 hf) (fun h9 => by cases h9)
    replace hf := pq_ifp h2 hf
    obtain ⟨h8, h9⟩ := pq_pair hf
    exact hend _ _ _ _ _ dX7_isFine_14 (pq_nb h2) h8 (by rw [← h9]; exact hP) hS
  · replace hf := pq_ifn h1 hf
    refine lv_iconst (v := 0) hx hb dX7_isFine_5 (by decide) ?_
    refine lv_goto (tgt := 10) hx hb dX7_isFine_6 (by decide) ?_
    refine pq_putf S hK hP hD hS inX7 tyX7_ok nmX7 0 rfl rfl 0 (by decide) fl_X7_27 rfl rfl (ty := .int) rfl rfl rfl (Nat.le_of_ble_eq_true rfl) dX7_isFine_10 (fun H locs hP hS => ?_)
    replace hP : va_P g.1 pq_cl (modW g a (0, T.2.1, T.2.2.1, T.2.2.2.1, T.2.2.2.2.1, T.2.2.2.2.2.1, T.2.2.2.2.2.2.1, T.2.2.2.2.2.2.2.1, T.2.2.2.2.2.2.2.2.1, T.2.2.2.2.2.2.2.2.2.1, T.2.2.2.2.2.2.2.2.2.2.1, T.2.2.2.2.2.2.2.2.2.2.2.1, T.2.2.2.2.2.2.2.2.2.2.2.2.1, T.2.2.2.2.2.2.2.2.2.2.2.2.2.1, T.2.2.2.2.2.2.2.2.2.2.2.2.2.2.1, T.2.2.2.2.2.2.2.2.2.2.2.2.2.2.2.1, T.2.2.2.2.2.2.2.2.2.2.2.2.2.2.2.2)) H := hP
    replace hD : va_D A (modW g a (0, T.2.1, T.2.2.1, T.2.2.2.1, T.2.2.2.2.1, T.2.2.2.2.2.1, T.2.2.2.2.2.2.1, T.2.2.2.2.2.2.2.1, T.2.2.2.2.2.2.2.2.1, T.2.2.2.2.2.2.2.2.2.1, T.2.2.2.2.2.2.2.2.2.2.1, T.2.2.2.2.2.2.2.2.2.2.2.1, T.2.2.2.2.2.2.2.2.2.2.2.2.1, T.2.2.2.2.2.2.2.2.2.2.2.2.2.1, T.2.2.2.2.2.2.2.2.2.2.2.2.2.2.1, T.2.2.2.2.2.2.2.2.2.2.2.2.2.2.2.1, T.2.2.2.2.2.2.2.2.2.2.2.2.2.2.2.2)) := pq_adr hD (ad_X7 _ _)
    refine lv_iload_n hx hb dX7_isFine_13 rfl (lv_at hl 1 rfl) ?_
    by_cases h3 : p1 = 0 ∨ p1 = 1
    case neg => exact absurd (pq_ifn h3 hf) (fun h9 => by cases h9)
    replace hf := pq_ifp h3 hf
    obtain ⟨h8, h9⟩ := pq_pair hf
    exact hend _ _ _ _ _ dX7_isFine_14 (pq_nb h3) h8 (by rw [← h9]; exact hP) hS
def f_X7_rejects (T : ModS) (p1 : Int32) (p2 : Int32) (p3 : Int32) : Option (Int32 × (ModS)) :=
    if p1 = 0 then
      if p1 = 0 ∨ p1 = 1 then
        some (p1, T)
      else none
    else
      if p1 = 0 ∨ p1 = 1 then
        some (p1, (T.1, T.2.1, T.2.2.1, T.2.2.2.1, T.2.2.2.2.1, p2, p3, 0, T.2.2.2.2.2.2.2.2.1, T.2.2.2.2.2.2.2.2.2.1, T.2.2.2.2.2.2.2.2.2.2.1, T.2.2.2.2.2.2.2.2.2.2.2.1, T.2.2.2.2.2.2.2.2.2.2.2.2.1, T.2.2.2.2.2.2.2.2.2.2.2.2.2.1, T.2.2.2.2.2.2.2.2.2.2.2.2.2.2.1, T.2.2.2.2.2.2.2.2.2.2.2.2.2.2.2.1, T.2.2.2.2.2.2.2.2.2.2.2.2.2.2.2.2))
      else none
set_option maxHeartbeats 4000000 in
set_option maxRecDepth 100000 in
theorem c_X7_rejects (l : Launch) (g : pq_g) (a : Nat → Nat) (T : ModS) (p1 : Int32) (p2 : Int32) (p3 : Int32) (r : Int32) (T1 : ModS) (hf : f_X7_rejects T p1 p2 p3 = some (r, T1)) : pq_Mi l yX7_rejects cX7_rejects 4 .boolean 1 g (modW g a T) [.ref (a 0), .int p1, .int p2, .int p3] r (modW g a T1) := by
  rw [f_X7_rejects] at hf
  refine pq_Mi.of (own := RX7) (by decide) rfl (Nat.le_of_ble_eq_true rfl) rfl ?_
  intro p e s m below meth c ls Q A S hP hK hD hS hA hl hend
  obtain ⟨hx, hb, hml, hown, hts⟩ := id S
  refine lv_iload_n hx hb dX7_rejects_0 rfl (lv_at hl 1 rfl) ?_
  refine lv_if_eq (tgt := 19) hx hb dX7_rejects_1 (by decide) (fun h1 => ?_) (fun h1 => ?_)
  · replace hf := pq_ifp h1 hf
    refine lv_iload_n hx hb dX7_rejects_19 rfl (lv_at hl 1 rfl) ?_
    by_cases h2 : p1 = 0 ∨ p1 = 1
    case neg => exact absurd (pq_ifn h2 hf) (fun h9 => by cases h9)
    replace hf := pq_ifp h2 hf
    obtain ⟨h8, h9⟩ := pq_pair hf
    exact hend _ _ _ _ _ dX7_rejects_20 (pq_nb h2) h8 (by rw [← h9]; exact hP) hS
  · replace hf := pq_ifn h1 hf
    refine lv_aload_n hx hb dX7_rejects_4 rfl (lv_at hl 0 rfl) ?_
    refine lv_iload_n hx hb dX7_rejects_5 rfl (lv_at hl 2 rfl) ?_
    refine pq_putf S hK hP hD hS inX7 tyX7_ok nmX7 0 rfl rfl 5 (by decide) fl_X7_44 rfl rfl (ty := .int) rfl rfl rfl (Nat.le_of_ble_eq_true rfl) dX7_rejects_6 (fun H locs hP hS => ?_)
    replace hP : va_P g.1 pq_cl (modW g a (T.1, T.2.1, T.2.2.1, T.2.2.2.1, T.2.2.2.2.1, p2, T.2.2.2.2.2.2.1, T.2.2.2.2.2.2.2.1, T.2.2.2.2.2.2.2.2.1, T.2.2.2.2.2.2.2.2.2.1, T.2.2.2.2.2.2.2.2.2.2.1, T.2.2.2.2.2.2.2.2.2.2.2.1, T.2.2.2.2.2.2.2.2.2.2.2.2.1, T.2.2.2.2.2.2.2.2.2.2.2.2.2.1, T.2.2.2.2.2.2.2.2.2.2.2.2.2.2.1, T.2.2.2.2.2.2.2.2.2.2.2.2.2.2.2.1, T.2.2.2.2.2.2.2.2.2.2.2.2.2.2.2.2)) H := hP
    replace hD : va_D A (modW g a (T.1, T.2.1, T.2.2.1, T.2.2.2.1, T.2.2.2.2.1, p2, T.2.2.2.2.2.2.1, T.2.2.2.2.2.2.2.1, T.2.2.2.2.2.2.2.2.1, T.2.2.2.2.2.2.2.2.2.1, T.2.2.2.2.2.2.2.2.2.2.1, T.2.2.2.2.2.2.2.2.2.2.2.1, T.2.2.2.2.2.2.2.2.2.2.2.2.1, T.2.2.2.2.2.2.2.2.2.2.2.2.2.1, T.2.2.2.2.2.2.2.2.2.2.2.2.2.2.1, T.2.2.2.2.2.2.2.2.2.2.2.2.2.2.2.1, T.2.2.2.2.2.2.2.2.2.2.2.2.2.2.2.2)) := pq_adr hD (ad_X7 _ _)
    refine lv_aload_n hx hb dX7_rejects_9 rfl (lv_at hl 0 rfl) ?_
    refine lv_iload_n hx hb dX7_rejects_10 rfl (lv_at hl 3 rfl) ?_
    refine pq_putf S hK hP hD hS inX7 tyX7_ok nmX7 0 rfl rfl 6 (by decide) fl_X7_47 rfl rfl (ty := .int) rfl rfl rfl (Nat.le_of_ble_eq_true rfl) dX7_rejects_11 (fun H locs hP hS => ?_)
    replace hP : va_P g.1 pq_cl (modW g a (T.1, T.2.1, T.2.2.1, T.2.2.2.1, T.2.2.2.2.1, p2, p3, T.2.2.2.2.2.2.2.1, T.2.2.2.2.2.2.2.2.1, T.2.2.2.2.2.2.2.2.2.1, T.2.2.2.2.2.2.2.2.2.2.1, T.2.2.2.2.2.2.2.2.2.2.2.1, T.2.2.2.2.2.2.2.2.2.2.2.2.1, T.2.2.2.2.2.2.2.2.2.2.2.2.2.1, T.2.2.2.2.2.2.2.2.2.2.2.2.2.2.1, T.2.2.2.2.2.2.2.2.2.2.2.2.2.2.2.1, T.2.2.2.2.2.2.2.2.2.2.2.2.2.2.2.2)) H := hP
    replace hD : va_D A (modW g a (T.1, T.2.1, T.2.2.1, T.2.2.2.1, T.2.2.2.2.1, p2, p3, T.2.2.2.2.2.2.2.1, T.2.2.2.2.2.2.2.2.1, T.2.2.2.2.2.2.2.2.2.1, T.2.2.2.2.2.2.2.2.2.2.1, T.2.2.2.2.2.2.2.2.2.2.2.1, T.2.2.2.2.2.2.2.2.2.2.2.2.1, T.2.2.2.2.2.2.2.2.2.2.2.2.2.1, T.2.2.2.2.2.2.2.2.2.2.2.2.2.2.1, T.2.2.2.2.2.2.2.2.2.2.2.2.2.2.2.1, T.2.2.2.2.2.2.2.2.2.2.2.2.2.2.2.2)) := pq_adr hD (ad_X7 _ _)
    refine lv_aload_n hx hb dX7_rejects_14 rfl (lv_at hl 0 rfl) ?_
    refine lv_iconst (v := 0) hx hb dX7_rejects_15 (by decide) ?_
    refine pq_putf S hK hP hD hS inX7 tyX7_ok nmX7 0 rfl rfl 7 (by decide) fl_X7_50 rfl rfl (ty := .int) rfl rfl rfl (Nat.le_of_ble_eq_true rfl) dX7_rejects_16 (fun H locs hP hS => ?_)
    replace hP : va_P g.1 pq_cl (modW g a (T.1, T.2.1, T.2.2.1, T.2.2.2.1, T.2.2.2.2.1, p2, p3, 0, T.2.2.2.2.2.2.2.2.1, T.2.2.2.2.2.2.2.2.2.1, T.2.2.2.2.2.2.2.2.2.2.1, T.2.2.2.2.2.2.2.2.2.2.2.1, T.2.2.2.2.2.2.2.2.2.2.2.2.1, T.2.2.2.2.2.2.2.2.2.2.2.2.2.1, T.2.2.2.2.2.2.2.2.2.2.2.2.2.2.1, T.2.2.2.2.2.2.2.2.2.2.2.2.2.2.2.1, T.2.2.2.2.2.2.2.2.2.2.2.2.2.2.2.2)) H := hP
    replace hD : va_D A (modW g a (T.1, T.2.1, T.2.2.1, T.2.2.2.1, T.2.2.2.2.1, p2, p3, 0, T.2.2.2.2.2.2.2.2.1, T.2.2.2.2.2.2.2.2.2.1, T.2.2.2.2.2.2.2.2.2.2.1, T.2.2.2.2.2.2.2.2.2.2.2.1, T.2.2.2.2.2.2.2.2.2.2.2.2.1, T.2.2.2.2.2.2.2.2.2.2.2.2.2.1, T.2.2.2.2.2.2.2.2.2.2.2.2.2.2.1, T.2.2.2.2.2.2.2.2.2.2.2.2.2.2.2.1, T.2.2.2.2.2.2.2.2.2.2.2.2.2.2.2.2)) := pq_adr hD (ad_X7 _ _)
    refine lv_iload_n hx hb dX7_rejects_19 rfl (lv_at hl 1 rfl) ?_
    by_cases h3 : p1 = 0 ∨ p1 = 1
    case neg => exact absurd (pq_ifn h3 hf) (fun h9 => by cases h9)
    replace hf := pq_ifp h3 hf
    obtain ⟨h8, h9⟩ := pq_pair hf
    exact hend _ _ _ _ _ dX7_rejects_20 (pq_nb h3) h8 (by rw [← h9]; exact hP) hS
def f_X7_rejectionReason (T : ModS) : Option (Int32 × (ModS)) :=
    if T.2.2.2.2.2.1 = 0 then
      (f_X7_isFine T 0).bind fun q3 =>
      if q3.1 = 0 then
        some (0, q3.2)
      else
        some (q3.2.2.2.2.2.2.1, q3.2)
    else
      (f_X7_isFine T 1).bind fun q6 =>
      if q6.1 = 0 then
        some (0, q6.2)
      else
        some (q6.2.2.2.2.2.2.1, q6.2)
set_option maxHeartbeats 4000000 in
set_option maxRecDepth 100000 in
theorem c_X7_rejectionReason (l : Launch) (g : pq_g) (a : Nat → Nat) (T : ModS) (r : Int32) (T1 : ModS) (hf : f_X7_rejectionReason T = some (r, T1)) : pq_Mi l yX7_rejectionReason cX7_rejectionReason 1 .int 2 g (modW g a T) [.ref (a 0)] r (modW g a T1) := by
  rw [f_X7_rejectionReason] at hf
  refine pq_Mi.of (own := RX7) (by decide) rfl (Nat.le_of_ble_eq_true rfl) rfl ?_
  intro p e s m below meth c ls Q A S hP hK hD hS hA hl hend
  obtain ⟨hx, hb, hml, hown, hts⟩ := id S
  refine lv_aload_n hx hb dX7_rejectionReason_0 rfl (lv_at hl 0 rfl) ?_
  refine lv_aload_n hx hb dX7_rejectionReason_1 rfl (lv_at hl 0 rfl) ?_
  refine pq_get S hK hP inX7 0 rfl rfl 5 (by decide) fl_X7_44 rfl (v := .int T.2.2.2.2.2.1) rfl dX7_rejectionReason_2 ?_
  refine lv_if_eq (tgt := 12) hx hb dX7_rejectionReason_5 (by decide) (fun h1 => ?_) (fun h1 => ?_)
  · replace hf := pq_ifp h1 hf
    refine lv_iconst (v := 0) hx hb dX7_rejectionReason_12 (by decide) ?_
    obtain ⟨q3, e2, hf⟩ := pq_bind hf
    refine pq_cVi S (c_X7_isFine l g a T 0 q3.1 q3.2 e2) vv_X7_53 hK hP hD hS hA rfl rfl rfl rfl rfl hl.1 (Nat.le_of_ble_eq_true rfl) dX7_rejectionReason_13 (by decide) (by decide) ⟨Nat.le_refl _, Nat.le_refl _⟩ (fun H9 locs hk hP1 hS => ?_)
    replace hP := hP1
    replace hP : va_P g.1 pq_cl (modW g a q3.2) H9 := hP
    replace hD : va_D A (modW g a q3.2) := pq_adr hD (ad_X7 _ _)
    clear hk
    generalize H9 = H at hP hS ⊢
    refine lv_if_eq (tgt := 26) hx hb dX7_rejectionReason_16 (by decide) (fun h4 => ?_) (fun h4 => ?_)
    · replace hf := pq_ifp h4 hf
      refine lv_iconst (v := 0) hx hb dX7_rejectionReason_26 (by decide) ?_
      obtain ⟨h8, h9⟩ := pq_pair hf
      exact hend _ _ _ _ _ dX7_rejectionReason_27 rfl h8 (by rw [← h9]; exact hP) hS
    · replace hf := pq_ifn h4 hf
      refine lv_aload_n hx hb dX7_rejectionReason_19 rfl (lv_at hl 0 rfl) ?_
      refine pq_get S hK hP inX7 0 rfl rfl 5 (by decide) fl_X7_44 rfl (v := .int q3.2.2.2.2.2.2.1) rfl dX7_rejectionReason_20 ?_
      refine lv_goto (tgt := 27) hx hb dX7_rejectionReason_23 (by decide) ?_
      obtain ⟨h8, h9⟩ := pq_pair hf
      exact hend _ _ _ _ _ dX7_rejectionReason_27 rfl h8 (by rw [← h9]; exact hP) hS
  · replace hf := pq_ifn h1 hf
    refine lv_iconst (v := 1) hx hb dX7_rejectionReason_8 (by decide) ?_
    refine lv_goto (tgt := 13) hx hb dX7_rejectionReason_9 (by decide) ?_
    obtain ⟨q6, e5, hf⟩ := pq_bind hf
    refine pq_cVi S (c_X7_isFine l g a T 1 q6.1 q6.2 e5) vv_X7_53 hK hP hD hS hA rfl rfl rfl rfl rfl hl.1 (Nat.le_of_ble_eq_true rfl) dX7_rejectionReason_13 (by decide) (by decide) ⟨Nat.le_refl _, Nat.le_refl _⟩ (fun H9 locs hk hP1 hS => ?_)
    replace hP := hP1
    replace hP : va_P g.1 pq_cl (modW g a q6.2) H9 := hP
    replace hD : va_D A (modW g a q6.2) := pq_adr hD (ad_X7 _ _)
    clear hk
    generalize H9 = H at hP hS ⊢
    refine lv_if_eq (tgt := 26) hx hb dX7_rejectionReason_16 (by decide) (fun h7 => ?_) (fun h7 => ?_)
    · replace hf := pq_ifp h7 hf
      refine lv_iconst (v := 0) hx hb dX7_rejectionReason_26 (by decide) ?_
      obtain ⟨h8, h9⟩ := pq_pair hf
      exact hend _ _ _ _ _ dX7_rejectionReason_27 rfl h8 (by rw [← h9]; exact hP) hS
    · replace hf := pq_ifn h7 hf
      refine lv_aload_n hx hb dX7_rejectionReason_19 rfl (lv_at hl 0 rfl) ?_
      refine pq_get S hK hP inX7 0 rfl rfl 5 (by decide) fl_X7_44 rfl (v := .int q6.2.2.2.2.2.2.1) rfl dX7_rejectionReason_20 ?_
      refine lv_goto (tgt := 27) hx hb dX7_rejectionReason_23 (by decide) ?_
      obtain ⟨h8, h9⟩ := pq_pair hf
      exact hend _ _ _ _ _ dX7_rejectionReason_27 rfl h8 (by rw [← h9]; exact hP) hS
def f_X7_rejectionDetail (T : ModS) : Option (Int32 × (ModS)) :=
    if T.2.2.2.2.2.1 = 0 then
      (f_X7_isFine T 0).bind fun q3 =>
      if q3.1 = 0 then
        some (0, q3.2)
      else
        some (q3.2.2.2.2.2.2.2.1, q3.2)
    else
      (f_X7_isFine T 1).bind fun q6 =>
      if q6.1 = 0 then
        some (0, q6.2)
      else
        some (q6.2.2.2.2.2.2.2.1, q6.2)
set_option maxHeartbeats 4000000 in
set_option maxRecDepth 100000 in
theorem c_X7_rejectionDetail (l : Launch) (g : pq_g) (a : Nat → Nat) (T : ModS) (r : Int32) (T1 : ModS) (hf : f_X7_rejectionDetail T = some (r, T1)) : pq_Mi l yX7_rejectionDetail cX7_rejectionDetail 1 .int 2 g (modW g a T) [.ref (a 0)] r (modW g a T1) := by
  rw [f_X7_rejectionDetail] at hf
  refine pq_Mi.of (own := RX7) (by decide) rfl (Nat.le_of_ble_eq_true rfl) rfl ?_
  intro p e s m below meth c ls Q A S hP hK hD hS hA hl hend
  obtain ⟨hx, hb, hml, hown, hts⟩ := id S
  refine lv_aload_n hx hb dX7_rejectionDetail_0 rfl (lv_at hl 0 rfl) ?_
  refine lv_aload_n hx hb dX7_rejectionDetail_1 rfl (lv_at hl 0 rfl) ?_
  refine pq_get S hK hP inX7 0 rfl rfl 5 (by decide) fl_X7_44 rfl (v := .int T.2.2.2.2.2.1) rfl dX7_rejectionDetail_2 ?_
  refine lv_if_eq (tgt := 12) hx hb dX7_rejectionDetail_5 (by decide) (fun h1 => ?_) (fun h1 => ?_)
  · replace hf := pq_ifp h1 hf
    refine lv_iconst (v := 0) hx hb dX7_rejectionDetail_12 (by decide) ?_
    obtain ⟨q3, e2, hf⟩ := pq_bind hf
    refine pq_cVi S (c_X7_isFine l g a T 0 q3.1 q3.2 e2) vv_X7_53 hK hP hD hS hA rfl rfl rfl rfl rfl hl.1 (Nat.le_of_ble_eq_true rfl) dX7_rejectionDetail_13 (by decide) (by decide) ⟨Nat.le_refl _, Nat.le_refl _⟩ (fun H9 locs hk hP1 hS => ?_)
    replace hP := hP1
    replace hP : va_P g.1 pq_cl (modW g a q3.2) H9 := hP
    replace hD : va_D A (modW g a q3.2) := pq_adr hD (ad_X7 _ _)
    clear hk
    generalize H9 = H at hP hS ⊢
    refine lv_if_eq (tgt := 26) hx hb dX7_rejectionDetail_16 (by decide) (fun h4 => ?_) (fun h4 => ?_)
    · replace hf := pq_ifp h4 hf
      refine lv_iconst (v := 0) hx hb dX7_rejectionDetail_26 (by decide) ?_
      obtain ⟨h8, h9⟩ := pq_pair hf
      exact hend _ _ _ _ _ dX7_rejectionDetail_27 rfl h8 (by rw [← h9]; exact hP) hS
    · replace hf := pq_ifn h4 hf
      refine lv_aload_n hx hb dX7_rejectionDetail_19 rfl (lv_at hl 0 rfl) ?_
      refine pq_get S hK hP inX7 0 rfl rfl 6 (by decide) fl_X7_47 rfl (v := .int q3.2.2.2.2.2.2.2.1) rfl dX7_rejectionDetail_20 ?_
      refine lv_goto (tgt := 27) hx hb dX7_rejectionDetail_23 (by decide) ?_
      obtain ⟨h8, h9⟩ := pq_pair hf
      exact hend _ _ _ _ _ dX7_rejectionDetail_27 rfl h8 (by rw [← h9]; exact hP) hS
  · replace hf := pq_ifn h1 hf
    refine lv_iconst (v := 1) hx hb dX7_rejectionDetail_8 (by decide) ?_
    refine lv_goto (tgt := 13) hx hb dX7_rejectionDetail_9 (by decide) ?_
    obtain ⟨q6, e5, hf⟩ := pq_bind hf
    refine pq_cVi S (c_X7_isFine l g a T 1 q6.1 q6.2 e5) vv_X7_53 hK hP hD hS hA rfl rfl rfl rfl rfl hl.1 (Nat.le_of_ble_eq_true rfl) dX7_rejectionDetail_13 (by decide) (by decide) ⟨Nat.le_refl _, Nat.le_refl _⟩ (fun H9 locs hk hP1 hS => ?_)
    replace hP := hP1
    replace hP : va_P g.1 pq_cl (modW g a q6.2) H9 := hP
    replace hD : va_D A (modW g a q6.2) := pq_adr hD (ad_X7 _ _)
    clear hk
    generalize H9 = H at hP hS ⊢
    refine lv_if_eq (tgt := 26) hx hb dX7_rejectionDetail_16 (by decide) (fun h7 => ?_) (fun h7 => ?_)
    · replace hf := pq_ifp h7 hf
      refine lv_iconst (v := 0) hx hb dX7_rejectionDetail_26 (by decide) ?_
      obtain ⟨h8, h9⟩ := pq_pair hf
      exact hend _ _ _ _ _ dX7_rejectionDetail_27 rfl h8 (by rw [← h9]; exact hP) hS
    · replace hf := pq_ifn h7 hf
      refine lv_aload_n hx hb dX7_rejectionDetail_19 rfl (lv_at hl 0 rfl) ?_
      refine pq_get S hK hP inX7 0 rfl rfl 6 (by decide) fl_X7_47 rfl (v := .int q6.2.2.2.2.2.2.2.1) rfl dX7_rejectionDetail_20 ?_
      refine lv_goto (tgt := 27) hx hb dX7_rejectionDetail_23 (by decide) ?_
      obtain ⟨h8, h9⟩ := pq_pair hf
      exact hend _ _ _ _ _ dX7_rejectionDetail_27 rfl h8 (by rw [← h9]; exact hP) hS
def f_X7_causeReason (T : ModS) : Option (Int32 × (ModS)) :=
    if T.2.2.2.2.2.2.2.1 = 0 then
      (f_X7_isFine T 0).bind fun q3 =>
      if q3.1 = 0 then
        some (0, q3.2)
      else
        some (q3.2.2.2.2.2.2.2.2.1, q3.2)
    else
      (f_X7_isFine T 1).bind fun q6 =>
      if q6.1 = 0 then
        some (0, q6.2)
      else
        some (q6.2.2.2.2.2.2.2.2.1, q6.2)
set_option maxHeartbeats 4000000 in
set_option maxRecDepth 100000 in
theorem c_X7_causeReason (l : Launch) (g : pq_g) (a : Nat → Nat) (T : ModS) (r : Int32) (T1 : ModS) (hf : f_X7_causeReason T = some (r, T1)) : pq_Mi l yX7_causeReason cX7_causeReason 1 .int 2 g (modW g a T) [.ref (a 0)] r (modW g a T1) := by
  rw [f_X7_causeReason] at hf
  refine pq_Mi.of (own := RX7) (by decide) rfl (Nat.le_of_ble_eq_true rfl) rfl ?_
  intro p e s m below meth c ls Q A S hP hK hD hS hA hl hend
  obtain ⟨hx, hb, hml, hown, hts⟩ := id S
  refine lv_aload_n hx hb dX7_causeReason_0 rfl (lv_at hl 0 rfl) ?_
  refine lv_aload_n hx hb dX7_causeReason_1 rfl (lv_at hl 0 rfl) ?_
  refine pq_get S hK hP inX7 0 rfl rfl 7 (by decide) fl_X7_50 rfl (v := .int T.2.2.2.2.2.2.2.1) rfl dX7_causeReason_2 ?_
  refine lv_if_eq (tgt := 12) hx hb dX7_causeReason_5 (by decide) (fun h1 => ?_) (fun h1 => ?_)
  · replace hf := pq_ifp h1 hf
    refine lv_iconst (v := 0) hx hb dX7_causeReason_12 (by decide) ?_
    obtain ⟨q3, e2, hf⟩ := pq_bind hf
    refine pq_cVi S (c_X7_isFine l g a T 0 q3.1 q3.2 e2) vv_X7_53 hK hP hD hS hA rfl rfl rfl rfl rfl hl.1 (Nat.le_of_ble_eq_true rfl) dX7_causeReason_13 (by decide) (by decide) ⟨Nat.le_refl _, Nat.le_refl _⟩ (fun H9 locs hk hP1 hS => ?_)
    replace hP := hP1
    replace hP : va_P g.1 pq_cl (modW g a q3.2) H9 := hP
    replace hD : va_D A (modW g a q3.2) := pq_adr hD (ad_X7 _ _)
    clear hk
    generalize H9 = H at hP hS ⊢
    refine lv_if_eq (tgt := 26) hx hb dX7_causeReason_16 (by decide) (fun h4 => ?_) (fun h4 => ?_)
    · replace hf := pq_ifp h4 hf
      refine lv_iconst (v := 0) hx hb dX7_causeReason_26 (by decide) ?_
      obtain ⟨h8, h9⟩ := pq_pair hf
      exact hend _ _ _ _ _ dX7_causeReason_27 rfl h8 (by rw [← h9]; exact hP) hS
    · replace hf := pq_ifn h4 hf
      refine lv_aload_n hx hb dX7_causeReason_19 rfl (lv_at hl 0 rfl) ?_
      refine pq_get S hK hP inX7 0 rfl rfl 7 (by decide) fl_X7_50 rfl (v := .int q3.2.2.2.2.2.2.2.2.1) rfl dX7_causeReason_20 ?_
      refine lv_goto (tgt := 27) hx hb dX7_causeReason_23 (by decide) ?_
      obtain ⟨h8, h9⟩ := pq_pair hf
      exact hend _ _ _ _ _ dX7_causeReason_27 rfl h8 (by rw [← h9]; exact hP) hS
  · replace hf := pq_ifn h1 hf
    refine lv_iconst (v := 1) hx hb dX7_causeReason_8 (by decide) ?_
    refine lv_goto (tgt := 13) hx hb dX7_causeReason_9 (by decide) ?_
    obtain ⟨q6, e5, hf⟩ := pq_bind hf
    refine pq_cVi S (c_X7_isFine l g a T 1 q6.1 q6.2 e5) vv_X7_53 hK hP hD hS hA rfl rfl rfl rfl rfl hl.1 (Nat.le_of_ble_eq_true rfl) dX7_causeReason_13 (by decide) (by decide) ⟨Nat.le_refl _, Nat.le_refl _⟩ (fun H9 locs hk hP1 hS => ?_)
    replace hP := hP1
    replace hP : va_P g.1 pq_cl (modW g a q6.2) H9 := hP
    replace hD : va_D A (modW g a q6.2) := pq_adr hD (ad_X7 _ _)
    clear hk
    generalize H9 = H at hP hS ⊢
    refine lv_if_eq (tgt := 26) hx hb dX7_causeReason_16 (by decide) (fun h7 => ?_) (fun h7 => ?_)
    · replace hf := pq_ifp h7 hf
      refine lv_iconst (v := 0) hx hb dX7_causeReason_26 (by decide) ?_
      obtain ⟨h8, h9⟩ := pq_pair hf
      exact hend _ _ _ _ _ dX7_causeReason_27 rfl h8 (by rw [← h9]; exact hP) hS
    · replace hf := pq_ifn h7 hf
      refine lv_aload_n hx hb dX7_causeReason_19 rfl (lv_at hl 0 rfl) ?_
      refine pq_get S hK hP inX7 0 rfl rfl 7 (by decide) fl_X7_50 rfl (v := .int q6.2.2.2.2.2.2.2.2.1) rfl dX7_causeReason_20 ?_
      refine lv_goto (tgt := 27) hx hb dX7_causeReason_23 (by decide) ?_
      obtain ⟨h8, h9⟩ := pq_pair hf
      exact hend _ _ _ _ _ dX7_causeReason_27 rfl h8 (by rw [← h9]; exact hP) hS
def f_X7_key (T : ModS) (p1 : Int32) : Option (Int32) :=
    if ((2 + (2 * p1)) < 0 ∨ 770 ≤ (2 + (2 * p1)).toNatClampNeg) then none
    else
      some (T.2.1 (2 + (2 * p1)).toNatClampNeg)
set_option maxHeartbeats 4000000 in
set_option maxRecDepth 100000 in
theorem c_X7_key (l : Launch) (g : pq_g) (a : Nat → Nat) (T : ModS) (p1 : Int32) (r : Int32) (hf : f_X7_key T p1 = some r) : pq_R l yX7_key cX7_key 2 .int 1 g (modW g a T) [.ref (a 0), .int p1] r := by
  rw [f_X7_key] at hf
  refine pq_R.of (own := RX7) (by decide) rfl (Nat.le_of_ble_eq_true rfl) rfl ?_
  intro p e s m below meth c ls Q S hP hK hl hend
  obtain ⟨hx, hb, hml, hown, hts⟩ := id S
  refine lv_aload_n hx hb dX7_key_0 rfl (lv_at hl 0 rfl) ?_
  refine pq_get S hK hP inX7 0 rfl rfl 1 (by decide) fl_X7_9 rfl (v := .ref (a 1)) rfl dX7_key_1 ?_
  refine lv_iconst (v := 2) hx hb dX7_key_4 (by decide) ?_
  refine lv_iconst (v := 2) hx hb dX7_key_5 (by decide) ?_
  refine lv_iload_n hx hb dX7_key_6 rfl (lv_at hl 1 rfl) ?_
  refine lv_imul hx hb dX7_key_7 ?_
  refine lv_iadd hx hb dX7_key_8 ?_
  by_cases h1 : ((2 + (2 * p1)) < 0 ∨ 770 ≤ (2 + (2 * p1)).toNatClampNeg)
  · exact absurd (pq_ifp h1 hf) (fun h9 => by cases h9)
  replace hf := pq_ifn h1 hf
  refine va_iald hx hb hK.1 hP 1 0 rfl rfl h1 dX7_key_9 ?_
  exact hend _ _ _ dX7_key_10 rfl hf
def f_X7_priority (T : ModS) (p1 : Int32) : Option (Int32) :=
    if (((2 + (2 * p1)) + 1) < 0 ∨ 770 ≤ ((2 + (2 * p1)) + 1).toNatClampNeg) then none
    else
      some (T.2.1 ((2 + (2 * p1)) + 1).toNatClampNeg)
set_option maxHeartbeats 4000000 in
set_option maxRecDepth 100000 in
theorem c_X7_priority (l : Launch) (g : pq_g) (a : Nat → Nat) (T : ModS) (p1 : Int32) (r : Int32) (hf : f_X7_priority T p1 = some r) : pq_R l yX7_priority cX7_priority 2 .int 1 g (modW g a T) [.ref (a 0), .int p1] r := by
  rw [f_X7_priority] at hf
  refine pq_R.of (own := RX7) (by decide) rfl (Nat.le_of_ble_eq_true rfl) rfl ?_
  intro p e s m below meth c ls Q S hP hK hl hend
  obtain ⟨hx, hb, hml, hown, hts⟩ := id S
  refine lv_aload_n hx hb dX7_priority_0 rfl (lv_at hl 0 rfl) ?_
  refine pq_get S hK hP inX7 0 rfl rfl 1 (by decide) fl_X7_9 rfl (v := .ref (a 1)) rfl dX7_priority_1 ?_
  refine lv_iconst (v := 2) hx hb dX7_priority_4 (by decide) ?_
  refine lv_iconst (v := 2) hx hb dX7_priority_5 (by decide) ?_
  refine lv_iload_n hx hb dX7_priority_6 rfl (lv_at hl 1 rfl) ?_
  refine lv_imul hx hb dX7_priority_7 ?_
  refine lv_iadd hx hb dX7_priority_8 ?_
  refine lv_iconst (v := 1) hx hb dX7_priority_9 (by decide) ?_
  refine lv_iadd hx hb dX7_priority_10 ?_
  by_cases h1 : (((2 + (2 * p1)) + 1) < 0 ∨ 770 ≤ ((2 + (2 * p1)) + 1).toNatClampNeg)
  · exact absurd (pq_ifp h1 hf) (fun h9 => by cases h9)
  replace hf := pq_ifn h1 hf
  refine va_iald hx hb hK.1 hP 1 0 rfl rfl h1 dX7_priority_11 ?_
  exact hend _ _ _ dX7_priority_12 rfl hf
def f_X7_below_c4 : Nat → ModS → Int32 → Int32 → Int32 → Option (Int32)
  | 0, _, _, _, _ => none
  | n + 1, T, v1, v2, v3 =>
    if (T.2.1 (0 : Int32).toNatClampNeg) ≤ v3 then
      some v2
    else
      (f_X7_key T v3).bind fun q3 =>
      if v1 ≤ q3 then
        f_X7_below_c4 n T v1 (v2 + 0) (v3 + 1)
      else
        f_X7_below_c4 n T v1 (v2 + 1) (v3 + 1)
def f_X7_below (T : ModS) (p1 : Int32) : Option (Int32) :=
    f_X7_below_c4 200 T p1 0 0
set_option maxHeartbeats 4000000 in
set_option maxRecDepth 100000 in
theorem c_X7_below (l : Launch) (g : pq_g) (a : Nat → Nat) (T : ModS) (p1 : Int32) (r : Int32) (hf : f_X7_below T p1 = some r) : pq_R l yX7_below cX7_below 4 .int 2 g (modW g a T) [.ref (a 0), .int p1] r := by
  rw [f_X7_below] at hf
  refine pq_R.of (own := RX7) (by decide) rfl (Nat.le_of_ble_eq_true rfl) rfl ?_
  intro p e s m below meth c ls Q S hP hK hl hend
  obtain ⟨hx, hb, hml, hown, hts⟩ := id S
  have B4 : ∀ (n4 : Nat) (v1 : Int32) (v2 : Int32) (v3 : Int32) (ls : Array Slot), lv_has ls 4 [(0, .ref (a 0)), (1, .int v1), (2, .int v2), (3, .int v3)] → f_X7_below_c4 n4 T v1 v2 v3 = some r → W p l e (pq_rm 2 0 0) s m ([.ref (a 0), .int p1] : List Value).toArray below meth c s.heap [] 0 0 Q (F0 m 4 ls []) := by
    intro n4
    induction n4 with
    | zero =>
      intro v1 v2 v3 ls hl hf
      exact absurd hf (by simp [f_X7_below_c4])
    | succ n4 ih4 =>
      intro v1 v2 v3 ls hl hf
      rw [f_X7_below_c4] at hf
      refine lv_iload_n hx hb dX7_below_4 rfl (lv_at hl 3 rfl) ?_
      refine lv_aload_n hx hb dX7_below_5 rfl (lv_at hl 0 rfl) ?_
      refine pq_get S hK hP inX7 0 rfl rfl 1 (by decide) fl_X7_9 rfl (v := .ref (a 1)) rfl dX7_below_6 ?_
      refine lv_iconst (v := 0) hx hb dX7_below_9 (by decide) ?_
      refine va_iald hx hb hK.1 hP 1 0 rfl rfl (show ¬ ((0 : Int32) < 0 ∨ 770 ≤ (0 : Int32).toNatClampNeg) by decide) dX7_below_10 ?_
      refine lv_icmp_ge (tgt := 37) hx hb dX7_below_11 (by decide) (fun h1 => ?_) (fun h1 => ?_)
      · replace hf := pq_ifp h1 hf
        refine lv_iload_n hx hb dX7_below_37 rfl (lv_at hl 2 rfl) ?_
        exact hend _ _ _ dX7_below_38 rfl hf
      · replace hf := pq_ifn h1 hf
        refine lv_iload_n hx hb dX7_below_14 rfl (lv_at hl 2 rfl) ?_
        refine lv_aload_n hx hb dX7_below_15 rfl (lv_at hl 0 rfl) ?_
        refine lv_iload_n hx hb dX7_below_16 rfl (lv_at hl 3 rfl) ?_
        obtain ⟨q3, e2, hf⟩ := pq_bind hf
        refine pq_cV S (c_X7_key l g a T v3 q3 e2) vv_X7_57 hK hP rfl rfl rfl rfl rfl hl.1 (Nat.le_of_ble_eq_true rfl) dX7_below_17 (by decide) (by decide) ⟨Nat.le_refl _, Nat.le_refl _⟩ ?_
        refine lv_iload_n hx hb dX7_below_20 rfl (lv_at hl 1 rfl) ?_
        refine lv_icmp_ge (tgt := 28) hx hb dX7_below_21 (by decide) (fun h4 => ?_) (fun h4 => ?_)
        · replace hf := pq_ifp h4 hf
          refine lv_iconst (v := 0) hx hb dX7_below_28 (by decide) ?_
          refine lv_iadd hx hb dX7_below_29 ?_
          refine lv_istore_n (lv' := [(2, .int (v2 + 0)), (0, .ref (a 0)), (1, .int v1), (3, .int v3)]) hx hb dX7_below_30 rfl hl (by decide) rfl (fun ls hl => ?_)
          refine lv_iinc (v := (v3 + 1)) (lv' := [(3, .int (v3 + 1)), (2, .int (v2 + 0)), (0, .ref (a 0)), (1, .int v1)]) hx hb dX7_below_31 hl (k := 3) rfl rfl (by decide) rfl (fun ls hl => ?_)
          refine lv_goto (tgt := 4) hx hb dX7_below_34 (by decide) ?_
          exact ih4 v1 (v2 + 0) (v3 + 1) ls (lv_sub hl [2, 3, 1, 0] rfl) hf
        · replace hf := pq_ifn h4 hf
          refine lv_iconst (v := 1) hx hb dX7_below_24 (by decide) ?_
          refine lv_goto (tgt := 29) hx hb dX7_below_25 (by decide) ?_
          refine lv_iadd hx hb dX7_below_29 ?_
          refine lv_istore_n (lv' := [(2, .int (v2 + 1)), (0, .ref (a 0)), (1, .int v1), (3, .int v3)]) hx hb dX7_below_30 rfl hl (by decide) rfl (fun ls hl => ?_)
          refine lv_iinc (v := (v3 + 1)) (lv' := [(3, .int (v3 + 1)), (2, .int (v2 + 1)), (0, .ref (a 0)), (1, .int v1)]) hx hb dX7_below_31 hl (k := 3) rfl rfl (by decide) rfl (fun ls hl => ?_)
          refine lv_goto (tgt := 4) hx hb dX7_below_34 (by decide) ?_
          exact ih4 v1 (v2 + 1) (v3 + 1) ls (lv_sub hl [2, 3, 1, 0] rfl) hf
  refine lv_iconst (v := 0) hx hb dX7_below_0 (by decide) ?_
  refine lv_istore_n (lv' := [(2, .int 0), (0, .ref (a 0)), (1, .int p1)]) hx hb dX7_below_1 rfl hl (by decide) rfl (fun ls hl => ?_)
  refine lv_iconst (v := 0) hx hb dX7_below_2 (by decide) ?_
  refine lv_istore_n (lv' := [(3, .int 0), (2, .int 0), (0, .ref (a 0)), (1, .int p1)]) hx hb dX7_below_3 rfl hl (by decide) rfl (fun ls hl => ?_)
  exact B4 200 p1 0 0 ls (lv_sub hl [2, 3, 1, 0] rfl) hf
def f_X7_find (T : ModS) (p1 : Int32) : Option (Int32) :=
    (f_X7_below T p1).bind fun q2 =>
    if (T.2.1 (0 : Int32).toNatClampNeg) ≤ q2 then
      some (-1)
    else
      (f_X7_key T q2).bind fun q5 =>
      if q5 = p1 then
        some q2
      else
        some (-1)
set_option maxHeartbeats 4000000 in
set_option maxRecDepth 100000 in
theorem c_X7_find (l : Launch) (g : pq_g) (a : Nat → Nat) (T : ModS) (p1 : Int32) (r : Int32) (hf : f_X7_find T p1 = some r) : pq_R l yX7_find cX7_find 3 .int 3 g (modW g a T) [.ref (a 0), .int p1] r := by
  rw [f_X7_find] at hf
  refine pq_R.of (own := RX7) (by decide) rfl (Nat.le_of_ble_eq_true rfl) rfl ?_
  intro p e s m below meth c ls Q S hP hK hl hend
  obtain ⟨hx, hb, hml, hown, hts⟩ := id S
  refine lv_aload_n hx hb dX7_find_0 rfl (lv_at hl 0 rfl) ?_
  refine lv_iload_n hx hb dX7_find_1 rfl (lv_at hl 1 rfl) ?_
  obtain ⟨q2, e1, hf⟩ := pq_bind hf
  refine pq_cV S (c_X7_below l g a T p1 q2 e1) vv_X7_61 hK hP rfl rfl rfl rfl rfl hl.1 (Nat.le_of_ble_eq_true rfl) dX7_find_2 (by decide) (by decide) ⟨Nat.le_refl _, Nat.le_refl _⟩ ?_
  refine lv_istore_n (lv' := [(2, .int q2), (0, .ref (a 0)), (1, .int p1)]) hx hb dX7_find_5 rfl hl (by decide) rfl (fun ls hl => ?_)
  refine lv_iload_n hx hb dX7_find_6 rfl (lv_at hl 0 rfl) ?_
  refine lv_aload_n hx hb dX7_find_7 rfl (lv_at hl 1 rfl) ?_
  refine pq_get S hK hP inX7 0 rfl rfl 1 (by decide) fl_X7_9 rfl (v := .ref (a 1)) rfl dX7_find_8 ?_
  refine lv_iconst (v := 0) hx hb dX7_find_11 (by decide) ?_
  refine va_iald hx hb hK.1 hP 1 0 rfl rfl (show ¬ ((0 : Int32) < 0 ∨ 770 ≤ (0 : Int32).toNatClampNeg) by decide) dX7_find_12 ?_
  refine lv_icmp_ge (tgt := 29) hx hb dX7_find_13 (by decide) (fun h3 => ?_) (fun h3 => ?_)
  · replace hf := pq_ifp h3 hf
    refine lv_iconst (v := (-1)) hx hb dX7_find_29 (by decide) ?_
    exact hend _ _ _ dX7_find_30 rfl hf
  · replace hf := pq_ifn h3 hf
    refine lv_aload_n hx hb dX7_find_16 rfl (lv_at hl 1 rfl) ?_
    refine lv_iload_n hx hb dX7_find_17 rfl (lv_at hl 0 rfl) ?_
    obtain ⟨q5, e4, hf⟩ := pq_bind hf
    refine pq_cV S (c_X7_key l g a T q2 q5 e4) vv_X7_57 hK hP rfl rfl rfl rfl rfl hl.1 (Nat.le_of_ble_eq_true rfl) dX7_find_18 (by decide) (by decide) ⟨Nat.le_refl _, Nat.le_refl _⟩ ?_
    refine lv_iload_n hx hb dX7_find_21 rfl (lv_at hl 2 rfl) ?_
    refine lv_icmp_ne (tgt := 29) hx hb dX7_find_22 (by decide) (fun h6 => ?_) (fun h6 => ?_)
    · replace hf := pq_ifn h6 hf
      refine lv_iconst (v := (-1)) hx hb dX7_find_29 (by decide) ?_
      exact hend _ _ _ dX7_find_30 rfl hf
    · replace hf := pq_ifp h6 hf
      refine lv_iload_n hx hb dX7_find_25 rfl (lv_at hl 0 rfl) ?_
      refine lv_goto (tgt := 30) hx hb dX7_find_26 (by decide) ?_
      exact hend _ _ _ dX7_find_30 rfl hf
def f_X7_isAbove (T : ModS) (p1 : Int32) (p2 : Int32) : Option (Int32) :=
    (f_X7_priority T p1).bind fun q2 =>
    (f_X7_priority T p2).bind fun q4 =>
    if q4 < q2 then
      some 1
    else
      (f_X7_priority T p1).bind fun q7 =>
      (f_X7_priority T p2).bind fun q9 =>
      if q7 = q9 then
        if p2 ≤ p1 then
          some 0
        else
          some 1
      else
        some 0
set_option maxHeartbeats 4000000 in
set_option maxRecDepth 100000 in
theorem c_X7_isAbove (l : Launch) (g : pq_g) (a : Nat → Nat) (T : ModS) (p1 : Int32) (p2 : Int32) (r : Int32) (hf : f_X7_isAbove T p1 p2 = some r) : pq_R l yX7_isAbove cX7_isAbove 3 .boolean 2 g (modW g a T) [.ref (a 0), .int p1, .int p2] r := by
  rw [f_X7_isAbove] at hf
  refine pq_R.of (own := RX7) (by decide) rfl (Nat.le_of_ble_eq_true rfl) rfl ?_
  intro p e s m below meth c ls Q S hP hK hl hend
  obtain ⟨hx, hb, hml, hown, hts⟩ := id S
  refine lv_aload_n hx hb dX7_isAbove_0 rfl (lv_at hl 0 rfl) ?_
  refine lv_iload_n hx hb dX7_isAbove_1 rfl (lv_at hl 1 rfl) ?_
  obtain ⟨q2, e1, hf⟩ := pq_bind hf
  refine pq_cV S (c_X7_priority l g a T p1 q2 e1) vv_X7_64 hK hP rfl rfl rfl rfl rfl hl.1 (Nat.le_of_ble_eq_true rfl) dX7_isAbove_2 (by decide) (by decide) ⟨Nat.le_refl _, Nat.le_refl _⟩ ?_
  refine lv_aload_n hx hb dX7_isAbove_5 rfl (lv_at hl 0 rfl) ?_
  refine lv_iload_n hx hb dX7_isAbove_6 rfl (lv_at hl 2 rfl) ?_
  obtain ⟨q4, e3, hf⟩ := pq_bind hf
  refine pq_cV S (c_X7_priority l g a T p2 q4 e3) vv_X7_64 hK hP rfl rfl rfl rfl rfl hl.1 (Nat.le_of_ble_eq_true rfl) dX7_isAbove_7 (by decide) (by decide) ⟨Nat.le_refl _, Nat.le_refl _⟩ ?_
  refine lv_icmp_gt (tgt := 31) hx hb dX7_isAbove_10 (by decide) (fun h5 => ?_) (fun h5 => ?_)
  · replace hf := pq_ifp h5 hf
    refine lv_iconst (v := 1) hx hb dX7_isAbove_31 (by decide) ?_
    refine lv_goto (tgt := 36) hx hb dX7_isAbove_32 (by decide) ?_
    exact hend _ _ _ dX7_isAbove_36 rfl hf
  · replace hf := pq_ifn h5 hf
    refine lv_aload_n hx hb dX7_isAbove_13 rfl (lv_at hl 0 rfl) ?_
    refine lv_iload_n hx hb dX7_isAbove_14 rfl (lv_at hl 1 rfl) ?_
    obtain ⟨q7, e6, hf⟩ := pq_bind hf
    refine pq_cV S (c_X7_priority l g a T p1 q7 e6) vv_X7_64 hK hP rfl rfl rfl rfl rfl hl.1 (Nat.le_of_ble_eq_true rfl) dX7_isAbove_15 (by decide) (by decide) ⟨Nat.le_refl _, Nat.le_refl _⟩ ?_
    refine lv_aload_n hx hb dX7_isAbove_18 rfl (lv_at hl 0 rfl) ?_
    refine lv_iload_n hx hb dX7_isAbove_19 rfl (lv_at hl 2 rfl) ?_
    obtain ⟨q9, e8, hf⟩ := pq_bind hf
    refine pq_cV S (c_X7_priority l g a T p2 q9 e8) vv_X7_64 hK hP rfl rfl rfl rfl rfl hl.1 (Nat.le_of_ble_eq_true rfl) dX7_isAbove_20 (by decide) (by decide) ⟨Nat.le_refl _, Nat.le_refl _⟩ ?_
    refine lv_icmp_ne (tgt := 35) hx hb dX7_isAbove_23 (by decide) (fun h10 => ?_) (fun h10 => ?_)
    · replace hf := pq_ifn h10 hf
      refine lv_iconst (v := 0) hx hb dX7_isAbove_35 (by decide) ?_
      exact hend _ _ _ dX7_isAbove_36 rfl hf
    · replace hf := pq_ifp h10 hf
      refine lv_iload_n hx hb dX7_isAbove_26 rfl (lv_at hl 1 rfl) ?_
      refine lv_iload_n hx hb dX7_isAbove_27 rfl (lv_at hl 2 rfl) ?_
      refine lv_icmp_ge (tgt := 35) hx hb dX7_isAbove_28 (by decide) (fun h11 => ?_) (fun h11 => ?_)
      · replace hf := pq_ifp h11 hf
        refine lv_iconst (v := 0) hx hb dX7_isAbove_35 (by decide) ?_
        exact hend _ _ _ dX7_isAbove_36 rfl hf
      · replace hf := pq_ifn h11 hf
        refine lv_iconst (v := 1) hx hb dX7_isAbove_31 (by decide) ?_
        refine lv_goto (tgt := 36) hx hb dX7_isAbove_32 (by decide) ?_
        exact hend _ _ _ dX7_isAbove_36 rfl hf
def f_X7_top_c16 : Nat → ModS → Int32 → Int32 → Int32 → Option (Int32)
  | 0, _, _, _, _ => none
  | n + 1, T, v2, v3, v4 =>
    if v2 < v4 then
      some v3
    else
      (f_X7_isAbove T v4 v3).bind fun q3 =>
      if q3 = 0 then
        f_X7_top_c16 n T v2 v3 (v4 + 1)
      else
        f_X7_top_c16 n T v2 v4 (v4 + 1)
def f_X7_top (T : ModS) (p1 : Int32) (p2 : Int32) : Option (Int32) :=
    if p2 < p1 then
      f_X7_top_c16 200 T p2 (-1) (p1 + 1)
    else
      f_X7_top_c16 200 T p2 p1 (p1 + 1)
set_option maxHeartbeats 4000000 in
set_option maxRecDepth 100000 in
theorem c_X7_top (l : Launch) (g : pq_g) (a : Nat → Nat) (T : ModS) (p1 : Int32) (p2 : Int32) (r : Int32) (hf : f_X7_top T p1 p2 = some r) : pq_R l yX7_top cX7_top 5 .int 3 g (modW g a T) [.ref (a 0), .int p1, .int p2] r := by
  rw [f_X7_top] at hf
  refine pq_R.of (own := RX7) (by decide) rfl (Nat.le_of_ble_eq_true rfl) rfl ?_
  intro p e s m below meth c ls Q S hP hK hl hend
  obtain ⟨hx, hb, hml, hown, hts⟩ := id S
  have B16 : ∀ (n16 : Nat) (v2 : Int32) (v3 : Int32) (v4 : Int32) (ls : Array Slot), lv_has ls 5 [(0, .ref (a 0)), (2, .int v2), (3, .int v3), (4, .int v4)] → f_X7_top_c16 n16 T v2 v3 v4 = some r → W p l e (pq_rm 3 0 0) s m ([.ref (a 0), .int p1, .int p2] : List Value).toArray below meth c s.heap [] 0 0 Q (F0 m 16 ls []) := by
    intro n16
    induction n16 with
    | zero =>
      intro v2 v3 v4 ls hl hf
      exact absurd hf (by simp [f_X7_top_c16])
    | succ n16 ih16 =>
      intro v2 v3 v4 ls hl hf
      rw [f_X7_top_c16] at hf
      refine lv_iload hx hb dX7_top_16 (lv_at hl 3 rfl) ?_
      refine lv_iload_n hx hb dX7_top_18 rfl (lv_at hl 1 rfl) ?_
      refine lv_icmp_gt (tgt := 45) hx hb dX7_top_19 (by decide) (fun h1 => ?_) (fun h1 => ?_)
      · replace hf := pq_ifp h1 hf
        refine lv_iload_n hx hb dX7_top_45 rfl (lv_at hl 2 rfl) ?_
        exact hend _ _ _ dX7_top_46 rfl hf
      · replace hf := pq_ifn h1 hf
        refine lv_aload_n hx hb dX7_top_22 rfl (lv_at hl 0 rfl) ?_
        refine lv_iload hx hb dX7_top_23 (lv_at hl 3 rfl) ?_
        refine lv_iload_n hx hb dX7_top_25 rfl (lv_at hl 2 rfl) ?_
        obtain ⟨q3, e2, hf⟩ := pq_bind hf
        refine pq_cV S (c_X7_isAbove l g a T v4 v3 q3 e2) vv_X7_67 hK hP rfl rfl rfl rfl rfl hl.1 (Nat.le_of_ble_eq_true rfl) dX7_top_26 (by decide) (by decide) ⟨Nat.le_refl _, Nat.le_refl _⟩ ?_
        refine lv_if_eq (tgt := 37) hx hb dX7_top_29 (by decide) (fun h4 => ?_) (fun h4 => ?_)
        · replace hf := pq_ifp h4 hf
          refine lv_iload_n hx hb dX7_top_37 rfl (lv_at hl 2 rfl) ?_
          refine lv_istore_n (lv' := [(3, .int v3), (0, .ref (a 0)), (2, .int v2), (4, .int v4)]) hx hb dX7_top_38 rfl hl (by decide) rfl (fun ls hl => ?_)
          refine lv_iinc (v := (v4 + 1)) (lv' := [(4, .int (v4 + 1)), (3, .int v3), (0, .ref (a 0)), (2, .int v2)]) hx hb dX7_top_39 hl (k := 3) rfl rfl (by decide) rfl (fun ls hl => ?_)
          refine lv_goto (tgt := 16) hx hb dX7_top_42 (by decide) ?_
          exact ih16 v2 v3 (v4 + 1) ls (lv_sub hl [2, 3, 1, 0] rfl) hf
        · replace hf := pq_ifn h4 hf
          refine lv_iload hx hb dX7_top_32 (lv_at hl 3 rfl) ?_
          refine lv_goto (tgt := 38) hx hb dX7_top_34 (by decide) ?_
          refine lv_istore_n (lv' := [(3, .int v4), (0, .ref (a 0)), (2, .int v2), (4, .int v4)]) hx hb dX7_top_38 rfl hl (by decide) rfl (fun ls hl => ?_)
          refine lv_iinc (v := (v4 + 1)) (lv' := [(4, .int (v4 + 1)), (3, .int v4), (0, .ref (a 0)), (2, .int v2)]) hx hb dX7_top_39 hl (k := 3) rfl rfl (by decide) rfl (fun ls hl => ?_)
          refine lv_goto (tgt := 16) hx hb dX7_top_42 (by decide) ?_
          exact ih16 v2 v4 (v4 + 1) ls (lv_sub hl [2, 3, 1, 0] rfl) hf
  refine lv_iload_n hx hb dX7_top_0 rfl (lv_at hl 1 rfl) ?_
  refine lv_iload_n hx hb dX7_top_1 rfl (lv_at hl 2 rfl) ?_
  refine lv_icmp_gt (tgt := 9) hx hb dX7_top_2 (by decide) (fun h5 => ?_) (fun h5 => ?_)
  · replace hf := pq_ifp h5 hf
    refine lv_iconst (v := (-1)) hx hb dX7_top_9 (by decide) ?_
    refine lv_istore_n (lv' := [(3, .int (-1)), (0, .ref (a 0)), (1, .int p1), (2, .int p2)]) hx hb dX7_top_10 rfl hl (by decide) rfl (fun ls hl => ?_)
    refine lv_iload_n hx hb dX7_top_11 rfl (lv_at hl 2 rfl) ?_
    refine lv_iconst (v := 1) hx hb dX7_top_12 (by decide) ?_
    refine lv_iadd hx hb dX7_top_13 ?_
    refine lv_istore (lv' := [(4, .int (p1 + 1)), (3, .int (-1)), (0, .ref (a 0)), (1, .int p1), (2, .int p2)]) hx hb dX7_top_14 hl (by decide) rfl (fun ls hl => ?_)
    exact B16 200 p2 (-1) (p1 + 1) ls (lv_sub hl [2, 4, 1, 0] rfl) hf
  · replace hf := pq_ifn h5 hf
    refine lv_iload_n hx hb dX7_top_5 rfl (lv_at hl 1 rfl) ?_
    refine lv_goto (tgt := 10) hx hb dX7_top_6 (by decide) ?_
    refine lv_istore_n (lv' := [(3, .int p1), (0, .ref (a 0)), (1, .int p1), (2, .int p2)]) hx hb dX7_top_10 rfl hl (by decide) rfl (fun ls hl => ?_)
    refine lv_iload_n hx hb dX7_top_11 rfl (lv_at hl 2 rfl) ?_
    refine lv_iconst (v := 1) hx hb dX7_top_12 (by decide) ?_
    refine lv_iadd hx hb dX7_top_13 ?_
    refine lv_istore (lv' := [(4, .int (p1 + 1)), (3, .int p1), (0, .ref (a 0)), (1, .int p1), (2, .int p2)]) hx hb dX7_top_14 hl (by decide) rfl (fun ls hl => ?_)
    exact B16 200 p2 p1 (p1 + 1) ls (lv_sub hl [2, 4, 1, 0] rfl) hf
def f_X7_first_c2 : Nat → ModS → Int32 → Int32 → Option (Int32)
  | 0, _, _, _ => none
  | n + 1, T, v1, v2 =>
    if v2 ≤ 0 then
      some v2
    else
      (f_X7_isAbove T v1 (v2 - 1)).bind fun q3 =>
      if q3 = 0 then
        some v2
      else
        f_X7_first_c2 n T v1 (v2 + (-1))
def f_X7_first (T : ModS) (p1 : Int32) : Option (Int32) :=
    f_X7_first_c2 200 T p1 p1
set_option maxHeartbeats 4000000 in
set_option maxRecDepth 100000 in
theorem c_X7_first (l : Launch) (g : pq_g) (a : Nat → Nat) (T : ModS) (p1 : Int32) (r : Int32) (hf : f_X7_first T p1 = some r) : pq_R l yX7_first cX7_first 3 .int 3 g (modW g a T) [.ref (a 0), .int p1] r := by
  rw [f_X7_first] at hf
  refine pq_R.of (own := RX7) (by decide) rfl (Nat.le_of_ble_eq_true rfl) rfl ?_
  intro p e s m below meth c ls Q S hP hK hl hend
  obtain ⟨hx, hb, hml, hown, hts⟩ := id S
  have B2 : ∀ (n2 : Nat) (v1 : Int32) (v2 : Int32) (ls : Array Slot), lv_has ls 3 [(0, .ref (a 0)), (1, .int v1), (2, .int v2)] → f_X7_first_c2 n2 T v1 v2 = some r → W p l e (pq_rm 3 0 0) s m ([.ref (a 0), .int p1] : List Value).toArray below meth c s.heap [] 0 0 Q (F0 m 2 ls []) := by
    intro n2
    induction n2 with
    | zero =>
      intro v1 v2 ls hl hf
      exact absurd hf (by simp [f_X7_first_c2])
    | succ n2 ih2 =>
      intro v1 v2 ls hl hf
      rw [f_X7_first_c2] at hf
      refine lv_iload_n hx hb dX7_first_2 rfl (lv_at hl 2 rfl) ?_
      refine lv_if_le (tgt := 23) hx hb dX7_first_3 (by decide) (fun h1 => ?_) (fun h1 => ?_)
      · replace hf := pq_ifp h1 hf
        refine lv_iload_n hx hb dX7_first_23 rfl (lv_at hl 2 rfl) ?_
        exact hend _ _ _ dX7_first_24 rfl hf
      · replace hf := pq_ifn h1 hf
        refine lv_aload_n hx hb dX7_first_6 rfl (lv_at hl 0 rfl) ?_
        refine lv_iload_n hx hb dX7_first_7 rfl (lv_at hl 1 rfl) ?_
        refine lv_iload_n hx hb dX7_first_8 rfl (lv_at hl 2 rfl) ?_
        refine lv_iconst (v := 1) hx hb dX7_first_9 (by decide) ?_
        refine lv_isub hx hb dX7_first_10 ?_
        obtain ⟨q3, e2, hf⟩ := pq_bind hf
        refine pq_cV S (c_X7_isAbove l g a T v1 (v2 - 1) q3 e2) vv_X7_67 hK hP rfl rfl rfl rfl rfl hl.1 (Nat.le_of_ble_eq_true rfl) dX7_first_11 (by decide) (by decide) ⟨Nat.le_refl _, Nat.le_refl _⟩ ?_
        refine lv_if_eq (tgt := 23) hx hb dX7_first_14 (by decide) (fun h4 => ?_) (fun h4 => ?_)
        · replace hf := pq_ifp h4 hf
          refine lv_iload_n hx hb dX7_first_23 rfl (lv_at hl 2 rfl) ?_
          exact hend _ _ _ dX7_first_24 rfl hf
        · replace hf := pq_ifn h4 hf
          refine lv_iinc (v := (v2 + (-1))) (lv' := [(2, .int (v2 + (-1))), (0, .ref (a 0)), (1, .int v1)]) hx hb dX7_first_17 hl (k := 2) rfl rfl (by decide) rfl (fun ls hl => ?_)
          refine lv_goto (tgt := 2) hx hb dX7_first_20 (by decide) ?_
          exact ih2 v1 (v2 + (-1)) ls (lv_sub hl [1, 2, 0] rfl) hf
  refine lv_iload_n hx hb dX7_first_0 rfl (lv_at hl 1 rfl) ?_
  refine lv_istore_n (lv' := [(2, .int p1), (0, .ref (a 0)), (1, .int p1)]) hx hb dX7_first_1 rfl hl (by decide) rfl (fun ls hl => ?_)
  exact B2 200 p1 p1 ls (lv_sub hl [1, 2, 0] rfl) hf
def f_X7_last_c2 : Nat → ModS → Int32 → Int32 → Option (Int32)
  | 0, _, _, _ => none
  | n + 1, T, v1, v2 =>
    if ((T.2.1 (0 : Int32).toNatClampNeg) - 1) ≤ v2 then
      some v2
    else
      (f_X7_isAbove T v1 (v2 + 1)).bind fun q3 =>
      if q3 = 0 then
        some v2
      else
        f_X7_last_c2 n T v1 (v2 + 1)
def f_X7_last (T : ModS) (p1 : Int32) : Option (Int32) :=
    f_X7_last_c2 200 T p1 p1
set_option maxHeartbeats 4000000 in
set_option maxRecDepth 100000 in
theorem c_X7_last (l : Launch) (g : pq_g) (a : Nat → Nat) (T : ModS) (p1 : Int32) (r : Int32) (hf : f_X7_last T p1 = some r) : pq_R l yX7_last cX7_last 3 .int 3 g (modW g a T) [.ref (a 0), .int p1] r := by
  rw [f_X7_last] at hf
  refine pq_R.of (own := RX7) (by decide) rfl (Nat.le_of_ble_eq_true rfl) rfl ?_
  intro p e s m below meth c ls Q S hP hK hl hend
  obtain ⟨hx, hb, hml, hown, hts⟩ := id S
  have B2 : ∀ (n2 : Nat) (v1 : Int32) (v2 : Int32) (ls : Array Slot), lv_has ls 3 [(0, .ref (a 0)), (1, .int v1), (2, .int v2)] → f_X7_last_c2 n2 T v1 v2 = some r → W p l e (pq_rm 3 0 0) s m ([.ref (a 0), .int p1] : List Value).toArray below meth c s.heap [] 0 0 Q (F0 m 2 ls []) := by
    intro n2
    induction n2 with
    | zero =>
      intro v1 v2 ls hl hf
      exact absurd hf (by simp [f_X7_last_c2])
    | succ n2 ih2 =>
      intro v1 v2 ls hl hf
      rw [f_X7_last_c2] at hf
      refine lv_iload_n hx hb dX7_last_2 rfl (lv_at hl 2 rfl) ?_
      refine lv_aload_n hx hb dX7_last_3 rfl (lv_at hl 0 rfl) ?_
      refine pq_get S hK hP inX7 0 rfl rfl 1 (by decide) fl_X7_9 rfl (v := .ref (a 1)) rfl dX7_last_4 ?_
      refine lv_iconst (v := 0) hx hb dX7_last_7 (by decide) ?_
      refine va_iald hx hb hK.1 hP 1 0 rfl rfl (show ¬ ((0 : Int32) < 0 ∨ 770 ≤ (0 : Int32).toNatClampNeg) by decide) dX7_last_8 ?_
      refine lv_iconst (v := 1) hx hb dX7_last_9 (by decide) ?_
      refine lv_isub hx hb dX7_last_10 ?_
      refine lv_icmp_ge (tgt := 31) hx hb dX7_last_11 (by decide) (fun h1 => ?_) (fun h1 => ?_)
      · replace hf := pq_ifp h1 hf
        refine lv_iload_n hx hb dX7_last_31 rfl (lv_at hl 2 rfl) ?_
        exact hend _ _ _ dX7_last_32 rfl hf
      · replace hf := pq_ifn h1 hf
        refine lv_aload_n hx hb dX7_last_14 rfl (lv_at hl 0 rfl) ?_
        refine lv_iload_n hx hb dX7_last_15 rfl (lv_at hl 1 rfl) ?_
        refine lv_iload_n hx hb dX7_last_16 rfl (lv_at hl 2 rfl) ?_
        refine lv_iconst (v := 1) hx hb dX7_last_17 (by decide) ?_
        refine lv_iadd hx hb dX7_last_18 ?_
        obtain ⟨q3, e2, hf⟩ := pq_bind hf
        refine pq_cV S (c_X7_isAbove l g a T v1 (v2 + 1) q3 e2) vv_X7_67 hK hP rfl rfl rfl rfl rfl hl.1 (Nat.le_of_ble_eq_true rfl) dX7_last_19 (by decide) (by decide) ⟨Nat.le_refl _, Nat.le_refl _⟩ ?_
        refine lv_if_eq (tgt := 31) hx hb dX7_last_22 (by decide) (fun h4 => ?_) (fun h4 => ?_)
        · replace hf := pq_ifp h4 hf
          refine lv_iload_n hx hb dX7_last_31 rfl (lv_at hl 2 rfl) ?_
          exact hend _ _ _ dX7_last_32 rfl hf
        · replace hf := pq_ifn h4 hf
          refine lv_iinc (v := (v2 + 1)) (lv' := [(2, .int (v2 + 1)), (0, .ref (a 0)), (1, .int v1)]) hx hb dX7_last_25 hl (k := 2) rfl rfl (by decide) rfl (fun ls hl => ?_)
          refine lv_goto (tgt := 2) hx hb dX7_last_28 (by decide) ?_
          exact ih2 v1 (v2 + 1) ls (lv_sub hl [1, 2, 0] rfl) hf
  refine lv_iload_n hx hb dX7_last_0 rfl (lv_at hl 1 rfl) ?_
  refine lv_istore_n (lv' := [(2, .int p1), (0, .ref (a 0)), (1, .int p1)]) hx hb dX7_last_1 rfl hl (by decide) rfl (fun ls hl => ?_)
  exact B2 200 p1 p1 ls (lv_sub hl [1, 2, 0] rfl) hf
def f_X7_depth_c4 : Nat → ModS → Int32 → Int32 → Int32 → Option (Int32)
  | 0, _, _, _, _ => none
  | n + 1, T, v1, v2, v3 =>
    if (T.2.1 (0 : Int32).toNatClampNeg) ≤ v3 then
      some v2
    else
      if v3 = v1 then
        f_X7_depth_c4 n T v1 (v2 + 0) (v3 + 1)
      else
        (f_X7_first T v3).bind fun q4 =>
        if v1 < q4 then
          f_X7_depth_c4 n T v1 (v2 + 0) (v3 + 1)
        else
          (f_X7_last T v3).bind fun q7 =>
          if q7 < v1 then
            f_X7_depth_c4 n T v1 (v2 + 0) (v3 + 1)
          else
            f_X7_depth_c4 n T v1 (v2 + 1) (v3 + 1)
def f_X7_depth (T : ModS) (p1 : Int32) : Option (Int32) :=
    f_X7_depth_c4 200 T p1 0 0
set_option maxHeartbeats 4000000 in
set_option maxRecDepth 100000 in
theorem c_X7_depth (l : Launch) (g : pq_g) (a : Nat → Nat) (T : ModS) (p1 : Int32) (r : Int32) (hf : f_X7_depth T p1 = some r) : pq_R l yX7_depth cX7_depth 4 .int 4 g (modW g a T) [.ref (a 0), .int p1] r := by
  rw [f_X7_depth] at hf
  refine pq_R.of (own := RX7) (by decide) rfl (Nat.le_of_ble_eq_true rfl) rfl ?_
  intro p e s m below meth c ls Q S hP hK hl hend
  obtain ⟨hx, hb, hml, hown, hts⟩ := id S
  have B4 : ∀ (n4 : Nat) (v1 : Int32) (v2 : Int32) (v3 : Int32) (ls : Array Slot), lv_has ls 4 [(0, .ref (a 0)), (1, .int v1), (2, .int v2), (3, .int v3)] → f_X7_depth_c4 n4 T v1 v2 v3 = some r → W p l e (pq_rm 4 0 0) s m ([.ref (a 0), .int p1] : List Value).toArray below meth c s.heap [] 0 0 Q (F0 m 4 ls []) := by
    intro n4
    induction n4 with
    | zero =>
      intro v1 v2 v3 ls hl hf
      exact absurd hf (by simp [f_X7_depth_c4])
    | succ n4 ih4 =>
      intro v1 v2 v3 ls hl hf
      rw [f_X7_depth_c4] at hf
      refine lv_iload_n hx hb dX7_depth_4 rfl (lv_at hl 3 rfl) ?_
      refine lv_aload_n hx hb dX7_depth_5 rfl (lv_at hl 0 rfl) ?_
      refine pq_get S hK hP inX7 0 rfl rfl 1 (by decide) fl_X7_9 rfl (v := .ref (a 1)) rfl dX7_depth_6 ?_
      refine lv_iconst (v := 0) hx hb dX7_depth_9 (by decide) ?_
      refine va_iald hx hb hK.1 hP 1 0 rfl rfl (show ¬ ((0 : Int32) < 0 ∨ 770 ≤ (0 : Int32).toNatClampNeg) by decide) dX7_depth_10 ?_
      refine lv_icmp_ge (tgt := 51) hx hb dX7_depth_11 (by decide) (fun h1 => ?_) (fun h1 => ?_)
      · replace hf := pq_ifp h1 hf
        refine lv_iload_n hx hb dX7_depth_51 rfl (lv_at hl 2 rfl) ?_
        exact hend _ _ _ dX7_depth_52 rfl hf
      · replace hf := pq_ifn h1 hf
        refine lv_iload_n hx hb dX7_depth_14 rfl (lv_at hl 2 rfl) ?_
        refine lv_iload_n hx hb dX7_depth_15 rfl (lv_at hl 3 rfl) ?_
        refine lv_iload_n hx hb dX7_depth_16 rfl (lv_at hl 1 rfl) ?_
        refine lv_icmp_eq (tgt := 42) hx hb dX7_depth_17 (by decide) (fun h2 => ?_) (fun h2 => ?_)
        · replace hf := pq_ifp h2 hf
          refine lv_iconst (v := 0) hx hb dX7_depth_42 (by decide) ?_
          refine lv_iadd hx hb dX7_depth_43 ?_
          refine lv_istore_n (lv' := [(2, .int (v2 + 0)), (0, .ref (a 0)), (1, .int v1), (3, .int v3)]) hx hb dX7_depth_44 rfl hl (by decide) rfl (fun ls hl => ?_)
          refine lv_iinc (v := (v3 + 1)) (lv' := [(3, .int (v3 + 1)), (2, .int (v2 + 0)), (0, .ref (a 0)), (1, .int v1)]) hx hb dX7_depth_45 hl (k := 3) rfl rfl (by decide) rfl (fun ls hl => ?_)
          refine lv_goto (tgt := 4) hx hb dX7_depth_48 (by decide) ?_
          exact ih4 v1 (v2 + 0) (v3 + 1) ls (lv_sub hl [2, 3, 1, 0] rfl) hf
        · replace hf := pq_ifn h2 hf
          refine lv_aload_n hx hb dX7_depth_20 rfl (lv_at hl 0 rfl) ?_
          refine lv_iload_n hx hb dX7_depth_21 rfl (lv_at hl 3 rfl) ?_
          obtain ⟨q4, e3, hf⟩ := pq_bind hf
          refine pq_cV S (c_X7_first l g a T v3 q4 e3) vv_X7_71 hK hP rfl rfl rfl rfl rfl hl.1 (Nat.le_of_ble_eq_true rfl) dX7_depth_22 (by decide) (by decide) ⟨Nat.le_refl _, Nat.le_refl _⟩ ?_
          refine lv_iload_n hx hb dX7_depth_25 rfl (lv_at hl 1 rfl) ?_
          refine lv_icmp_gt (tgt := 42) hx hb dX7_depth_26 (by decide) (fun h5 => ?_) (fun h5 => ?_)
          · replace hf := pq_ifp h5 hf
            refine lv_iconst (v := 0) hx hb dX7_depth_42 (by decide) ?_
            refine lv_iadd hx hb dX7_depth_43 ?_
            refine lv_istore_n (lv' := [(2, .int (v2 + 0)), (0, .ref (a 0)), (1, .int v1), (3, .int v3)]) hx hb dX7_depth_44 rfl hl (by decide) rfl (fun ls hl => ?_)
            refine lv_iinc (v := (v3 + 1)) (lv' := [(3, .int (v3 + 1)), (2, .int (v2 + 0)), (0, .ref (a 0)), (1, .int v1)]) hx hb dX7_depth_45 hl (k := 3) rfl rfl (by decide) rfl (fun ls hl => ?_)
            refine lv_goto (tgt := 4) hx hb dX7_depth_48 (by decide) ?_
            exact ih4 v1 (v2 + 0) (v3 + 1) ls (lv_sub hl [2, 3, 1, 0] rfl) hf
          · replace hf := pq_ifn h5 hf
            refine lv_aload_n hx hb dX7_depth_29 rfl (lv_at hl 0 rfl) ?_
            refine lv_iload_n hx hb dX7_depth_30 rfl (lv_at hl 3 rfl) ?_
            obtain ⟨q7, e6, hf⟩ := pq_bind hf
            refine pq_cV S (c_X7_last l g a T v3 q7 e6) vv_X7_74 hK hP rfl rfl rfl rfl rfl hl.1 (Nat.le_of_ble_eq_true rfl) dX7_depth_31 (by decide) (by decide) ⟨Nat.le_refl _, Nat.le_refl _⟩ ?_
            refine lv_iload_n hx hb dX7_depth_34 rfl (lv_at hl 1 rfl) ?_
            refine lv_icmp_lt (tgt := 42) hx hb dX7_depth_35 (by decide) (fun h8 => ?_) (fun h8 => ?_)
            · replace hf := pq_ifp h8 hf
              refine lv_iconst (v := 0) hx hb dX7_depth_42 (by decide) ?_
              refine lv_iadd hx hb dX7_depth_43 ?_
              refine lv_istore_n (lv' := [(2, .int (v2 + 0)), (0, .ref (a 0)), (1, .int v1), (3, .int v3)]) hx hb dX7_depth_44 rfl hl (by decide) rfl (fun ls hl => ?_)
              refine lv_iinc (v := (v3 + 1)) (lv' := [(3, .int (v3 + 1)), (2, .int (v2 + 0)), (0, .ref (a 0)), (1, .int v1)]) hx hb dX7_depth_45 hl (k := 3) rfl rfl (by decide) rfl (fun ls hl => ?_)
              refine lv_goto (tgt := 4) hx hb dX7_depth_48 (by decide) ?_
              exact ih4 v1 (v2 + 0) (v3 + 1) ls (lv_sub hl [2, 3, 1, 0] rfl) hf
            · replace hf := pq_ifn h8 hf
              refine lv_iconst (v := 1) hx hb dX7_depth_38 (by decide) ?_
              refine lv_goto (tgt := 43) hx hb dX7_depth_39 (by decide) ?_
              refine lv_iadd hx hb dX7_depth_43 ?_
              refine lv_istore_n (lv' := [(2, .int (v2 + 1)), (0, .ref (a 0)), (1, .int v1), (3, .int v3)]) hx hb dX7_depth_44 rfl hl (by decide) rfl (fun ls hl => ?_)
              refine lv_iinc (v := (v3 + 1)) (lv' := [(3, .int (v3 + 1)), (2, .int (v2 + 1)), (0, .ref (a 0)), (1, .int v1)]) hx hb dX7_depth_45 hl (k := 3) rfl rfl (by decide) rfl (fun ls hl => ?_)
              refine lv_goto (tgt := 4) hx hb dX7_depth_48 (by decide) ?_
              exact ih4 v1 (v2 + 1) (v3 + 1) ls (lv_sub hl [2, 3, 1, 0] rfl) hf
  refine lv_iconst (v := 0) hx hb dX7_depth_0 (by decide) ?_
  refine lv_istore_n (lv' := [(2, .int 0), (0, .ref (a 0)), (1, .int p1)]) hx hb dX7_depth_1 rfl hl (by decide) rfl (fun ls hl => ?_)
  refine lv_iconst (v := 0) hx hb dX7_depth_2 (by decide) ?_
  refine lv_istore_n (lv' := [(3, .int 0), (2, .int 0), (0, .ref (a 0)), (1, .int p1)]) hx hb dX7_depth_3 rfl hl (by decide) rfl (fun ls hl => ?_)
  exact B4 200 p1 0 0 ls (lv_sub hl [2, 3, 1, 0] rfl) hf
def f_X7_path_c11 : Nat → ModS → Int32 → Int32 → Int32 → Option (Int32)
  | 0, _, _, _, _ => none
  | n + 1, T, v2, v3, v4 =>
    if (T.2.1 (0 : Int32).toNatClampNeg) ≤ v4 then
      some v2
    else
      if v3 ≤ v4 then
        (f_X7_first T v4).bind fun q4 =>
        if v3 < q4 then
          f_X7_path_c11 n T (v2 + 0) v3 (v4 + 1)
        else
          f_X7_path_c11 n T (v2 + 1) v3 (v4 + 1)
      else
        (f_X7_last T v4).bind fun q7 =>
        if q7 < (v3 - 1) then
          f_X7_path_c11 n T (v2 + 0) v3 (v4 + 1)
        else
          f_X7_path_c11 n T (v2 + 1) v3 (v4 + 1)
def f_X7_path (T : ModS) (p1 : Int32) : Option (Int32) :=
    (f_X7_below T p1).bind fun q10 =>
    f_X7_path_c11 200 T 0 q10 0
set_option maxHeartbeats 4000000 in
set_option maxRecDepth 100000 in
theorem c_X7_path (l : Launch) (g : pq_g) (a : Nat → Nat) (T : ModS) (p1 : Int32) (r : Int32) (hf : f_X7_path T p1 = some r) : pq_R l yX7_path cX7_path 5 .int 4 g (modW g a T) [.ref (a 0), .int p1] r := by
  rw [f_X7_path] at hf
  refine pq_R.of (own := RX7) (by decide) rfl (Nat.le_of_ble_eq_true rfl) rfl ?_
  intro p e s m below meth c ls Q S hP hK hl hend
  obtain ⟨hx, hb, hml, hown, hts⟩ := id S
  have B11 : ∀ (n11 : Nat) (v2 : Int32) (v3 : Int32) (v4 : Int32) (ls : Array Slot), lv_has ls 5 [(0, .ref (a 0)), (2, .int v2), (3, .int v3), (4, .int v4)] → f_X7_path_c11 n11 T v2 v3 v4 = some r → W p l e (pq_rm 4 0 0) s m ([.ref (a 0), .int p1] : List Value).toArray below meth c s.heap [] 0 0 Q (F0 m 11 ls []) := by
    intro n11
    induction n11 with
    | zero =>
      intro v2 v3 v4 ls hl hf
      exact absurd hf (by simp [f_X7_path_c11])
    | succ n11 ih11 =>
      intro v2 v3 v4 ls hl hf
      rw [f_X7_path_c11] at hf
      refine lv_iload hx hb dX7_path_11 (lv_at hl 3 rfl) ?_
      refine lv_aload_n hx hb dX7_path_13 rfl (lv_at hl 0 rfl) ?_
      refine pq_get S hK hP inX7 0 rfl rfl 1 (by decide) fl_X7_9 rfl (v := .ref (a 1)) rfl dX7_path_14 ?_
      refine lv_iconst (v := 0) hx hb dX7_path_17 (by decide) ?_
      refine va_iald hx hb hK.1 hP 1 0 rfl rfl (show ¬ ((0 : Int32) < 0 ∨ 770 ≤ (0 : Int32).toNatClampNeg) by decide) dX7_path_18 ?_
      refine lv_icmp_ge (tgt := 72) hx hb dX7_path_19 (by decide) (fun h1 => ?_) (fun h1 => ?_)
      · replace hf := pq_ifp h1 hf
        refine lv_iload_n hx hb dX7_path_72 rfl (lv_at hl 1 rfl) ?_
        exact hend _ _ _ dX7_path_73 rfl hf
      · replace hf := pq_ifn h1 hf
        refine lv_iload_n hx hb dX7_path_22 rfl (lv_at hl 1 rfl) ?_
        refine lv_iload hx hb dX7_path_23 (lv_at hl 3 rfl) ?_
        refine lv_iload_n hx hb dX7_path_25 rfl (lv_at hl 2 rfl) ?_
        refine lv_icmp_ge (tgt := 49) hx hb dX7_path_26 (by decide) (fun h2 => ?_) (fun h2 => ?_)
        · replace hf := pq_ifp h2 hf
          refine lv_aload_n hx hb dX7_path_49 rfl (lv_at hl 0 rfl) ?_
          refine lv_iload hx hb dX7_path_50 (lv_at hl 3 rfl) ?_
          obtain ⟨q4, e3, hf⟩ := pq_bind hf
          refine pq_cV S (c_X7_first l g a T v4 q4 e3) vv_X7_71 hK hP rfl rfl rfl rfl rfl hl.1 (Nat.le_of_ble_eq_true rfl) dX7_path_52 (by decide) (by decide) ⟨Nat.le_refl _, Nat.le_refl _⟩ ?_
          refine lv_iload_n hx hb dX7_path_55 rfl (lv_at hl 2 rfl) ?_
          refine lv_icmp_gt (tgt := 63) hx hb dX7_path_56 (by decide) (fun h5 => ?_) (fun h5 => ?_)
          · replace hf := pq_ifp h5 hf
            refine lv_iconst (v := 0) hx hb dX7_path_63 (by decide) ?_
            refine lv_iadd hx hb dX7_path_64 ?_
            refine lv_istore_n (lv' := [(2, .int (v2 + 0)), (0, .ref (a 0)), (3, .int v3), (4, .int v4)]) hx hb dX7_path_65 rfl hl (by decide) rfl (fun ls hl => ?_)
            refine lv_iinc (v := (v4 + 1)) (lv' := [(4, .int (v4 + 1)), (2, .int (v2 + 0)), (0, .ref (a 0)), (3, .int v3)]) hx hb dX7_path_66 hl (k := 3) rfl rfl (by decide) rfl (fun ls hl => ?_)
            refine lv_goto (tgt := 11) hx hb dX7_path_69 (by decide) ?_
            exact ih11 (v2 + 0) v3 (v4 + 1) ls (lv_sub hl [2, 1, 3, 0] rfl) hf
          · replace hf := pq_ifn h5 hf
            refine lv_iconst (v := 1) hx hb dX7_path_59 (by decide) ?_
            refine lv_goto (tgt := 64) hx hb dX7_path_60 (by decide) ?_
            refine lv_iadd hx hb dX7_path_64 ?_
            refine lv_istore_n (lv' := [(2, .int (v2 + 1)), (0, .ref (a 0)), (3, .int v3), (4, .int v4)]) hx hb dX7_path_65 rfl hl (by decide) rfl (fun ls hl => ?_)
            refine lv_iinc (v := (v4 + 1)) (lv' := [(4, .int (v4 + 1)), (2, .int (v2 + 1)), (0, .ref (a 0)), (3, .int v3)]) hx hb dX7_path_66 hl (k := 3) rfl rfl (by decide) rfl (fun ls hl => ?_)
            refine lv_goto (tgt := 11) hx hb dX7_path_69 (by decide) ?_
            exact ih11 (v2 + 1) v3 (v4 + 1) ls (lv_sub hl [2, 1, 3, 0] rfl) hf
        · replace hf := pq_ifn h2 hf
          refine lv_aload_n hx hb dX7_path_29 rfl (lv_at hl 0 rfl) ?_
          refine lv_iload hx hb dX7_path_30 (lv_at hl 3 rfl) ?_
          obtain ⟨q7, e6, hf⟩ := pq_bind hf
          refine pq_cV S (c_X7_last l g a T v4 q7 e6) vv_X7_74 hK hP rfl rfl rfl rfl rfl hl.1 (Nat.le_of_ble_eq_true rfl) dX7_path_32 (by decide) (by decide) ⟨Nat.le_refl _, Nat.le_refl _⟩ ?_
          refine lv_iload_n hx hb dX7_path_35 rfl (lv_at hl 2 rfl) ?_
          refine lv_iconst (v := 1) hx hb dX7_path_36 (by decide) ?_
          refine lv_isub hx hb dX7_path_37 ?_
          refine lv_icmp_lt (tgt := 45) hx hb dX7_path_38 (by decide) (fun h8 => ?_) (fun h8 => ?_)
          · replace hf := pq_ifp h8 hf
            refine lv_iconst (v := 0) hx hb dX7_path_45 (by decide) ?_
            refine lv_goto (tgt := 64) hx hb dX7_path_46 (by decide) ?_
            refine lv_iadd hx hb dX7_path_64 ?_
            refine lv_istore_n (lv' := [(2, .int (v2 + 0)), (0, .ref (a 0)), (3, .int v3), (4, .int v4)]) hx hb dX7_path_65 rfl hl (by decide) rfl (fun ls hl => ?_)
            refine lv_iinc (v := (v4 + 1)) (lv' := [(4, .int (v4 + 1)), (2, .int (v2 + 0)), (0, .ref (a 0)), (3, .int v3)]) hx hb dX7_path_66 hl (k := 3) rfl rfl (by decide) rfl (fun ls hl => ?_)
            refine lv_goto (tgt := 11) hx hb dX7_path_69 (by decide) ?_
            exact ih11 (v2 + 0) v3 (v4 + 1) ls (lv_sub hl [2, 1, 3, 0] rfl) hf
          · replace hf := pq_ifn h8 hf
            refine lv_iconst (v := 1) hx hb dX7_path_41 (by decide) ?_
            refine lv_goto (tgt := 64) hx hb dX7_path_42 (by decide) ?_
            refine lv_iadd hx hb dX7_path_64 ?_
            refine lv_istore_n (lv' := [(2, .int (v2 + 1)), (0, .ref (a 0)), (3, .int v3), (4, .int v4)]) hx hb dX7_path_65 rfl hl (by decide) rfl (fun ls hl => ?_)
            refine lv_iinc (v := (v4 + 1)) (lv' := [(4, .int (v4 + 1)), (2, .int (v2 + 1)), (0, .ref (a 0)), (3, .int v3)]) hx hb dX7_path_66 hl (k := 3) rfl rfl (by decide) rfl (fun ls hl => ?_)
            refine lv_goto (tgt := 11) hx hb dX7_path_69 (by decide) ?_
            exact ih11 (v2 + 1) v3 (v4 + 1) ls (lv_sub hl [2, 1, 3, 0] rfl) hf
  refine lv_iconst (v := 0) hx hb dX7_path_0 (by decide) ?_
  refine lv_istore_n (lv' := [(2, .int 0), (0, .ref (a 0)), (1, .int p1)]) hx hb dX7_path_1 rfl hl (by decide) rfl (fun ls hl => ?_)
  refine lv_aload_n hx hb dX7_path_2 rfl (lv_at hl 1 rfl) ?_
  refine lv_iload_n hx hb dX7_path_3 rfl (lv_at hl 2 rfl) ?_
  obtain ⟨q10, e9, hf⟩ := pq_bind hf
  refine pq_cV S (c_X7_below l g a T p1 q10 e9) vv_X7_61 hK hP rfl rfl rfl rfl rfl hl.1 (Nat.le_of_ble_eq_true rfl) dX7_path_4 (by decide) (by decide) ⟨Nat.le_refl _, Nat.le_refl _⟩ ?_
  refine lv_istore_n (lv' := [(3, .int q10), (2, .int 0), (0, .ref (a 0)), (1, .int p1)]) hx hb dX7_path_7 rfl hl (by decide) rfl (fun ls hl => ?_)
  refine lv_iconst (v := 0) hx hb dX7_path_8 (by decide) ?_
  refine lv_istore (lv' := [(4, .int 0), (3, .int q10), (2, .int 0), (0, .ref (a 0)), (1, .int p1)]) hx hb dX7_path_9 hl (by decide) rfl (fun ls hl => ?_)
  exact B11 200 0 q10 0 ls (lv_sub hl [3, 2, 1, 0] rfl) hf
def f_X7_opens_c18 : Nat → ModS → Int32 → Int32 → Int32 → Int32 → Option (ModS)
  | 0, _, _, _, _, _ => none
  | n + 1, T, v1, v2, v3, v4 =>
    if v4 < (2 * v3) then
      if ((2 + (2 * v3)) < 0 ∨ 770 ≤ (2 + (2 * v3)).toNatClampNeg) then none
      else
        if (((2 + (2 * v3)) + 1) < 0 ∨ 770 ≤ ((2 + (2 * v3)) + 1).toNatClampNeg) then none
        else
          some (T.1, (upd (upd (upd T.2.1 (2 + (2 * v3)).toNatClampNeg v1) ((2 + (2 * v3)) + 1).toNatClampNeg v2) (0 : Int32).toNatClampNeg (((upd (upd T.2.1 (2 + (2 * v3)).toNatClampNeg v1) ((2 + (2 * v3)) + 1).toNatClampNeg v2) (0 : Int32).toNatClampNeg) + 1)), T.2.2.1, T.2.2.2.1, T.2.2.2.2.1, T.2.2.2.2.2.1, T.2.2.2.2.2.2.1, T.2.2.2.2.2.2.2.1, T.2.2.2.2.2.2.2.2.1, T.2.2.2.2.2.2.2.2.2.1, T.2.2.2.2.2.2.2.2.2.2.1, T.2.2.2.2.2.2.2.2.2.2.2.1, T.2.2.2.2.2.2.2.2.2.2.2.2.1, T.2.2.2.2.2.2.2.2.2.2.2.2.2.1, T.2.2.2.2.2.2.2.2.2.2.2.2.2.2.1, T.2.2.2.2.2.2.2.2.2.2.2.2.2.2.2.1, T.2.2.2.2.2.2.2.2.2.2.2.2.2.2.2.2)
    else
      if ((2 + v4) < 0 ∨ 770 ≤ (2 + v4).toNatClampNeg) then none
      else
        if (((2 + v4) + 2) < 0 ∨ 770 ≤ ((2 + v4) + 2).toNatClampNeg) then none
        else
          f_X7_opens_c18 n (T.1, (upd T.2.1 ((2 + v4) + 2).toNatClampNeg (T.2.1 (2 + v4).toNatClampNeg)), T.2.2.1, T.2.2.2.1, T.2.2.2.2.1, T.2.2.2.2.2.1, T.2.2.2.2.2.2.1, T.2.2.2.2.2.2.2.1, T.2.2.2.2.2.2.2.2.1, T.2.2.2.2.2.2.2.2.2.1, T.2.2.2.2.2.2.2.2.2.2.1, T.2.2.2.2.2.2.2.2.2.2.2.1, T.2.2.2.2.2.2.2.2.2.2.2.2.1, T.2.2.2.2.2.2.2.2.2.2.2.2.2.1, T.2.2.2.2.2.2.2.2.2.2.2.2.2.2.1, T.2.2.2.2.2.2.2.2.2.2.2.2.2.2.2.1, T.2.2.2.2.2.2.2.2.2.2.2.2.2.2.2.2) v1 v2 v3 (v4 + (-1))
def f_X7_opens (T : ModS) (p1 : Int32) (p2 : Int32) : Option (ModS) :=
    (f_X7_below T p1).bind fun q7 =>
    f_X7_opens_c18 200 T p1 p2 q7 ((2 * (T.2.1 (0 : Int32).toNatClampNeg)) - 1)
set_option maxHeartbeats 4000000 in
set_option maxRecDepth 100000 in
theorem c_X7_opens (l : Launch) (g : pq_g) (a : Nat → Nat) (T : ModS) (p1 : Int32) (p2 : Int32) (T1 : ModS) (hf : f_X7_opens T p1 p2 = some T1) : pq_Mv l yX7_opens cX7_opens 5 3 g (modW g a T) [.ref (a 0), .int p1, .int p2] (modW g a T1) := by
  rw [f_X7_opens] at hf
  refine pq_Mv.of (own := RX7) (by decide) rfl (Nat.le_of_ble_eq_true rfl) rfl ?_
  intro p e s m below meth c ls Q A S hP hK hD hS hA hl hend
  obtain ⟨hx, hb, hml, hown, hts⟩ := id S
  have B18 : ∀ (n18 : Nat) (T : ModS) (v1 : Int32) (v2 : Int32) (v3 : Int32) (v4 : Int32) (ls : Array Slot) (H : Heap) (locs : List Loc), va_P g.1 pq_cl (modW g a T) H → va_D A (modW g a T) → va_S A s.heap H locs → lv_has ls 5 [(0, .ref (a 0)), (1, .int v1), (2, .int v2), (3, .int v3), (4, .int v4)] → f_X7_opens_c18 n18 T v1 v2 v3 v4 = some T1 → W p l e (pq_rm 3 0 0) s m ([.ref (a 0), .int p1, .int p2] : List Value).toArray below meth c H locs 0 0 Q (F0 m 18 ls []) := by
    intro n18
    induction n18 with
    | zero =>
      intro T v1 v2 v3 v4 ls H locs hP hD hS hl hf
      exact absurd hf (by simp [f_X7_opens_c18])
    | succ n18 ih18 =>
      intro T v1 v2 v3 v4 ls H locs hP hD hS hl hf
      rw [f_X7_opens_c18] at hf
      refine lv_iload hx hb dX7_opens_18 (lv_at hl 4 rfl) ?_
      refine lv_iconst (v := 2) hx hb dX7_opens_20 (by decide) ?_
      refine lv_iload_n hx hb dX7_opens_21 rfl (lv_at hl 3 rfl) ?_
      refine lv_imul hx hb dX7_opens_22 ?_
      refine lv_icmp_lt (tgt := 52) hx hb dX7_opens_23 (by decide) (fun h1 => ?_) (fun h1 => ?_)
      · replace hf := pq_ifp h1 hf
        refine lv_aload_n hx hb dX7_opens_52 rfl (lv_at hl 0 rfl) ?_
        refine pq_get S hK hP inX7 0 rfl rfl 1 (by decide) fl_X7_9 rfl (v := .ref (a 1)) rfl dX7_opens_53 ?_
        refine lv_iconst (v := 2) hx hb dX7_opens_56 (by decide) ?_
        refine lv_iconst (v := 2) hx hb dX7_opens_57 (by decide) ?_
        refine lv_iload_n hx hb dX7_opens_58 rfl (lv_at hl 3 rfl) ?_
        refine lv_imul hx hb dX7_opens_59 ?_
        refine lv_iadd hx hb dX7_opens_60 ?_
        refine lv_iload_n hx hb dX7_opens_61 rfl (lv_at hl 1 rfl) ?_
        by_cases h2 : ((2 + (2 * v3)) < 0 ∨ 770 ≤ (2 + (2 * v3)).toNatClampNeg)
        · exact absurd (pq_ifp h2 hf) (fun h9 => by cases h9)
        replace hf := pq_ifn h2 hf
        refine va_iast hx hb hK.1 hP hD hS 1 0 rfl rfl h2 dX7_opens_62 (fun H locs hP _ hS => ?_)
        replace hP : va_P g.1 pq_cl (modW g a (T.1, (upd T.2.1 (2 + (2 * v3)).toNatClampNeg v1), T.2.2.1, T.2.2.2.1, T.2.2.2.2.1, T.2.2.2.2.2.1, T.2.2.2.2.2.2.1, T.2.2.2.2.2.2.2.1, T.2.2.2.2.2.2.2.2.1, T.2.2.2.2.2.2.2.2.2.1, T.2.2.2.2.2.2.2.2.2.2.1, T.2.2.2.2.2.2.2.2.2.2.2.1, T.2.2.2.2.2.2.2.2.2.2.2.2.1, T.2.2.2.2.2.2.2.2.2.2.2.2.2.1, T.2.2.2.2.2.2.2.2.2.2.2.2.2.2.1, T.2.2.2.2.2.2.2.2.2.2.2.2.2.2.2.1, T.2.2.2.2.2.2.2.2.2.2.2.2.2.2.2.2)) H := hP
        replace hD : va_D A (modW g a (T.1, (upd T.2.1 (2 + (2 * v3)).toNatClampNeg v1), T.2.2.1, T.2.2.2.1, T.2.2.2.2.1, T.2.2.2.2.2.1, T.2.2.2.2.2.2.1, T.2.2.2.2.2.2.2.1, T.2.2.2.2.2.2.2.2.1, T.2.2.2.2.2.2.2.2.2.1, T.2.2.2.2.2.2.2.2.2.2.1, T.2.2.2.2.2.2.2.2.2.2.2.1, T.2.2.2.2.2.2.2.2.2.2.2.2.1, T.2.2.2.2.2.2.2.2.2.2.2.2.2.1, T.2.2.2.2.2.2.2.2.2.2.2.2.2.2.1, T.2.2.2.2.2.2.2.2.2.2.2.2.2.2.2.1, T.2.2.2.2.2.2.2.2.2.2.2.2.2.2.2.2)) := pq_adr hD (ad_X7 _ _)
        refine lv_aload_n hx hb dX7_opens_63 rfl (lv_at hl 0 rfl) ?_
        refine pq_get S hK hP inX7 0 rfl rfl 1 (by decide) fl_X7_9 rfl (v := .ref (a 1)) rfl dX7_opens_64 ?_
        refine lv_iconst (v := 2) hx hb dX7_opens_67 (by decide) ?_
        refine lv_iconst (v := 2) hx hb dX7_opens_68 (by decide) ?_
        refine lv_iload_n hx hb dX7_opens_69 rfl (lv_at hl 3 rfl) ?_
        refine lv_imul hx hb dX7_opens_70 ?_
        refine lv_iadd hx hb dX7_opens_71 ?_
        refine lv_iconst (v := 1) hx hb dX7_opens_72 (by decide) ?_
        refine lv_iadd hx hb dX7_opens_73 ?_
        refine lv_iload_n hx hb dX7_opens_74 rfl (lv_at hl 2 rfl) ?_
        by_cases h3 : (((2 + (2 * v3)) + 1) < 0 ∨ 770 ≤ ((2 + (2 * v3)) + 1).toNatClampNeg)
        · exact absurd (pq_ifp h3 hf) (fun h9 => by cases h9)
        replace hf := pq_ifn h3 hf
        refine va_iast hx hb hK.1 hP hD hS 1 0 rfl rfl h3 dX7_opens_75 (fun H locs hP _ hS => ?_)
        replace hP : va_P g.1 pq_cl (modW g a (T.1, (upd (upd T.2.1 (2 + (2 * v3)).toNatClampNeg v1) ((2 + (2 * v3)) + 1).toNatClampNeg v2), T.2.2.1, T.2.2.2.1, T.2.2.2.2.1, T.2.2.2.2.2.1, T.2.2.2.2.2.2.1, T.2.2.2.2.2.2.2.1, T.2.2.2.2.2.2.2.2.1, T.2.2.2.2.2.2.2.2.2.1, T.2.2.2.2.2.2.2.2.2.2.1, T.2.2.2.2.2.2.2.2.2.2.2.1, T.2.2.2.2.2.2.2.2.2.2.2.2.1, T.2.2.2.2.2.2.2.2.2.2.2.2.2.1, T.2.2.2.2.2.2.2.2.2.2.2.2.2.2.1, T.2.2.2.2.2.2.2.2.2.2.2.2.2.2.2.1, T.2.2.2.2.2.2.2.2.2.2.2.2.2.2.2.2)) H := hP
        replace hD : va_D A (modW g a (T.1, (upd (upd T.2.1 (2 + (2 * v3)).toNatClampNeg v1) ((2 + (2 * v3)) + 1).toNatClampNeg v2), T.2.2.1, T.2.2.2.1, T.2.2.2.2.1, T.2.2.2.2.2.1, T.2.2.2.2.2.2.1, T.2.2.2.2.2.2.2.1, T.2.2.2.2.2.2.2.2.1, T.2.2.2.2.2.2.2.2.2.1, T.2.2.2.2.2.2.2.2.2.2.1, T.2.2.2.2.2.2.2.2.2.2.2.1, T.2.2.2.2.2.2.2.2.2.2.2.2.1, T.2.2.2.2.2.2.2.2.2.2.2.2.2.1, T.2.2.2.2.2.2.2.2.2.2.2.2.2.2.1, T.2.2.2.2.2.2.2.2.2.2.2.2.2.2.2.1, T.2.2.2.2.2.2.2.2.2.2.2.2.2.2.2.2)) := pq_adr hD (ad_X7 _ _)
        refine lv_aload_n hx hb dX7_opens_76 rfl (lv_at hl 0 rfl) ?_
        refine pq_get S hK hP inX7 0 rfl rfl 1 (by decide) fl_X7_9 rfl (v := .ref (a 1)) rfl dX7_opens_77 ?_
        refine lv_iconst (v := 0) hx hb dX7_opens_80 (by decide) ?_
        refine lv_dup2_11 hx hb dX7_opens_81 rfl rfl ?_
        refine va_iald hx hb hK.1 hP 1 0 rfl rfl (show ¬ ((0 : Int32) < 0 ∨ 770 ≤ (0 : Int32).toNatClampNeg) by decide) dX7_opens_82 ?_
        refine lv_iconst (v := 1) hx hb dX7_opens_83 (by decide) ?_
        refine lv_iadd hx hb dX7_opens_84 ?_
        refine va_iast hx hb hK.1 hP hD hS 1 0 rfl rfl (show ¬ ((0 : Int32) < 0 ∨ 770 ≤ (0 : Int32).toNatClampNeg) by decide) dX7_opens_85 (fun H locs hP _ hS => ?_)
        replace hP : va_P g.1 pq_cl (modW g a (T.1, (upd (upd (upd T.2.1 (2 + (2 * v3)).toNatClampNeg v1) ((2 + (2 * v3)) + 1).toNatClampNeg v2) (0 : Int32).toNatClampNeg (((upd (upd T.2.1 (2 + (2 * v3)).toNatClampNeg v1) ((2 + (2 * v3)) + 1).toNatClampNeg v2) (0 : Int32).toNatClampNeg) + 1)), T.2.2.1, T.2.2.2.1, T.2.2.2.2.1, T.2.2.2.2.2.1, T.2.2.2.2.2.2.1, T.2.2.2.2.2.2.2.1, T.2.2.2.2.2.2.2.2.1, T.2.2.2.2.2.2.2.2.2.1, T.2.2.2.2.2.2.2.2.2.2.1, T.2.2.2.2.2.2.2.2.2.2.2.1, T.2.2.2.2.2.2.2.2.2.2.2.2.1, T.2.2.2.2.2.2.2.2.2.2.2.2.2.1, T.2.2.2.2.2.2.2.2.2.2.2.2.2.2.1, T.2.2.2.2.2.2.2.2.2.2.2.2.2.2.2.1, T.2.2.2.2.2.2.2.2.2.2.2.2.2.2.2.2)) H := hP
        replace hD : va_D A (modW g a (T.1, (upd (upd (upd T.2.1 (2 + (2 * v3)).toNatClampNeg v1) ((2 + (2 * v3)) + 1).toNatClampNeg v2) (0 : Int32).toNatClampNeg (((upd (upd T.2.1 (2 + (2 * v3)).toNatClampNeg v1) ((2 + (2 * v3)) + 1).toNatClampNeg v2) (0 : Int32).toNatClampNeg) + 1)), T.2.2.1, T.2.2.2.1, T.2.2.2.2.1, T.2.2.2.2.2.1, T.2.2.2.2.2.2.1, T.2.2.2.2.2.2.2.1, T.2.2.2.2.2.2.2.2.1, T.2.2.2.2.2.2.2.2.2.1, T.2.2.2.2.2.2.2.2.2.2.1, T.2.2.2.2.2.2.2.2.2.2.2.1, T.2.2.2.2.2.2.2.2.2.2.2.2.1, T.2.2.2.2.2.2.2.2.2.2.2.2.2.1, T.2.2.2.2.2.2.2.2.2.2.2.2.2.2.1, T.2.2.2.2.2.2.2.2.2.2.2.2.2.2.2.1, T.2.2.2.2.2.2.2.2.2.2.2.2.2.2.2.2)) := pq_adr hD (ad_X7 _ _)
        exact hend _ _ _ _ dX7_opens_86 (by rw [← Option.some.inj hf]; exact hP) hS
      · replace hf := pq_ifn h1 hf
        refine lv_aload_n hx hb dX7_opens_26 rfl (lv_at hl 0 rfl) ?_
        refine pq_get S hK hP inX7 0 rfl rfl 1 (by decide) fl_X7_9 rfl (v := .ref (a 1)) rfl dX7_opens_27 ?_
        refine lv_iconst (v := 2) hx hb dX7_opens_30 (by decide) ?_
        refine lv_iload hx hb dX7_opens_31 (lv_at hl 4 rfl) ?_
        refine lv_iadd hx hb dX7_opens_33 ?_
        refine lv_iconst (v := 2) hx hb dX7_opens_34 (by decide) ?_
        refine lv_iadd hx hb dX7_opens_35 ?_
        refine lv_aload_n hx hb dX7_opens_36 rfl (lv_at hl 0 rfl) ?_
        refine pq_get S hK hP inX7 0 rfl rfl 1 (by decide) fl_X7_9 rfl (v := .ref (a 1)) rfl dX7_opens_37 ?_
        refine lv_iconst (v := 2) hx hb dX7_opens_40 (by decide) ?_
        refine lv_iload hx hb dX7_opens_41 (lv_at hl 4 rfl) ?_
        refine lv_iadd hx hb dX7_opens_43 ?_
        by_cases h4 : ((2 + v4) < 0 ∨ 770 ≤ (2 + v4).toNatClampNeg)
        · exact absurd (pq_ifp h4 hf) (fun h9 => by cases h9)
        replace hf := pq_ifn h4 hf
        refine va_iald hx hb hK.1 hP 1 0 rfl rfl h4 dX7_opens_44 ?_
        by_cases h5 : (((2 + v4) + 2) < 0 ∨ 770 ≤ ((2 + v4) + 2).toNatClampNeg)
        · exact absurd (pq_ifp h5 hf) (fun h9 => by cases h9)
        replace hf := pq_ifn h5 hf
        refine va_iast hx hb hK.1 hP hD hS 1 0 rfl rfl h5 dX7_opens_45 (fun H locs hP _ hS => ?_)
        replace hP : va_P g.1 pq_cl (modW g a (T.1, (upd T.2.1 ((2 + v4) + 2).toNatClampNeg (T.2.1 (2 + v4).toNatClampNeg)), T.2.2.1, T.2.2.2.1, T.2.2.2.2.1, T.2.2.2.2.2.1, T.2.2.2.2.2.2.1, T.2.2.2.2.2.2.2.1, T.2.2.2.2.2.2.2.2.1, T.2.2.2.2.2.2.2.2.2.1, T.2.2.2.2.2.2.2.2.2.2.1, T.2.2.2.2.2.2.2.2.2.2.2.1, T.2.2.2.2.2.2.2.2.2.2.2.2.1, T.2.2.2.2.2.2.2.2.2.2.2.2.2.1, T.2.2.2.2.2.2.2.2.2.2.2.2.2.2.1, T.2.2.2.2.2.2.2.2.2.2.2.2.2.2.2.1, T.2.2.2.2.2.2.2.2.2.2.2.2.2.2.2.2)) H := hP
        replace hD : va_D A (modW g a (T.1, (upd T.2.1 ((2 + v4) + 2).toNatClampNeg (T.2.1 (2 + v4).toNatClampNeg)), T.2.2.1, T.2.2.2.1, T.2.2.2.2.1, T.2.2.2.2.2.1, T.2.2.2.2.2.2.1, T.2.2.2.2.2.2.2.1, T.2.2.2.2.2.2.2.2.1, T.2.2.2.2.2.2.2.2.2.1, T.2.2.2.2.2.2.2.2.2.2.1, T.2.2.2.2.2.2.2.2.2.2.2.1, T.2.2.2.2.2.2.2.2.2.2.2.2.1, T.2.2.2.2.2.2.2.2.2.2.2.2.2.1, T.2.2.2.2.2.2.2.2.2.2.2.2.2.2.1, T.2.2.2.2.2.2.2.2.2.2.2.2.2.2.2.1, T.2.2.2.2.2.2.2.2.2.2.2.2.2.2.2.2)) := pq_adr hD (ad_X7 _ _)
        refine lv_iinc (v := (v4 + (-1))) (lv' := [(4, .int (v4 + (-1))), (0, .ref (a 0)), (1, .int v1), (2, .int v2), (3, .int v3)]) hx hb dX7_opens_46 hl (k := 4) rfl rfl (by decide) rfl (fun ls hl => ?_)
        refine lv_goto (tgt := 18) hx hb dX7_opens_49 (by decide) ?_
        exact ih18 (T.1, (upd T.2.1 ((2 + v4) + 2).toNatClampNeg (T.2.1 (2 + v4).toNatClampNeg)), T.2.2.1, T.2.2.2.1, T.2.2.2.2.1, T.2.2.2.2.2.1, T.2.2.2.2.2.2.1, T.2.2.2.2.2.2.2.1, T.2.2.2.2.2.2.2.2.1, T.2.2.2.2.2.2.2.2.2.1, T.2.2.2.2.2.2.2.2.2.2.1, T.2.2.2.2.2.2.2.2.2.2.2.1, T.2.2.2.2.2.2.2.2.2.2.2.2.1, T.2.2.2.2.2.2.2.2.2.2.2.2.2.1, T.2.2.2.2.2.2.2.2.2.2.2.2.2.2.1, T.2.2.2.2.2.2.2.2.2.2.2.2.2.2.2.1, T.2.2.2.2.2.2.2.2.2.2.2.2.2.2.2.2) v1 v2 v3 (v4 + (-1)) ls _ _ hP hD hS (lv_sub hl [1, 2, 3, 4, 0] rfl) hf
  refine lv_aload_n hx hb dX7_opens_0 rfl (lv_at hl 0 rfl) ?_
  refine lv_iload_n hx hb dX7_opens_1 rfl (lv_at hl 1 rfl) ?_
  obtain ⟨q7, e6, hf⟩ := pq_bind hf
  refine pq_cV S (c_X7_below l g a T p1 q7 e6) vv_X7_61 hK hP rfl rfl rfl rfl rfl hl.1 (Nat.le_of_ble_eq_true rfl) dX7_opens_2 (by decide) (by decide) ⟨Nat.le_refl _, Nat.le_refl _⟩ ?_
  refine lv_istore_n (lv' := [(3, .int q7), (0, .ref (a 0)), (1, .int p1), (2, .int p2)]) hx hb dX7_opens_5 rfl hl (by decide) rfl (fun ls hl => ?_)
  refine lv_iconst (v := 2) hx hb dX7_opens_6 (by decide) ?_
  refine lv_aload_n hx hb dX7_opens_7 rfl (lv_at hl 1 rfl) ?_
  refine pq_get S hK hP inX7 0 rfl rfl 1 (by decide) fl_X7_9 rfl (v := .ref (a 1)) rfl dX7_opens_8 ?_
  refine lv_iconst (v := 0) hx hb dX7_opens_11 (by decide) ?_
  refine va_iald hx hb hK.1 hP 1 0 rfl rfl (show ¬ ((0 : Int32) < 0 ∨ 770 ≤ (0 : Int32).toNatClampNeg) by decide) dX7_opens_12 ?_
  refine lv_imul hx hb dX7_opens_13 ?_
  refine lv_iconst (v := 1) hx hb dX7_opens_14 (by decide) ?_
  refine lv_isub hx hb dX7_opens_15 ?_
  refine lv_istore (lv' := [(4, .int ((2 * (T.2.1 (0 : Int32).toNatClampNeg)) - 1)), (3, .int q7), (0, .ref (a 0)), (1, .int p1), (2, .int p2)]) hx hb dX7_opens_16 hl (by decide) rfl (fun ls hl => ?_)
  exact B18 200 T p1 p2 q7 ((2 * (T.2.1 (0 : Int32).toNatClampNeg)) - 1) ls _ _ hP hD hS (lv_sub hl [2, 3, 4, 1, 0] rfl) hf
def f_X7_shuts_c13 : Nat → ModS → Int32 → Int32 → Option (ModS)
  | 0, _, _, _ => none
  | n + 1, T, v2, v3 =>
    if (2 * v2) ≤ v3 then
      if ((2 + (2 * v2)) < 0 ∨ 770 ≤ (2 + (2 * v2)).toNatClampNeg) then none
      else
        if (((2 + (2 * v2)) + 1) < 0 ∨ 770 ≤ ((2 + (2 * v2)) + 1).toNatClampNeg) then none
        else
          some (T.1, (upd (upd (upd T.2.1 (2 + (2 * v2)).toNatClampNeg 0) ((2 + (2 * v2)) + 1).toNatClampNeg 0) (0 : Int32).toNatClampNeg v2), T.2.2.1, T.2.2.2.1, T.2.2.2.2.1, T.2.2.2.2.2.1, T.2.2.2.2.2.2.1, T.2.2.2.2.2.2.2.1, T.2.2.2.2.2.2.2.2.1, T.2.2.2.2.2.2.2.2.2.1, T.2.2.2.2.2.2.2.2.2.2.1, T.2.2.2.2.2.2.2.2.2.2.2.1, T.2.2.2.2.2.2.2.2.2.2.2.2.1, T.2.2.2.2.2.2.2.2.2.2.2.2.2.1, T.2.2.2.2.2.2.2.2.2.2.2.2.2.2.1, T.2.2.2.2.2.2.2.2.2.2.2.2.2.2.2.1, T.2.2.2.2.2.2.2.2.2.2.2.2.2.2.2.2)
    else
      if (((2 + v3) + 2) < 0 ∨ 770 ≤ ((2 + v3) + 2).toNatClampNeg) then none
      else
        if ((2 + v3) < 0 ∨ 770 ≤ (2 + v3).toNatClampNeg) then none
        else
          f_X7_shuts_c13 n (T.1, (upd T.2.1 (2 + v3).toNatClampNeg (T.2.1 ((2 + v3) + 2).toNatClampNeg)), T.2.2.1, T.2.2.2.1, T.2.2.2.2.1, T.2.2.2.2.2.1, T.2.2.2.2.2.2.1, T.2.2.2.2.2.2.2.1, T.2.2.2.2.2.2.2.2.1, T.2.2.2.2.2.2.2.2.2.1, T.2.2.2.2.2.2.2.2.2.2.1, T.2.2.2.2.2.2.2.2.2.2.2.1, T.2.2.2.2.2.2.2.2.2.2.2.2.1, T.2.2.2.2.2.2.2.2.2.2.2.2.2.1, T.2.2.2.2.2.2.2.2.2.2.2.2.2.2.1, T.2.2.2.2.2.2.2.2.2.2.2.2.2.2.2.1, T.2.2.2.2.2.2.2.2.2.2.2.2.2.2.2.2) v2 (v3 + 1)
def f_X7_shuts (T : ModS) (p1 : Int32) : Option (ModS) :=
    f_X7_shuts_c13 200 T ((T.2.1 (0 : Int32).toNatClampNeg) - 1) (2 * p1)
set_option maxHeartbeats 4000000 in
set_option maxRecDepth 100000 in
theorem c_X7_shuts (l : Launch) (g : pq_g) (a : Nat → Nat) (T : ModS) (p1 : Int32) (T1 : ModS) (hf : f_X7_shuts T p1 = some T1) : pq_Mv l yX7_shuts cX7_shuts 4 1 g (modW g a T) [.ref (a 0), .int p1] (modW g a T1) := by
  rw [f_X7_shuts] at hf
  refine pq_Mv.of (own := RX7) (by decide) rfl (Nat.le_of_ble_eq_true rfl) rfl ?_
  intro p e s m below meth c ls Q A S hP hK hD hS hA hl hend
  obtain ⟨hx, hb, hml, hown, hts⟩ := id S
  have B13 : ∀ (n13 : Nat) (T : ModS) (v2 : Int32) (v3 : Int32) (ls : Array Slot) (H : Heap) (locs : List Loc), va_P g.1 pq_cl (modW g a T) H → va_D A (modW g a T) → va_S A s.heap H locs → lv_has ls 4 [(0, .ref (a 0)), (2, .int v2), (3, .int v3)] → f_X7_shuts_c13 n13 T v2 v3 = some T1 → W p l e (pq_rm 1 0 0) s m ([.ref (a 0), .int p1] : List Value).toArray below meth c H locs 0 0 Q (F0 m 13 ls []) := by
    intro n13
    induction n13 with
    | zero =>
      intro T v2 v3 ls H locs hP hD hS hl hf
      exact absurd hf (by simp [f_X7_shuts_c13])
    | succ n13 ih13 =>
      intro T v2 v3 ls H locs hP hD hS hl hf
      rw [f_X7_shuts_c13] at hf
      refine lv_iload_n hx hb dX7_shuts_13 rfl (lv_at hl 2 rfl) ?_
      refine lv_iconst (v := 2) hx hb dX7_shuts_14 (by decide) ?_
      refine lv_iload_n hx hb dX7_shuts_15 rfl (lv_at hl 1 rfl) ?_
      refine lv_imul hx hb dX7_shuts_16 ?_
      refine lv_icmp_ge (tgt := 44) hx hb dX7_shuts_17 (by decide) (fun h1 => ?_) (fun h1 => ?_)
      · replace hf := pq_ifp h1 hf
        refine lv_aload_n hx hb dX7_shuts_44 rfl (lv_at hl 0 rfl) ?_
        refine pq_get S hK hP inX7 0 rfl rfl 1 (by decide) fl_X7_9 rfl (v := .ref (a 1)) rfl dX7_shuts_45 ?_
        refine lv_iconst (v := 2) hx hb dX7_shuts_48 (by decide) ?_
        refine lv_iconst (v := 2) hx hb dX7_shuts_49 (by decide) ?_
        refine lv_iload_n hx hb dX7_shuts_50 rfl (lv_at hl 1 rfl) ?_
        refine lv_imul hx hb dX7_shuts_51 ?_
        refine lv_iadd hx hb dX7_shuts_52 ?_
        refine lv_iconst (v := 0) hx hb dX7_shuts_53 (by decide) ?_
        by_cases h2 : ((2 + (2 * v2)) < 0 ∨ 770 ≤ (2 + (2 * v2)).toNatClampNeg)
        · exact absurd (pq_ifp h2 hf) (fun h9 => by cases h9)
        replace hf := pq_ifn h2 hf
        refine va_iast hx hb hK.1 hP hD hS 1 0 rfl rfl h2 dX7_shuts_54 (fun H locs hP _ hS => ?_)
        replace hP : va_P g.1 pq_cl (modW g a (T.1, (upd T.2.1 (2 + (2 * v2)).toNatClampNeg 0), T.2.2.1, T.2.2.2.1, T.2.2.2.2.1, T.2.2.2.2.2.1, T.2.2.2.2.2.2.1, T.2.2.2.2.2.2.2.1, T.2.2.2.2.2.2.2.2.1, T.2.2.2.2.2.2.2.2.2.1, T.2.2.2.2.2.2.2.2.2.2.1, T.2.2.2.2.2.2.2.2.2.2.2.1, T.2.2.2.2.2.2.2.2.2.2.2.2.1, T.2.2.2.2.2.2.2.2.2.2.2.2.2.1, T.2.2.2.2.2.2.2.2.2.2.2.2.2.2.1, T.2.2.2.2.2.2.2.2.2.2.2.2.2.2.2.1, T.2.2.2.2.2.2.2.2.2.2.2.2.2.2.2.2)) H := hP
        replace hD : va_D A (modW g a (T.1, (upd T.2.1 (2 + (2 * v2)).toNatClampNeg 0), T.2.2.1, T.2.2.2.1, T.2.2.2.2.1, T.2.2.2.2.2.1, T.2.2.2.2.2.2.1, T.2.2.2.2.2.2.2.1, T.2.2.2.2.2.2.2.2.1, T.2.2.2.2.2.2.2.2.2.1, T.2.2.2.2.2.2.2.2.2.2.1, T.2.2.2.2.2.2.2.2.2.2.2.1, T.2.2.2.2.2.2.2.2.2.2.2.2.1, T.2.2.2.2.2.2.2.2.2.2.2.2.2.1, T.2.2.2.2.2.2.2.2.2.2.2.2.2.2.1, T.2.2.2.2.2.2.2.2.2.2.2.2.2.2.2.1, T.2.2.2.2.2.2.2.2.2.2.2.2.2.2.2.2)) := pq_adr hD (ad_X7 _ _)
        refine lv_aload_n hx hb dX7_shuts_55 rfl (lv_at hl 0 rfl) ?_
        refine pq_get S hK hP inX7 0 rfl rfl 1 (by decide) fl_X7_9 rfl (v := .ref (a 1)) rfl dX7_shuts_56 ?_
        refine lv_iconst (v := 2) hx hb dX7_shuts_59 (by decide) ?_
        refine lv_iconst (v := 2) hx hb dX7_shuts_60 (by decide) ?_
        refine lv_iload_n hx hb dX7_shuts_61 rfl (lv_at hl 1 rfl) ?_
        refine lv_imul hx hb dX7_shuts_62 ?_
        refine lv_iadd hx hb dX7_shuts_63 ?_
        refine lv_iconst (v := 1) hx hb dX7_shuts_64 (by decide) ?_
        refine lv_iadd hx hb dX7_shuts_65 ?_
        refine lv_iconst (v := 0) hx hb dX7_shuts_66 (by decide) ?_
        by_cases h3 : (((2 + (2 * v2)) + 1) < 0 ∨ 770 ≤ ((2 + (2 * v2)) + 1).toNatClampNeg)
        · exact absurd (pq_ifp h3 hf) (fun h9 => by cases h9)
        replace hf := pq_ifn h3 hf
        refine va_iast hx hb hK.1 hP hD hS 1 0 rfl rfl h3 dX7_shuts_67 (fun H locs hP _ hS => ?_)
        replace hP : va_P g.1 pq_cl (modW g a (T.1, (upd (upd T.2.1 (2 + (2 * v2)).toNatClampNeg 0) ((2 + (2 * v2)) + 1).toNatClampNeg 0), T.2.2.1, T.2.2.2.1, T.2.2.2.2.1, T.2.2.2.2.2.1, T.2.2.2.2.2.2.1, T.2.2.2.2.2.2.2.1, T.2.2.2.2.2.2.2.2.1, T.2.2.2.2.2.2.2.2.2.1, T.2.2.2.2.2.2.2.2.2.2.1, T.2.2.2.2.2.2.2.2.2.2.2.1, T.2.2.2.2.2.2.2.2.2.2.2.2.1, T.2.2.2.2.2.2.2.2.2.2.2.2.2.1, T.2.2.2.2.2.2.2.2.2.2.2.2.2.2.1, T.2.2.2.2.2.2.2.2.2.2.2.2.2.2.2.1, T.2.2.2.2.2.2.2.2.2.2.2.2.2.2.2.2)) H := hP
        replace hD : va_D A (modW g a (T.1, (upd (upd T.2.1 (2 + (2 * v2)).toNatClampNeg 0) ((2 + (2 * v2)) + 1).toNatClampNeg 0), T.2.2.1, T.2.2.2.1, T.2.2.2.2.1, T.2.2.2.2.2.1, T.2.2.2.2.2.2.1, T.2.2.2.2.2.2.2.1, T.2.2.2.2.2.2.2.2.1, T.2.2.2.2.2.2.2.2.2.1, T.2.2.2.2.2.2.2.2.2.2.1, T.2.2.2.2.2.2.2.2.2.2.2.1, T.2.2.2.2.2.2.2.2.2.2.2.2.1, T.2.2.2.2.2.2.2.2.2.2.2.2.2.1, T.2.2.2.2.2.2.2.2.2.2.2.2.2.2.1, T.2.2.2.2.2.2.2.2.2.2.2.2.2.2.2.1, T.2.2.2.2.2.2.2.2.2.2.2.2.2.2.2.2)) := pq_adr hD (ad_X7 _ _)
        refine lv_aload_n hx hb dX7_shuts_68 rfl (lv_at hl 0 rfl) ?_
        refine pq_get S hK hP inX7 0 rfl rfl 1 (by decide) fl_X7_9 rfl (v := .ref (a 1)) rfl dX7_shuts_69 ?_
        refine lv_iconst (v := 0) hx hb dX7_shuts_72 (by decide) ?_
        refine lv_iload_n hx hb dX7_shuts_73 rfl (lv_at hl 1 rfl) ?_
        refine va_iast hx hb hK.1 hP hD hS 1 0 rfl rfl (show ¬ ((0 : Int32) < 0 ∨ 770 ≤ (0 : Int32).toNatClampNeg) by decide) dX7_shuts_74 (fun H locs hP _ hS => ?_)
        replace hP : va_P g.1 pq_cl (modW g a (T.1, (upd (upd (upd T.2.1 (2 + (2 * v2)).toNatClampNeg 0) ((2 + (2 * v2)) + 1).toNatClampNeg 0) (0 : Int32).toNatClampNeg v2), T.2.2.1, T.2.2.2.1, T.2.2.2.2.1, T.2.2.2.2.2.1, T.2.2.2.2.2.2.1, T.2.2.2.2.2.2.2.1, T.2.2.2.2.2.2.2.2.1, T.2.2.2.2.2.2.2.2.2.1, T.2.2.2.2.2.2.2.2.2.2.1, T.2.2.2.2.2.2.2.2.2.2.2.1, T.2.2.2.2.2.2.2.2.2.2.2.2.1, T.2.2.2.2.2.2.2.2.2.2.2.2.2.1, T.2.2.2.2.2.2.2.2.2.2.2.2.2.2.1, T.2.2.2.2.2.2.2.2.2.2.2.2.2.2.2.1, T.2.2.2.2.2.2.2.2.2.2.2.2.2.2.2.2)) H := hP
        replace hD : va_D A (modW g a (T.1, (upd (upd (upd T.2.1 (2 + (2 * v2)).toNatClampNeg 0) ((2 + (2 * v2)) + 1).toNatClampNeg 0) (0 : Int32).toNatClampNeg v2), T.2.2.1, T.2.2.2.1, T.2.2.2.2.1, T.2.2.2.2.2.1, T.2.2.2.2.2.2.1, T.2.2.2.2.2.2.2.1, T.2.2.2.2.2.2.2.2.1, T.2.2.2.2.2.2.2.2.2.1, T.2.2.2.2.2.2.2.2.2.2.1, T.2.2.2.2.2.2.2.2.2.2.2.1, T.2.2.2.2.2.2.2.2.2.2.2.2.1, T.2.2.2.2.2.2.2.2.2.2.2.2.2.1, T.2.2.2.2.2.2.2.2.2.2.2.2.2.2.1, T.2.2.2.2.2.2.2.2.2.2.2.2.2.2.2.1, T.2.2.2.2.2.2.2.2.2.2.2.2.2.2.2.2)) := pq_adr hD (ad_X7 _ _)
        exact hend _ _ _ _ dX7_shuts_75 (by rw [← Option.some.inj hf]; exact hP) hS
      · replace hf := pq_ifn h1 hf
        refine lv_aload_n hx hb dX7_shuts_20 rfl (lv_at hl 0 rfl) ?_
        refine pq_get S hK hP inX7 0 rfl rfl 1 (by decide) fl_X7_9 rfl (v := .ref (a 1)) rfl dX7_shuts_21 ?_
        refine lv_iconst (v := 2) hx hb dX7_shuts_24 (by decide) ?_
        refine lv_iload_n hx hb dX7_shuts_25 rfl (lv_at hl 2 rfl) ?_
        refine lv_iadd hx hb dX7_shuts_26 ?_
        refine lv_aload_n hx hb dX7_shuts_27 rfl (lv_at hl 0 rfl) ?_
        refine pq_get S hK hP inX7 0 rfl rfl 1 (by decide) fl_X7_9 rfl (v := .ref (a 1)) rfl dX7_shuts_28 ?_
        refine lv_iconst (v := 2) hx hb dX7_shuts_31 (by decide) ?_
        refine lv_iload_n hx hb dX7_shuts_32 rfl (lv_at hl 2 rfl) ?_
        refine lv_iadd hx hb dX7_shuts_33 ?_
        refine lv_iconst (v := 2) hx hb dX7_shuts_34 (by decide) ?_
        refine lv_iadd hx hb dX7_shuts_35 ?_
        by_cases h4 : (((2 + v3) + 2) < 0 ∨ 770 ≤ ((2 + v3) + 2).toNatClampNeg)
        · exact absurd (pq_ifp h4 hf) (fun h9 => by cases h9)
        replace hf := pq_ifn h4 hf
        refine va_iald hx hb hK.1 hP 1 0 rfl rfl h4 dX7_shuts_36 ?_
        by_cases h5 : ((2 + v3) < 0 ∨ 770 ≤ (2 + v3).toNatClampNeg)
        · exact absurd (pq_ifp h5 hf) (fun h9 => by cases h9)
        replace hf := pq_ifn h5 hf
        refine va_iast hx hb hK.1 hP hD hS 1 0 rfl rfl h5 dX7_shuts_37 (fun H locs hP _ hS => ?_)
        replace hP : va_P g.1 pq_cl (modW g a (T.1, (upd T.2.1 (2 + v3).toNatClampNeg (T.2.1 ((2 + v3) + 2).toNatClampNeg)), T.2.2.1, T.2.2.2.1, T.2.2.2.2.1, T.2.2.2.2.2.1, T.2.2.2.2.2.2.1, T.2.2.2.2.2.2.2.1, T.2.2.2.2.2.2.2.2.1, T.2.2.2.2.2.2.2.2.2.1, T.2.2.2.2.2.2.2.2.2.2.1, T.2.2.2.2.2.2.2.2.2.2.2.1, T.2.2.2.2.2.2.2.2.2.2.2.2.1, T.2.2.2.2.2.2.2.2.2.2.2.2.2.1, T.2.2.2.2.2.2.2.2.2.2.2.2.2.2.1, T.2.2.2.2.2.2.2.2.2.2.2.2.2.2.2.1, T.2.2.2.2.2.2.2.2.2.2.2.2.2.2.2.2)) H := hP
        replace hD : va_D A (modW g a (T.1, (upd T.2.1 (2 + v3).toNatClampNeg (T.2.1 ((2 + v3) + 2).toNatClampNeg)), T.2.2.1, T.2.2.2.1, T.2.2.2.2.1, T.2.2.2.2.2.1, T.2.2.2.2.2.2.1, T.2.2.2.2.2.2.2.1, T.2.2.2.2.2.2.2.2.1, T.2.2.2.2.2.2.2.2.2.1, T.2.2.2.2.2.2.2.2.2.2.1, T.2.2.2.2.2.2.2.2.2.2.2.1, T.2.2.2.2.2.2.2.2.2.2.2.2.1, T.2.2.2.2.2.2.2.2.2.2.2.2.2.1, T.2.2.2.2.2.2.2.2.2.2.2.2.2.2.1, T.2.2.2.2.2.2.2.2.2.2.2.2.2.2.2.1, T.2.2.2.2.2.2.2.2.2.2.2.2.2.2.2.2)) := pq_adr hD (ad_X7 _ _)
        refine lv_iinc (v := (v3 + 1)) (lv' := [(3, .int (v3 + 1)), (0, .ref (a 0)), (2, .int v2)]) hx hb dX7_shuts_38 hl (k := 2) rfl rfl (by decide) rfl (fun ls hl => ?_)
        refine lv_goto (tgt := 13) hx hb dX7_shuts_41 (by decide) ?_
        exact ih13 (T.1, (upd T.2.1 (2 + v3).toNatClampNeg (T.2.1 ((2 + v3) + 2).toNatClampNeg)), T.2.2.1, T.2.2.2.1, T.2.2.2.2.1, T.2.2.2.2.2.1, T.2.2.2.2.2.2.1, T.2.2.2.2.2.2.2.1, T.2.2.2.2.2.2.2.2.1, T.2.2.2.2.2.2.2.2.2.1, T.2.2.2.2.2.2.2.2.2.2.1, T.2.2.2.2.2.2.2.2.2.2.2.1, T.2.2.2.2.2.2.2.2.2.2.2.2.1, T.2.2.2.2.2.2.2.2.2.2.2.2.2.1, T.2.2.2.2.2.2.2.2.2.2.2.2.2.2.1, T.2.2.2.2.2.2.2.2.2.2.2.2.2.2.2.1, T.2.2.2.2.2.2.2.2.2.2.2.2.2.2.2.2) v2 (v3 + 1) ls _ _ hP hD hS (lv_sub hl [1, 2, 0] rfl) hf
  refine lv_aload_n hx hb dX7_shuts_0 rfl (lv_at hl 0 rfl) ?_
  refine pq_get S hK hP inX7 0 rfl rfl 1 (by decide) fl_X7_9 rfl (v := .ref (a 1)) rfl dX7_shuts_1 ?_
  refine lv_iconst (v := 0) hx hb dX7_shuts_4 (by decide) ?_
  refine va_iald hx hb hK.1 hP 1 0 rfl rfl (show ¬ ((0 : Int32) < 0 ∨ 770 ≤ (0 : Int32).toNatClampNeg) by decide) dX7_shuts_5 ?_
  refine lv_iconst (v := 1) hx hb dX7_shuts_6 (by decide) ?_
  refine lv_isub hx hb dX7_shuts_7 ?_
  refine lv_istore_n (lv' := [(2, .int ((T.2.1 (0 : Int32).toNatClampNeg) - 1)), (0, .ref (a 0)), (1, .int p1)]) hx hb dX7_shuts_8 rfl hl (by decide) rfl (fun ls hl => ?_)
  refine lv_iconst (v := 2) hx hb dX7_shuts_9 (by decide) ?_
  refine lv_iload_n hx hb dX7_shuts_10 rfl (lv_at hl 2 rfl) ?_
  refine lv_imul hx hb dX7_shuts_11 ?_
  refine lv_istore_n (lv' := [(3, .int (2 * p1)), (2, .int ((T.2.1 (0 : Int32).toNatClampNeg) - 1)), (0, .ref (a 0)), (1, .int p1)]) hx hb dX7_shuts_12 rfl hl (by decide) rfl (fun ls hl => ?_)
  exact B13 200 T ((T.2.1 (0 : Int32).toNatClampNeg) - 1) (2 * p1) ls _ _ hP hD hS (lv_sub hl [2, 1, 0] rfl) hf
def f_X7_putsIn (T : ModS) (p1 : Int32) (p2 : Int32) : Option (Int32 × (ModS)) :=
    (f_X7_path T p1).bind fun q2 =>
    (f_X7_opens T p1 p2).bind fun q4 =>
    (f_X7_below q4 p1).bind fun q6 =>
    (f_X7_depth q4 q6).bind fun q8 =>
    some ((q2 - q8), q4)
set_option maxHeartbeats 4000000 in
set_option maxRecDepth 100000 in
theorem c_X7_putsIn (l : Launch) (g : pq_g) (a : Nat → Nat) (T : ModS) (p1 : Int32) (p2 : Int32) (r : Int32) (T1 : ModS) (hf : f_X7_putsIn T p1 p2 = some (r, T1)) : pq_Mi l yX7_putsIn cX7_putsIn 4 .int 5 g (modW g a T) [.ref (a 0), .int p1, .int p2] r (modW g a T1) := by
  rw [f_X7_putsIn] at hf
  refine pq_Mi.of (own := RX7) (by decide) rfl (Nat.le_of_ble_eq_true rfl) rfl ?_
  intro p e s m below meth c ls Q A S hP hK hD hS hA hl hend
  obtain ⟨hx, hb, hml, hown, hts⟩ := id S
  refine lv_aload_n hx hb dX7_putsIn_0 rfl (lv_at hl 0 rfl) ?_
  refine lv_iload_n hx hb dX7_putsIn_1 rfl (lv_at hl 1 rfl) ?_
  obtain ⟨q2, e1, hf⟩ := pq_bind hf
  refine pq_cV S (c_X7_path l g a T p1 q2 e1) vv_X7_77 hK hP rfl rfl rfl rfl rfl hl.1 (Nat.le_of_ble_eq_true rfl) dX7_putsIn_2 (by decide) (by decide) ⟨Nat.le_refl _, Nat.le_refl _⟩ ?_
  refine lv_istore_n (lv' := [(3, .int q2), (0, .ref (a 0)), (1, .int p1), (2, .int p2)]) hx hb dX7_putsIn_5 rfl hl (by decide) rfl (fun ls hl => ?_)
  refine lv_aload_n hx hb dX7_putsIn_6 rfl (lv_at hl 1 rfl) ?_
  refine lv_iload_n hx hb dX7_putsIn_7 rfl (lv_at hl 2 rfl) ?_
  refine lv_iload_n hx hb dX7_putsIn_8 rfl (lv_at hl 3 rfl) ?_
  obtain ⟨q4, e3, hf⟩ := pq_bind hf
  refine pq_cVv S (c_X7_opens l g a T p1 p2 q4 e3) vv_X7_80 hK hP hD hS hA rfl rfl rfl rfl rfl hl.1 (Nat.le_of_ble_eq_true rfl) dX7_putsIn_9 (by decide) (by decide) ⟨Nat.le_refl _, Nat.le_refl _⟩ (fun H9 locs hk hP1 hS => ?_)
  replace hP := hP1
  replace hP : va_P g.1 pq_cl (modW g a q4) H9 := hP
  replace hD : va_D A (modW g a q4) := pq_adr hD (ad_X7 _ _)
  clear hk
  generalize H9 = H at hP hS ⊢
  refine lv_iload_n hx hb dX7_putsIn_12 rfl (lv_at hl 0 rfl) ?_
  refine lv_aload_n hx hb dX7_putsIn_13 rfl (lv_at hl 1 rfl) ?_
  refine lv_aload_n hx hb dX7_putsIn_14 rfl (lv_at hl 1 rfl) ?_
  refine lv_iload_n hx hb dX7_putsIn_15 rfl (lv_at hl 2 rfl) ?_
  obtain ⟨q6, e5, hf⟩ := pq_bind hf
  refine pq_cV S (c_X7_below l g a q4 p1 q6 e5) vv_X7_61 hK hP rfl rfl rfl rfl rfl hl.1 (Nat.le_of_ble_eq_true rfl) dX7_putsIn_16 (by decide) (by decide) ⟨Nat.le_refl _, Nat.le_refl _⟩ ?_
  obtain ⟨q8, e7, hf⟩ := pq_bind hf
  refine pq_cV S (c_X7_depth l g a q4 q6 q8 e7) vv_X7_83 hK hP rfl rfl rfl rfl rfl hl.1 (Nat.le_of_ble_eq_true rfl) dX7_putsIn_19 (by decide) (by decide) ⟨Nat.le_refl _, Nat.le_refl _⟩ ?_
  refine lv_isub hx hb dX7_putsIn_22 ?_
  obtain ⟨h8, h9⟩ := pq_pair hf
  exact hend _ _ _ _ _ dX7_putsIn_23 rfl h8 (by rw [← h9]; exact hP) hS
def f_X7_takesOut (T : ModS) (p1 : Int32) : Option (Int32 × (ModS)) :=
    (f_X7_depth T p1).bind fun q2 =>
    (f_X7_key T p1).bind fun q4 =>
    (f_X7_shuts T p1).bind fun q6 =>
    (f_X7_path q6 q4).bind fun q8 =>
    some ((q8 - q2), q6)
set_option maxHeartbeats 4000000 in
set_option maxRecDepth 100000 in
theorem c_X7_takesOut (l : Launch) (g : pq_g) (a : Nat → Nat) (T : ModS) (p1 : Int32) (r : Int32) (T1 : ModS) (hf : f_X7_takesOut T p1 = some (r, T1)) : pq_Mi l yX7_takesOut cX7_takesOut 4 .int 5 g (modW g a T) [.ref (a 0), .int p1] r (modW g a T1) := by
  rw [f_X7_takesOut] at hf
  refine pq_Mi.of (own := RX7) (by decide) rfl (Nat.le_of_ble_eq_true rfl) rfl ?_
  intro p e s m below meth c ls Q A S hP hK hD hS hA hl hend
  obtain ⟨hx, hb, hml, hown, hts⟩ := id S
  refine lv_aload_n hx hb dX7_takesOut_0 rfl (lv_at hl 0 rfl) ?_
  refine lv_iload_n hx hb dX7_takesOut_1 rfl (lv_at hl 1 rfl) ?_
  obtain ⟨q2, e1, hf⟩ := pq_bind hf
  refine pq_cV S (c_X7_depth l g a T p1 q2 e1) vv_X7_83 hK hP rfl rfl rfl rfl rfl hl.1 (Nat.le_of_ble_eq_true rfl) dX7_takesOut_2 (by decide) (by decide) ⟨Nat.le_refl _, Nat.le_refl _⟩ ?_
  refine lv_istore_n (lv' := [(2, .int q2), (0, .ref (a 0)), (1, .int p1)]) hx hb dX7_takesOut_5 rfl hl (by decide) rfl (fun ls hl => ?_)
  refine lv_aload_n hx hb dX7_takesOut_6 rfl (lv_at hl 1 rfl) ?_
  refine lv_iload_n hx hb dX7_takesOut_7 rfl (lv_at hl 2 rfl) ?_
  obtain ⟨q4, e3, hf⟩ := pq_bind hf
  refine pq_cV S (c_X7_key l g a T p1 q4 e3) vv_X7_57 hK hP rfl rfl rfl rfl rfl hl.1 (Nat.le_of_ble_eq_true rfl) dX7_takesOut_8 (by decide) (by decide) ⟨Nat.le_refl _, Nat.le_refl _⟩ ?_
  refine lv_istore_n (lv' := [(3, .int q4), (2, .int q2), (0, .ref (a 0)), (1, .int p1)]) hx hb dX7_takesOut_11 rfl hl (by decide) rfl (fun ls hl => ?_)
  refine lv_aload_n hx hb dX7_takesOut_12 rfl (lv_at hl 2 rfl) ?_
  refine lv_iload_n hx hb dX7_takesOut_13 rfl (lv_at hl 3 rfl) ?_
  obtain ⟨q6, e5, hf⟩ := pq_bind hf
  refine pq_cVv S (c_X7_shuts l g a T p1 q6 e5) vv_X7_86 hK hP hD hS hA rfl rfl rfl rfl rfl hl.1 (Nat.le_of_ble_eq_true rfl) dX7_takesOut_14 (by decide) (by decide) ⟨Nat.le_refl _, Nat.le_refl _⟩ (fun H9 locs hk hP1 hS => ?_)
  replace hP := hP1
  replace hP : va_P g.1 pq_cl (modW g a q6) H9 := hP
  replace hD : va_D A (modW g a q6) := pq_adr hD (ad_X7 _ _)
  clear hk
  generalize H9 = H at hP hS ⊢
  refine lv_aload_n hx hb dX7_takesOut_17 rfl (lv_at hl 2 rfl) ?_
  refine lv_iload_n hx hb dX7_takesOut_18 rfl (lv_at hl 0 rfl) ?_
  obtain ⟨q8, e7, hf⟩ := pq_bind hf
  refine pq_cV S (c_X7_path l g a q6 q4 q8 e7) vv_X7_77 hK hP rfl rfl rfl rfl rfl hl.1 (Nat.le_of_ble_eq_true rfl) dX7_takesOut_19 (by decide) (by decide) ⟨Nat.le_refl _, Nat.le_refl _⟩ ?_
  refine lv_iload_n hx hb dX7_takesOut_22 rfl (lv_at hl 1 rfl) ?_
  refine lv_isub hx hb dX7_takesOut_23 ?_
  obtain ⟨h8, h9⟩ := pq_pair hf
  exact hend _ _ _ _ _ dX7_takesOut_24 rfl h8 (by rw [← h9]; exact hP) hS
def f_X7_w (T : ModS) (p1 : Int32) (p2 : Int32) : Option (Int32) :=
    if (((50 + (5 * p1)) + p2) < 0 ∨ 770 ≤ ((50 + (5 * p1)) + p2).toNatClampNeg) then none
    else
      some (T.2.1 ((50 + (5 * p1)) + p2).toNatClampNeg)
set_option maxHeartbeats 4000000 in
set_option maxRecDepth 100000 in
theorem c_X7_w (l : Launch) (g : pq_g) (a : Nat → Nat) (T : ModS) (p1 : Int32) (p2 : Int32) (r : Int32) (hf : f_X7_w T p1 p2 = some r) : pq_R l yX7_w cX7_w 3 .int 1 g (modW g a T) [.ref (a 0), .int p1, .int p2] r := by
  rw [f_X7_w] at hf
  refine pq_R.of (own := RX7) (by decide) rfl (Nat.le_of_ble_eq_true rfl) rfl ?_
  intro p e s m below meth c ls Q S hP hK hl hend
  obtain ⟨hx, hb, hml, hown, hts⟩ := id S
  refine lv_aload_n hx hb dX7_w_0 rfl (lv_at hl 0 rfl) ?_
  refine pq_get S hK hP inX7 0 rfl rfl 1 (by decide) fl_X7_9 rfl (v := .ref (a 1)) rfl dX7_w_1 ?_
  refine lv_bipush (v := 50) hx hb dX7_w_4 (by decide) ?_
  refine lv_iconst (v := 5) hx hb dX7_w_6 (by decide) ?_
  refine lv_iload_n hx hb dX7_w_7 rfl (lv_at hl 1 rfl) ?_
  refine lv_imul hx hb dX7_w_8 ?_
  refine lv_iadd hx hb dX7_w_9 ?_
  refine lv_iload_n hx hb dX7_w_10 rfl (lv_at hl 2 rfl) ?_
  refine lv_iadd hx hb dX7_w_11 ?_
  by_cases h1 : (((50 + (5 * p1)) + p2) < 0 ∨ 770 ≤ ((50 + (5 * p1)) + p2).toNatClampNeg)
  · exact absurd (pq_ifp h1 hf) (fun h9 => by cases h9)
  replace hf := pq_ifn h1 hf
  refine va_iald hx hb hK.1 hP 1 0 rfl rfl h1 dX7_w_12 ?_
  exact hend _ _ _ dX7_w_13 rfl hf
def f_X7_isWithin (T : ModS) (p1 : Int32) (p2 : Int32) (p3 : Int32) : Option (Int32) :=
    (f_X7_w T p1 0).bind fun q2 =>
    if q2 = 1 then
      (f_X7_w T p1 1).bind fun q5 =>
      (f_X7_w T p1 2).bind fun q7 =>
      (f_X7_in p2 q5 q7).bind fun q9 =>
      if q9 = 0 then
        some 0
      else
        (f_X7_w T p1 3).bind fun q12 =>
        if p3 < q12 then
          some 0
        else
          some 1
    else
      some 0
set_option maxHeartbeats 4000000 in
set_option maxRecDepth 100000 in
theorem c_X7_isWithin (l : Launch) (g : pq_g) (a : Nat → Nat) (T : ModS) (p1 : Int32) (p2 : Int32) (p3 : Int32) (r : Int32) (hf : f_X7_isWithin T p1 p2 p3 = some r) : pq_R l yX7_isWithin cX7_isWithin 4 .boolean 2 g (modW g a T) [.ref (a 0), .int p1, .int p2, .int p3] r := by
  rw [f_X7_isWithin] at hf
  refine pq_R.of (own := RX7) (by decide) rfl (Nat.le_of_ble_eq_true rfl) rfl ?_
  intro p e s m below meth c ls Q S hP hK hl hend
  obtain ⟨hx, hb, hml, hown, hts⟩ := id S
  refine lv_aload_n hx hb dX7_isWithin_0 rfl (lv_at hl 0 rfl) ?_
  refine lv_iload_n hx hb dX7_isWithin_1 rfl (lv_at hl 1 rfl) ?_
  refine lv_iconst (v := 0) hx hb dX7_isWithin_2 (by decide) ?_
  obtain ⟨q2, e1, hf⟩ := pq_bind hf
  refine pq_cV S (c_X7_w l g a T p1 0 q2 e1) vv_X7_90 hK hP rfl rfl rfl rfl rfl hl.1 (Nat.le_of_ble_eq_true rfl) dX7_isWithin_3 (by decide) (by decide) ⟨Nat.le_refl _, Nat.le_refl _⟩ ?_
  refine lv_iconst (v := 1) hx hb dX7_isWithin_6 (by decide) ?_
  refine lv_icmp_ne (tgt := 43) hx hb dX7_isWithin_7 (by decide) (fun h3 => ?_) (fun h3 => ?_)
  · replace hf := pq_ifn h3 hf
    refine lv_iconst (v := 0) hx hb dX7_isWithin_43 (by decide) ?_
    exact hend _ _ _ dX7_isWithin_44 rfl hf
  · replace hf := pq_ifp h3 hf
    refine lv_iload_n hx hb dX7_isWithin_10 rfl (lv_at hl 2 rfl) ?_
    refine lv_aload_n hx hb dX7_isWithin_11 rfl (lv_at hl 0 rfl) ?_
    refine lv_iload_n hx hb dX7_isWithin_12 rfl (lv_at hl 1 rfl) ?_
    refine lv_iconst (v := 1) hx hb dX7_isWithin_13 (by decide) ?_
    obtain ⟨q5, e4, hf⟩ := pq_bind hf
    refine pq_cV S (c_X7_w l g a T p1 1 q5 e4) vv_X7_90 hK hP rfl rfl rfl rfl rfl hl.1 (Nat.le_of_ble_eq_true rfl) dX7_isWithin_14 (by decide) (by decide) ⟨Nat.le_refl _, Nat.le_refl _⟩ ?_
    refine lv_aload_n hx hb dX7_isWithin_17 rfl (lv_at hl 0 rfl) ?_
    refine lv_iload_n hx hb dX7_isWithin_18 rfl (lv_at hl 1 rfl) ?_
    refine lv_iconst (v := 2) hx hb dX7_isWithin_19 (by decide) ?_
    obtain ⟨q7, e6, hf⟩ := pq_bind hf
    refine pq_cV S (c_X7_w l g a T p1 2 q7 e6) vv_X7_90 hK hP rfl rfl rfl rfl rfl hl.1 (Nat.le_of_ble_eq_true rfl) dX7_isWithin_20 (by decide) (by decide) ⟨Nat.le_refl _, Nat.le_refl _⟩ ?_
    obtain ⟨q9, e8, hf⟩ := pq_bind hf
    refine pq_cS S (c_X7_in l g p2 q5 q7 q9 e8) vs_X7_30 hK (hP.sub [] rfl) rfl rfl hl.1 (Nat.le_of_ble_eq_true rfl) dX7_isWithin_23 (by decide) (by decide) ⟨Nat.le_refl _, Nat.le_refl _⟩ ?_
    refine lv_if_eq (tgt := 43) hx hb dX7_isWithin_26 (by decide) (fun h10 => ?_) (fun h10 => ?_)
    · replace hf := pq_ifp h10 hf
      refine lv_iconst (v := 0) hx hb dX7_isWithin_43 (by decide) ?_
      exact hend _ _ _ dX7_isWithin_44 rfl hf
    · replace hf := pq_ifn h10 hf
      refine lv_iload_n hx hb dX7_isWithin_29 rfl (lv_at hl 3 rfl) ?_
      refine lv_aload_n hx hb dX7_isWithin_30 rfl (lv_at hl 0 rfl) ?_
      refine lv_iload_n hx hb dX7_isWithin_31 rfl (lv_at hl 1 rfl) ?_
      refine lv_iconst (v := 3) hx hb dX7_isWithin_32 (by decide) ?_
      obtain ⟨q12, e11, hf⟩ := pq_bind hf
      refine pq_cV S (c_X7_w l g a T p1 3 q12 e11) vv_X7_90 hK hP rfl rfl rfl rfl rfl hl.1 (Nat.le_of_ble_eq_true rfl) dX7_isWithin_33 (by decide) (by decide) ⟨Nat.le_refl _, Nat.le_refl _⟩ ?_
      refine lv_icmp_lt (tgt := 43) hx hb dX7_isWithin_36 (by decide) (fun h13 => ?_) (fun h13 => ?_)
      · replace hf := pq_ifp h13 hf
        refine lv_iconst (v := 0) hx hb dX7_isWithin_43 (by decide) ?_
        exact hend _ _ _ dX7_isWithin_44 rfl hf
      · replace hf := pq_ifn h13 hf
        refine lv_iconst (v := 1) hx hb dX7_isWithin_39 (by decide) ?_
        refine lv_goto (tgt := 44) hx hb dX7_isWithin_40 (by decide) ?_
        exact hend _ _ _ dX7_isWithin_44 rfl hf
def f_X7_inWindow_c4 : Nat → ModS → Int32 → Int32 → Int32 → Option (Int32)
  | 0, _, _, _, _ => none
  | n + 1, T, v1, v2, v3 =>
    if (T.2.1 (0 : Int32).toNatClampNeg) ≤ v3 then
      some v2
    else
      (f_X7_key T v3).bind fun q3 =>
      (f_X7_priority T v3).bind fun q5 =>
      (f_X7_isWithin T v1 q3 q5).bind fun q7 =>
      if q7 = 0 then
        f_X7_inWindow_c4 n T v1 (v2 + 0) (v3 + 1)
      else
        f_X7_inWindow_c4 n T v1 (v2 + 1) (v3 + 1)
def f_X7_inWindow (T : ModS) (p1 : Int32) : Option (Int32) :=
    f_X7_inWindow_c4 200 T p1 0 0
set_option maxHeartbeats 4000000 in
set_option maxRecDepth 100000 in
theorem c_X7_inWindow (l : Launch) (g : pq_g) (a : Nat → Nat) (T : ModS) (p1 : Int32) (r : Int32) (hf : f_X7_inWindow T p1 = some r) : pq_R l yX7_inWindow cX7_inWindow 4 .int 3 g (modW g a T) [.ref (a 0), .int p1] r := by
  rw [f_X7_inWindow] at hf
  refine pq_R.of (own := RX7) (by decide) rfl (Nat.le_of_ble_eq_true rfl) rfl ?_
  intro p e s m below meth c ls Q S hP hK hl hend
  obtain ⟨hx, hb, hml, hown, hts⟩ := id S
  have B4 : ∀ (n4 : Nat) (v1 : Int32) (v2 : Int32) (v3 : Int32) (ls : Array Slot), lv_has ls 4 [(0, .ref (a 0)), (1, .int v1), (2, .int v2), (3, .int v3)] → f_X7_inWindow_c4 n4 T v1 v2 v3 = some r → W p l e (pq_rm 3 0 0) s m ([.ref (a 0), .int p1] : List Value).toArray below meth c s.heap [] 0 0 Q (F0 m 4 ls []) := by
    intro n4
    induction n4 with
    | zero =>
      intro v1 v2 v3 ls hl hf
      exact absurd hf (by simp [f_X7_inWindow_c4])
    | succ n4 ih4 =>
      intro v1 v2 v3 ls hl hf
      rw [f_X7_inWindow_c4] at hf
      refine lv_iload_n hx hb dX7_inWindow_4 rfl (lv_at hl 3 rfl) ?_
      refine lv_aload_n hx hb dX7_inWindow_5 rfl (lv_at hl 0 rfl) ?_
      refine pq_get S hK hP inX7 0 rfl rfl 1 (by decide) fl_X7_9 rfl (v := .ref (a 1)) rfl dX7_inWindow_6 ?_
      refine lv_iconst (v := 0) hx hb dX7_inWindow_9 (by decide) ?_
      refine va_iald hx hb hK.1 hP 1 0 rfl rfl (show ¬ ((0 : Int32) < 0 ∨ 770 ≤ (0 : Int32).toNatClampNeg) by decide) dX7_inWindow_10 ?_
      refine lv_icmp_ge (tgt := 46) hx hb dX7_inWindow_11 (by decide) (fun h1 => ?_) (fun h1 => ?_)
      · replace hf := pq_ifp h1 hf
        refine lv_iload_n hx hb dX7_inWindow_46 rfl (lv_at hl 2 rfl) ?_
        exact hend _ _ _ dX7_inWindow_47 rfl hf
      · replace hf := pq_ifn h1 hf
        refine lv_iload_n hx hb dX7_inWindow_14 rfl (lv_at hl 2 rfl) ?_
        refine lv_aload_n hx hb dX7_inWindow_15 rfl (lv_at hl 0 rfl) ?_
        refine lv_iload_n hx hb dX7_inWindow_16 rfl (lv_at hl 1 rfl) ?_
        refine lv_aload_n hx hb dX7_inWindow_17 rfl (lv_at hl 0 rfl) ?_
        refine lv_iload_n hx hb dX7_inWindow_18 rfl (lv_at hl 3 rfl) ?_
        obtain ⟨q3, e2, hf⟩ := pq_bind hf
        refine pq_cV S (c_X7_key l g a T v3 q3 e2) vv_X7_57 hK hP rfl rfl rfl rfl rfl hl.1 (Nat.le_of_ble_eq_true rfl) dX7_inWindow_19 (by decide) (by decide) ⟨Nat.le_refl _, Nat.le_refl _⟩ ?_
        refine lv_aload_n hx hb dX7_inWindow_22 rfl (lv_at hl 0 rfl) ?_
        refine lv_iload_n hx hb dX7_inWindow_23 rfl (lv_at hl 3 rfl) ?_
        obtain ⟨q5, e4, hf⟩ := pq_bind hf
        refine pq_cV S (c_X7_priority l g a T v3 q5 e4) vv_X7_64 hK hP rfl rfl rfl rfl rfl hl.1 (Nat.le_of_ble_eq_true rfl) dX7_inWindow_24 (by decide) (by decide) ⟨Nat.le_refl _, Nat.le_refl _⟩ ?_
        obtain ⟨q7, e6, hf⟩ := pq_bind hf
        refine pq_cV S (c_X7_isWithin l g a T v1 q3 q5 q7 e6) vv_X7_94 hK hP rfl rfl rfl rfl rfl hl.1 (Nat.le_of_ble_eq_true rfl) dX7_inWindow_27 (by decide) (by decide) ⟨Nat.le_refl _, Nat.le_refl _⟩ ?_
        refine lv_if_eq (tgt := 37) hx hb dX7_inWindow_30 (by decide) (fun h8 => ?_) (fun h8 => ?_)
        · replace hf := pq_ifp h8 hf
          refine lv_iconst (v := 0) hx hb dX7_inWindow_37 (by decide) ?_
          refine lv_iadd hx hb dX7_inWindow_38 ?_
          refine lv_istore_n (lv' := [(2, .int (v2 + 0)), (0, .ref (a 0)), (1, .int v1), (3, .int v3)]) hx hb dX7_inWindow_39 rfl hl (by decide) rfl (fun ls hl => ?_)
          refine lv_iinc (v := (v3 + 1)) (lv' := [(3, .int (v3 + 1)), (2, .int (v2 + 0)), (0, .ref (a 0)), (1, .int v1)]) hx hb dX7_inWindow_40 hl (k := 3) rfl rfl (by decide) rfl (fun ls hl => ?_)
          refine lv_goto (tgt := 4) hx hb dX7_inWindow_43 (by decide) ?_
          exact ih4 v1 (v2 + 0) (v3 + 1) ls (lv_sub hl [2, 3, 1, 0] rfl) hf
        · replace hf := pq_ifn h8 hf
          refine lv_iconst (v := 1) hx hb dX7_inWindow_33 (by decide) ?_
          refine lv_goto (tgt := 38) hx hb dX7_inWindow_34 (by decide) ?_
          refine lv_iadd hx hb dX7_inWindow_38 ?_
          refine lv_istore_n (lv' := [(2, .int (v2 + 1)), (0, .ref (a 0)), (1, .int v1), (3, .int v3)]) hx hb dX7_inWindow_39 rfl hl (by decide) rfl (fun ls hl => ?_)
          refine lv_iinc (v := (v3 + 1)) (lv' := [(3, .int (v3 + 1)), (2, .int (v2 + 1)), (0, .ref (a 0)), (1, .int v1)]) hx hb dX7_inWindow_40 hl (k := 3) rfl rfl (by decide) rfl (fun ls hl => ?_)
          refine lv_goto (tgt := 4) hx hb dX7_inWindow_43 (by decide) ?_
          exact ih4 v1 (v2 + 1) (v3 + 1) ls (lv_sub hl [2, 3, 1, 0] rfl) hf
  refine lv_iconst (v := 0) hx hb dX7_inWindow_0 (by decide) ?_
  refine lv_istore_n (lv' := [(2, .int 0), (0, .ref (a 0)), (1, .int p1)]) hx hb dX7_inWindow_1 rfl hl (by decide) rfl (fun ls hl => ?_)
  refine lv_iconst (v := 0) hx hb dX7_inWindow_2 (by decide) ?_
  refine lv_istore_n (lv' := [(3, .int 0), (2, .int 0), (0, .ref (a 0)), (1, .int p1)]) hx hb dX7_inWindow_3 rfl hl (by decide) rfl (fun ls hl => ?_)
  exact B4 200 p1 0 0 ls (lv_sub hl [2, 3, 1, 0] rfl) hf
def f_X7_overfull_c2 : Nat → ModS → Int32 → Option (Int32)
  | 0, _, _ => none
  | n + 1, T, v1 =>
    if 4 ≤ v1 then
      some (-1)
    else
      (f_X7_w T v1 0).bind fun q3 =>
      if q3 = 1 then
        (f_X7_inWindow T v1).bind fun q6 =>
        (f_X7_w T v1 4).bind fun q8 =>
        if q6 ≤ q8 then
          f_X7_overfull_c2 n T (v1 + 1)
        else
          some v1
      else
        f_X7_overfull_c2 n T (v1 + 1)
def f_X7_overfull (T : ModS) : Option (Int32) :=
    f_X7_overfull_c2 200 T 0
set_option maxHeartbeats 4000000 in
set_option maxRecDepth 100000 in
theorem c_X7_overfull (l : Launch) (g : pq_g) (a : Nat → Nat) (T : ModS) (r : Int32) (hf : f_X7_overfull T = some r) : pq_R l yX7_overfull cX7_overfull 2 .int 4 g (modW g a T) [.ref (a 0)] r := by
  rw [f_X7_overfull] at hf
  refine pq_R.of (own := RX7) (by decide) rfl (Nat.le_of_ble_eq_true rfl) rfl ?_
  intro p e s m below meth c ls Q S hP hK hl hend
  obtain ⟨hx, hb, hml, hown, hts⟩ := id S
  have B2 : ∀ (n2 : Nat) (v1 : Int32) (ls : Array Slot), lv_has ls 2 [(0, .ref (a 0)), (1, .int v1)] → f_X7_overfull_c2 n2 T v1 = some r → W p l e (pq_rm 4 0 0) s m ([.ref (a 0)] : List Value).toArray below meth c s.heap [] 0 0 Q (F0 m 2 ls []) := by
    intro n2
    induction n2 with
    | zero =>
      intro v1 ls hl hf
      exact absurd hf (by simp [f_X7_overfull_c2])
    | succ n2 ih2 =>
      intro v1 ls hl hf
      rw [f_X7_overfull_c2] at hf
      refine lv_iload_n hx hb dX7_overfull_2 rfl (lv_at hl 1 rfl) ?_
      refine lv_iconst (v := 4) hx hb dX7_overfull_3 (by decide) ?_
      refine lv_icmp_ge (tgt := 39) hx hb dX7_overfull_4 (by decide) (fun h1 => ?_) (fun h1 => ?_)
      · replace hf := pq_ifp h1 hf
        refine lv_iconst (v := (-1)) hx hb dX7_overfull_39 (by decide) ?_
        exact hend _ _ _ dX7_overfull_40 rfl hf
      · replace hf := pq_ifn h1 hf
        refine lv_aload_n hx hb dX7_overfull_7 rfl (lv_at hl 0 rfl) ?_
        refine lv_iload_n hx hb dX7_overfull_8 rfl (lv_at hl 1 rfl) ?_
        refine lv_iconst (v := 0) hx hb dX7_overfull_9 (by decide) ?_
        obtain ⟨q3, e2, hf⟩ := pq_bind hf
        refine pq_cV S (c_X7_w l g a T v1 0 q3 e2) vv_X7_90 hK hP rfl rfl rfl rfl rfl hl.1 (Nat.le_of_ble_eq_true rfl) dX7_overfull_10 (by decide) (by decide) ⟨Nat.le_refl _, Nat.le_refl _⟩ ?_
        refine lv_iconst (v := 1) hx hb dX7_overfull_13 (by decide) ?_
        refine lv_icmp_ne (tgt := 33) hx hb dX7_overfull_14 (by decide) (fun h4 => ?_) (fun h4 => ?_)
        · replace hf := pq_ifn h4 hf
          refine lv_iinc (v := (v1 + 1)) (lv' := [(1, .int (v1 + 1)), (0, .ref (a 0))]) hx hb dX7_overfull_33 hl (k := 1) rfl rfl (by decide) rfl (fun ls hl => ?_)
          refine lv_goto (tgt := 2) hx hb dX7_overfull_36 (by decide) ?_
          exact ih2 (v1 + 1) ls (lv_sub hl [1, 0] rfl) hf
        · replace hf := pq_ifp h4 hf
          refine lv_aload_n hx hb dX7_overfull_17 rfl (lv_at hl 0 rfl) ?_
          refine lv_iload_n hx hb dX7_overfull_18 rfl (lv_at hl 1 rfl) ?_
          obtain ⟨q6, e5, hf⟩ := pq_bind hf
          refine pq_cV S (c_X7_inWindow l g a T v1 q6 e5) vv_X7_97 hK hP rfl rfl rfl rfl rfl hl.1 (Nat.le_of_ble_eq_true rfl) dX7_overfull_19 (by decide) (by decide) ⟨Nat.le_refl _, Nat.le_refl _⟩ ?_
          refine lv_aload_n hx hb dX7_overfull_22 rfl (lv_at hl 0 rfl) ?_
          refine lv_iload_n hx hb dX7_overfull_23 rfl (lv_at hl 1 rfl) ?_
          refine lv_iconst (v := 4) hx hb dX7_overfull_24 (by decide) ?_
          obtain ⟨q8, e7, hf⟩ := pq_bind hf
          refine pq_cV S (c_X7_w l g a T v1 4 q8 e7) vv_X7_90 hK hP rfl rfl rfl rfl rfl hl.1 (Nat.le_of_ble_eq_true rfl) dX7_overfull_25 (by decide) (by decide) ⟨Nat.le_refl _, Nat.le_refl _⟩ ?_
          refine lv_icmp_le (tgt := 33) hx hb dX7_overfull_28 (by decide) (fun h9 => ?_) (fun h9 => ?_)
          · replace hf := pq_ifp h9 hf
            refine lv_iinc (v := (v1 + 1)) (lv' := [(1, .int (v1 + 1)), (0, .ref (a 0))]) hx hb dX7_overfull_33 hl (k := 1) rfl rfl (by decide) rfl (fun ls hl => ?_)
            refine lv_goto (tgt := 2) hx hb dX7_overfull_36 (by decide) ?_
            exact ih2 (v1 + 1) ls (lv_sub hl [1, 0] rfl) hf
          · replace hf := pq_ifn h9 hf
            refine lv_iload_n hx hb dX7_overfull_31 rfl (lv_at hl 1 rfl) ?_
            exact hend _ _ _ dX7_overfull_32 rfl hf
  refine lv_iconst (v := 0) hx hb dX7_overfull_0 (by decide) ?_
  refine lv_istore_n (lv' := [(1, .int 0), (0, .ref (a 0))]) hx hb dX7_overfull_1 rfl hl (by decide) rfl (fun ls hl => ?_)
  exact B2 200 0 ls (lv_sub hl [1, 0] rfl) hf
def f_X7_counts (T : ModS) (p1 : Int32) : Option (Int32 × (ModS)) :=
    (f_X7_overfull (T.1, (upd T.2.1 (1 : Int32).toNatClampNeg ((T.2.1 (1 : Int32).toNatClampNeg) + p1)), T.2.2.1, T.2.2.2.1, p1, T.2.2.2.2.2.1, T.2.2.2.2.2.2.1, T.2.2.2.2.2.2.2.1, T.2.2.2.2.2.2.2.2.1, T.2.2.2.2.2.2.2.2.2.1, T.2.2.2.2.2.2.2.2.2.2.1, T.2.2.2.2.2.2.2.2.2.2.2.1, T.2.2.2.2.2.2.2.2.2.2.2.2.1, T.2.2.2.2.2.2.2.2.2.2.2.2.2.1, T.2.2.2.2.2.2.2.2.2.2.2.2.2.2.1, T.2.2.2.2.2.2.2.2.2.2.2.2.2.2.2.1, T.2.2.2.2.2.2.2.2.2.2.2.2.2.2.2.2)).bind fun q2 =>
    if q2 < 0 then
      (f_X7_overfull (T.1, (upd T.2.1 (1 : Int32).toNatClampNeg ((T.2.1 (1 : Int32).toNatClampNeg) + p1)), T.2.2.1, T.2.2.2.1, p1, T.2.2.2.2.2.1, T.2.2.2.2.2.2.1, T.2.2.2.2.2.2.2.1, T.2.2.2.2.2.2.2.2.1, T.2.2.2.2.2.2.2.2.2.1, T.2.2.2.2.2.2.2.2.2.2.1, T.2.2.2.2.2.2.2.2.2.2.2.1, T.2.2.2.2.2.2.2.2.2.2.2.2.1, T.2.2.2.2.2.2.2.2.2.2.2.2.2.1, T.2.2.2.2.2.2.2.2.2.2.2.2.2.2.1, T.2.2.2.2.2.2.2.2.2.2.2.2.2.2.2.1, T.2.2.2.2.2.2.2.2.2.2.2.2.2.2.2.2)).bind fun q5 =>
      (f_X7_rejects (T.1, (upd T.2.1 (1 : Int32).toNatClampNeg ((T.2.1 (1 : Int32).toNatClampNeg) + p1)), T.2.2.1, T.2.2.2.1, p1, T.2.2.2.2.2.1, T.2.2.2.2.2.2.1, T.2.2.2.2.2.2.2.1, T.2.2.2.2.2.2.2.2.1, T.2.2.2.2.2.2.2.2.2.1, T.2.2.2.2.2.2.2.2.2.2.1, T.2.2.2.2.2.2.2.2.2.2.2.1, T.2.2.2.2.2.2.2.2.2.2.2.2.1, T.2.2.2.2.2.2.2.2.2.2.2.2.2.1, T.2.2.2.2.2.2.2.2.2.2.2.2.2.2.1, T.2.2.2.2.2.2.2.2.2.2.2.2.2.2.2.1, T.2.2.2.2.2.2.2.2.2.2.2.2.2.2.2.2) 0 3 q5).bind fun q7 =>
      if q7.1 = 0 then
        some (0, q7.2)
      else
        some (3, q7.2)
    else
      (f_X7_overfull (T.1, (upd T.2.1 (1 : Int32).toNatClampNeg ((T.2.1 (1 : Int32).toNatClampNeg) + p1)), T.2.2.1, T.2.2.2.1, p1, T.2.2.2.2.2.1, T.2.2.2.2.2.2.1, T.2.2.2.2.2.2.2.1, T.2.2.2.2.2.2.2.2.1, T.2.2.2.2.2.2.2.2.2.1, T.2.2.2.2.2.2.2.2.2.2.1, T.2.2.2.2.2.2.2.2.2.2.2.1, T.2.2.2.2.2.2.2.2.2.2.2.2.1, T.2.2.2.2.2.2.2.2.2.2.2.2.2.1, T.2.2.2.2.2.2.2.2.2.2.2.2.2.2.1, T.2.2.2.2.2.2.2.2.2.2.2.2.2.2.2.1, T.2.2.2.2.2.2.2.2.2.2.2.2.2.2.2.2)).bind fun q10 =>
      (f_X7_rejects (T.1, (upd T.2.1 (1 : Int32).toNatClampNeg ((T.2.1 (1 : Int32).toNatClampNeg) + p1)), T.2.2.1, T.2.2.2.1, p1, T.2.2.2.2.2.1, T.2.2.2.2.2.2.1, T.2.2.2.2.2.2.2.1, T.2.2.2.2.2.2.2.2.1, T.2.2.2.2.2.2.2.2.2.1, T.2.2.2.2.2.2.2.2.2.2.1, T.2.2.2.2.2.2.2.2.2.2.2.1, T.2.2.2.2.2.2.2.2.2.2.2.2.1, T.2.2.2.2.2.2.2.2.2.2.2.2.2.1, T.2.2.2.2.2.2.2.2.2.2.2.2.2.2.1, T.2.2.2.2.2.2.2.2.2.2.2.2.2.2.2.1, T.2.2.2.2.2.2.2.2.2.2.2.2.2.2.2.2) 1 3 q10).bind fun q12 =>
      if q12.1 = 0 then
        some (0, q12.2)
      else
        some (3, q12.2)
set_option maxHeartbeats 4000000 in
set_option maxRecDepth 100000 in
theorem c_X7_counts (l : Launch) (g : pq_g) (a : Nat → Nat) (T : ModS) (p1 : Int32) (r : Int32) (T1 : ModS) (hf : f_X7_counts T p1 = some (r, T1)) : pq_Mi l yX7_counts cX7_counts 2 .int 5 g (modW g a T) [.ref (a 0), .int p1] r (modW g a T1) := by
  rw [f_X7_counts] at hf
  refine pq_Mi.of (own := RX7) (by decide) rfl (Nat.le_of_ble_eq_true rfl) rfl ?_
  intro p e s m below meth c ls Q A S hP hK hD hS hA hl hend
  obtain ⟨hx, hb, hml, hown, hts⟩ := id S
  refine lv_aload_n hx hb dX7_counts_0 rfl (lv_at hl 0 rfl) ?_
  refine lv_iload_n hx hb dX7_counts_1 rfl (lv_at hl 1 rfl) ?_
  refine pq_putf S hK hP hD hS inX7 tyX7_ok nmX7 0 rfl rfl 4 (by decide) fl_X7_41 rfl rfl (ty := .int) rfl rfl rfl (Nat.le_of_ble_eq_true rfl) dX7_counts_2 (fun H locs hP hS => ?_)
  replace hP : va_P g.1 pq_cl (modW g a (T.1, T.2.1, T.2.2.1, T.2.2.2.1, p1, T.2.2.2.2.2.1, T.2.2.2.2.2.2.1, T.2.2.2.2.2.2.2.1, T.2.2.2.2.2.2.2.2.1, T.2.2.2.2.2.2.2.2.2.1, T.2.2.2.2.2.2.2.2.2.2.1, T.2.2.2.2.2.2.2.2.2.2.2.1, T.2.2.2.2.2.2.2.2.2.2.2.2.1, T.2.2.2.2.2.2.2.2.2.2.2.2.2.1, T.2.2.2.2.2.2.2.2.2.2.2.2.2.2.1, T.2.2.2.2.2.2.2.2.2.2.2.2.2.2.2.1, T.2.2.2.2.2.2.2.2.2.2.2.2.2.2.2.2)) H := hP
  replace hD : va_D A (modW g a (T.1, T.2.1, T.2.2.1, T.2.2.2.1, p1, T.2.2.2.2.2.1, T.2.2.2.2.2.2.1, T.2.2.2.2.2.2.2.1, T.2.2.2.2.2.2.2.2.1, T.2.2.2.2.2.2.2.2.2.1, T.2.2.2.2.2.2.2.2.2.2.1, T.2.2.2.2.2.2.2.2.2.2.2.1, T.2.2.2.2.2.2.2.2.2.2.2.2.1, T.2.2.2.2.2.2.2.2.2.2.2.2.2.1, T.2.2.2.2.2.2.2.2.2.2.2.2.2.2.1, T.2.2.2.2.2.2.2.2.2.2.2.2.2.2.2.1, T.2.2.2.2.2.2.2.2.2.2.2.2.2.2.2.2)) := pq_adr hD (ad_X7 _ _)
  refine lv_aload_n hx hb dX7_counts_5 rfl (lv_at hl 0 rfl) ?_
  refine pq_get S hK hP inX7 0 rfl rfl 1 (by decide) fl_X7_9 rfl (v := .ref (a 1)) rfl dX7_counts_6 ?_
  refine lv_iconst (v := 1) hx hb dX7_counts_9 (by decide) ?_
  refine lv_dup2_11 hx hb dX7_counts_10 rfl rfl ?_
  refine va_iald hx hb hK.1 hP 1 0 rfl rfl (show ¬ ((1 : Int32) < 0 ∨ 770 ≤ (1 : Int32).toNatClampNeg) by decide) dX7_counts_11 ?_
  refine lv_iload_n hx hb dX7_counts_12 rfl (lv_at hl 1 rfl) ?_
  refine lv_iadd hx hb dX7_counts_13 ?_
  refine va_iast hx hb hK.1 hP hD hS 1 0 rfl rfl (show ¬ ((1 : Int32) < 0 ∨ 770 ≤ (1 : Int32).toNatClampNeg) by decide) dX7_counts_14 (fun H locs hP _ hS => ?_)
  replace hP : va_P g.1 pq_cl (modW g a (T.1, (upd T.2.1 (1 : Int32).toNatClampNeg ((T.2.1 (1 : Int32).toNatClampNeg) + p1)), T.2.2.1, T.2.2.2.1, p1, T.2.2.2.2.2.1, T.2.2.2.2.2.2.1, T.2.2.2.2.2.2.2.1, T.2.2.2.2.2.2.2.2.1, T.2.2.2.2.2.2.2.2.2.1, T.2.2.2.2.2.2.2.2.2.2.1, T.2.2.2.2.2.2.2.2.2.2.2.1, T.2.2.2.2.2.2.2.2.2.2.2.2.1, T.2.2.2.2.2.2.2.2.2.2.2.2.2.1, T.2.2.2.2.2.2.2.2.2.2.2.2.2.2.1, T.2.2.2.2.2.2.2.2.2.2.2.2.2.2.2.1, T.2.2.2.2.2.2.2.2.2.2.2.2.2.2.2.2)) H := hP
  replace hD : va_D A (modW g a (T.1, (upd T.2.1 (1 : Int32).toNatClampNeg ((T.2.1 (1 : Int32).toNatClampNeg) + p1)), T.2.2.1, T.2.2.2.1, p1, T.2.2.2.2.2.1, T.2.2.2.2.2.2.1, T.2.2.2.2.2.2.2.1, T.2.2.2.2.2.2.2.2.1, T.2.2.2.2.2.2.2.2.2.1, T.2.2.2.2.2.2.2.2.2.2.1, T.2.2.2.2.2.2.2.2.2.2.2.1, T.2.2.2.2.2.2.2.2.2.2.2.2.1, T.2.2.2.2.2.2.2.2.2.2.2.2.2.1, T.2.2.2.2.2.2.2.2.2.2.2.2.2.2.1, T.2.2.2.2.2.2.2.2.2.2.2.2.2.2.2.1, T.2.2.2.2.2.2.2.2.2.2.2.2.2.2.2.2)) := pq_adr hD (ad_X7 _ _)
  refine lv_aload_n hx hb dX7_counts_15 rfl (lv_at hl 0 rfl) ?_
  refine lv_aload_n hx hb dX7_counts_16 rfl (lv_at hl 0 rfl) ?_
  obtain ⟨q2, e1, hf⟩ := pq_bind hf
  refine pq_cV S (c_X7_overfull l g a (T.1, (upd T.2.1 (1 : Int32).toNatClampNeg ((T.2.1 (1 : Int32).toNatClampNeg) + p1)), T.2.2.1, T.2.2.2.1, p1, T.2.2.2.2.2.1, T.2.2.2.2.2.2.1, T.2.2.2.2.2.2.2.1, T.2.2.2.2.2.2.2.2.1, T.2.2.2.2.2.2.2.2.2.1, T.2.2.2.2.2.2.2.2.2.2.1, T.2.2.2.2.2.2.2.2.2.2.2.1, T.2.2.2.2.2.2.2.2.2.2.2.2.1, T.2.2.2.2.2.2.2.2.2.2.2.2.2.1, T.2.2.2.2.2.2.2.2.2.2.2.2.2.2.1, T.2.2.2.2.2.2.2.2.2.2.2.2.2.2.2.1, T.2.2.2.2.2.2.2.2.2.2.2.2.2.2.2.2) q2 e1) vv_X7_100 hK hP rfl rfl rfl rfl rfl hl.1 (Nat.le_of_ble_eq_true rfl) dX7_counts_17 (by decide) (by decide) ⟨Nat.le_refl _, Nat.le_refl _⟩ ?_
  refine lv_if_lt (tgt := 27) hx hb dX7_counts_20 (by decide) (fun h3 => ?_) (fun h3 => ?_)
  · replace hf := pq_ifp h3 hf
    refine lv_iconst (v := 0) hx hb dX7_counts_27 (by decide) ?_
    refine lv_iconst (v := 3) hx hb dX7_counts_28 (by decide) ?_
    refine lv_aload_n hx hb dX7_counts_29 rfl (lv_at hl 0 rfl) ?_
    obtain ⟨q5, e4, hf⟩ := pq_bind hf
    refine pq_cV S (c_X7_overfull l g a (T.1, (upd T.2.1 (1 : Int32).toNatClampNeg ((T.2.1 (1 : Int32).toNatClampNeg) + p1)), T.2.2.1, T.2.2.2.1, p1, T.2.2.2.2.2.1, T.2.2.2.2.2.2.1, T.2.2.2.2.2.2.2.1, T.2.2.2.2.2.2.2.2.1, T.2.2.2.2.2.2.2.2.2.1, T.2.2.2.2.2.2.2.2.2.2.1, T.2.2.2.2.2.2.2.2.2.2.2.1, T.2.2.2.2.2.2.2.2.2.2.2.2.1, T.2.2.2.2.2.2.2.2.2.2.2.2.2.1, T.2.2.2.2.2.2.2.2.2.2.2.2.2.2.1, T.2.2.2.2.2.2.2.2.2.2.2.2.2.2.2.1, T.2.2.2.2.2.2.2.2.2.2.2.2.2.2.2.2) q5 e4) vv_X7_100 hK hP rfl rfl rfl rfl rfl hl.1 (Nat.le_of_ble_eq_true rfl) dX7_counts_30 (by decide) (by decide) ⟨Nat.le_refl _, Nat.le_refl _⟩ ?_
    obtain ⟨q7, e6, hf⟩ := pq_bind hf
    refine pq_cVi S (c_X7_rejects l g a (T.1, (upd T.2.1 (1 : Int32).toNatClampNeg ((T.2.1 (1 : Int32).toNatClampNeg) + p1)), T.2.2.1, T.2.2.2.1, p1, T.2.2.2.2.2.1, T.2.2.2.2.2.2.1, T.2.2.2.2.2.2.2.1, T.2.2.2.2.2.2.2.2.1, T.2.2.2.2.2.2.2.2.2.1, T.2.2.2.2.2.2.2.2.2.2.1, T.2.2.2.2.2.2.2.2.2.2.2.1, T.2.2.2.2.2.2.2.2.2.2.2.2.1, T.2.2.2.2.2.2.2.2.2.2.2.2.2.1, T.2.2.2.2.2.2.2.2.2.2.2.2.2.2.1, T.2.2.2.2.2.2.2.2.2.2.2.2.2.2.2.1, T.2.2.2.2.2.2.2.2.2.2.2.2.2.2.2.2) 0 3 q5 q7.1 q7.2 e6) vv_X7_104 hK hP hD hS hA rfl rfl rfl rfl rfl hl.1 (Nat.le_of_ble_eq_true rfl) dX7_counts_33 (by decide) (by decide) ⟨Nat.le_refl _, Nat.le_refl _⟩ (fun H9 locs hk hP1 hS => ?_)
    replace hP := hP1
    replace hP : va_P g.1 pq_cl (modW g a q7.2) H9 := hP
    replace hD : va_D A (modW g a q7.2) := pq_adr hD (ad_X7 _ _)
    clear hk
    generalize H9 = H at hP hS ⊢
    refine lv_if_eq (tgt := 43) hx hb dX7_counts_36 (by decide) (fun h8 => ?_) (fun h8 => ?_)
    · replace hf := pq_ifp h8 hf
      refine lv_iconst (v := 0) hx hb dX7_counts_43 (by decide) ?_
      obtain ⟨h8, h9⟩ := pq_pair hf
      exact hend _ _ _ _ _ dX7_counts_44 rfl h8 (by rw [← h9]; exact hP) hS
    · replace hf := pq_ifn h8 hf
      refine lv_iconst (v := 3) hx hb dX7_counts_39 (by decide) ?_
      refine lv_goto (tgt := 44) hx hb dX7_counts_40 (by decide) ?_
      obtain ⟨h8, h9⟩ := pq_pair hf
      exact hend _ _ _ _ _ dX7_counts_44 rfl h8 (by rw [← h9]; exact hP) hS
  · replace hf := pq_ifn h3 hf
    refine lv_iconst (v := 1) hx hb dX7_counts_23 (by decide) ?_
    refine lv_goto (tgt := 28) hx hb dX7_counts_24 (by decide) ?_
    refine lv_iconst (v := 3) hx hb dX7_counts_28 (by decide) ?_
    refine lv_aload_n hx hb dX7_counts_29 rfl (lv_at hl 0 rfl) ?_
    obtain ⟨q10, e9, hf⟩ := pq_bind hf
    refine pq_cV S (c_X7_overfull l g a (T.1, (upd T.2.1 (1 : Int32).toNatClampNeg ((T.2.1 (1 : Int32).toNatClampNeg) + p1)), T.2.2.1, T.2.2.2.1, p1, T.2.2.2.2.2.1, T.2.2.2.2.2.2.1, T.2.2.2.2.2.2.2.1, T.2.2.2.2.2.2.2.2.1, T.2.2.2.2.2.2.2.2.2.1, T.2.2.2.2.2.2.2.2.2.2.1, T.2.2.2.2.2.2.2.2.2.2.2.1, T.2.2.2.2.2.2.2.2.2.2.2.2.1, T.2.2.2.2.2.2.2.2.2.2.2.2.2.1, T.2.2.2.2.2.2.2.2.2.2.2.2.2.2.1, T.2.2.2.2.2.2.2.2.2.2.2.2.2.2.2.1, T.2.2.2.2.2.2.2.2.2.2.2.2.2.2.2.2) q10 e9) vv_X7_100 hK hP rfl rfl rfl rfl rfl hl.1 (Nat.le_of_ble_eq_true rfl) dX7_counts_30 (by decide) (by decide) ⟨Nat.le_refl _, Nat.le_refl _⟩ ?_
    obtain ⟨q12, e11, hf⟩ := pq_bind hf
    refine pq_cVi S (c_X7_rejects l g a (T.1, (upd T.2.1 (1 : Int32).toNatClampNeg ((T.2.1 (1 : Int32).toNatClampNeg) + p1)), T.2.2.1, T.2.2.2.1, p1, T.2.2.2.2.2.1, T.2.2.2.2.2.2.1, T.2.2.2.2.2.2.2.1, T.2.2.2.2.2.2.2.2.1, T.2.2.2.2.2.2.2.2.2.1, T.2.2.2.2.2.2.2.2.2.2.1, T.2.2.2.2.2.2.2.2.2.2.2.1, T.2.2.2.2.2.2.2.2.2.2.2.2.1, T.2.2.2.2.2.2.2.2.2.2.2.2.2.1, T.2.2.2.2.2.2.2.2.2.2.2.2.2.2.1, T.2.2.2.2.2.2.2.2.2.2.2.2.2.2.2.1, T.2.2.2.2.2.2.2.2.2.2.2.2.2.2.2.2) 1 3 q10 q12.1 q12.2 e11) vv_X7_104 hK hP hD hS hA rfl rfl rfl rfl rfl hl.1 (Nat.le_of_ble_eq_true rfl) dX7_counts_33 (by decide) (by decide) ⟨Nat.le_refl _, Nat.le_refl _⟩ (fun H9 locs hk hP1 hS => ?_)
    replace hP := hP1
    replace hP : va_P g.1 pq_cl (modW g a q12.2) H9 := hP
    replace hD : va_D A (modW g a q12.2) := pq_adr hD (ad_X7 _ _)
    clear hk
    generalize H9 = H at hP hS ⊢
    refine lv_if_eq (tgt := 43) hx hb dX7_counts_36 (by decide) (fun h13 => ?_) (fun h13 => ?_)
    · replace hf := pq_ifp h13 hf
      refine lv_iconst (v := 0) hx hb dX7_counts_43 (by decide) ?_
      obtain ⟨h8, h9⟩ := pq_pair hf
      exact hend _ _ _ _ _ dX7_counts_44 rfl h8 (by rw [← h9]; exact hP) hS
    · replace hf := pq_ifn h13 hf
      refine lv_iconst (v := 3) hx hb dX7_counts_39 (by decide) ?_
      refine lv_goto (tgt := 44) hx hb dX7_counts_40 (by decide) ?_
      obtain ⟨h8, h9⟩ := pq_pair hf
      exact hend _ _ _ _ _ dX7_counts_44 rfl h8 (by rw [← h9]; exact hP) hS
def f_X7_inserts (T : ModS) (p1 : Int32) (p2 : Int32) : Option (Int32 × (ModS)) :=
    (f_X7_isNumber p1).bind fun q2 =>
    if q2 = 0 then
      some (2, T)
    else
      (f_X7_isNumber p2).bind fun q5 =>
      if q5 = 0 then
        some (2, T)
      else
        (f_X7_find T p1).bind fun q8 =>
        if (T.2.1 (0 : Int32).toNatClampNeg) = 24 then
          (f_X7_rejects T 1 1 24).bind fun q49 =>
          if q49.1 = 0 then
            if q8 < 0 then
              if 0 ≤ q8 then
                (f_X7_priority q49.2 q8).bind fun q54 =>
                (f_X7_rejects q49.2 0 2 q54).bind fun q56 =>
                if q56.1 = 0 then
                  (f_X7_putsIn q56.2 p1 p2).bind fun q59 =>
                  (f_X7_counts q59.2 q59.1).bind fun q61 =>
                  some (q61.1, q61.2)
                else
                  some (3, q56.2)
              else
                (f_X7_rejects q49.2 0 2 0).bind fun q63 =>
                if q63.1 = 0 then
                  (f_X7_putsIn q63.2 p1 p2).bind fun q66 =>
                  (f_X7_counts q66.2 q66.1).bind fun q68 =>
                  some (q68.1, q68.2)
                else
                  some (3, q63.2)
            else
              if 0 ≤ q8 then
                (f_X7_priority q49.2 q8).bind fun q71 =>
                (f_X7_rejects q49.2 1 2 q71).bind fun q73 =>
                if q73.1 = 0 then
                  (f_X7_putsIn q73.2 p1 p2).bind fun q76 =>
                  (f_X7_counts q76.2 q76.1).bind fun q78 =>
                  some (q78.1, q78.2)
                else
                  some (3, q73.2)
              else
                (f_X7_rejects q49.2 1 2 0).bind fun q80 =>
                if q80.1 = 0 then
                  (f_X7_putsIn q80.2 p1 p2).bind fun q83 =>
                  (f_X7_counts q83.2 q83.1).bind fun q85 =>
                  some (q85.1, q85.2)
                else
                  some (3, q80.2)
          else
            some (3, q49.2)
        else
          (f_X7_rejects T 0 1 24).bind fun q11 =>
          if q11.1 = 0 then
            if q8 < 0 then
              if 0 ≤ q8 then
                (f_X7_priority q11.2 q8).bind fun q16 =>
                (f_X7_rejects q11.2 0 2 q16).bind fun q18 =>
                if q18.1 = 0 then
                  (f_X7_putsIn q18.2 p1 p2).bind fun q21 =>
                  (f_X7_counts q21.2 q21.1).bind fun q23 =>
                  some (q23.1, q23.2)
                else
                  some (3, q18.2)
              else
                (f_X7_rejects q11.2 0 2 0).bind fun q25 =>
                if q25.1 = 0 then
                  (f_X7_putsIn q25.2 p1 p2).bind fun q28 =>
                  (f_X7_counts q28.2 q28.1).bind fun q30 =>
                  some (q30.1, q30.2)
                else
                  some (3, q25.2)
            else
              if 0 ≤ q8 then
                (f_X7_priority q11.2 q8).bind fun q33 =>
                (f_X7_rejects q11.2 1 2 q33).bind fun q35 =>
                if q35.1 = 0 then
                  (f_X7_putsIn q35.2 p1 p2).bind fun q38 =>
                  (f_X7_counts q38.2 q38.1).bind fun q40 =>
                  some (q40.1, q40.2)
                else
                  some (3, q35.2)
              else
                (f_X7_rejects q11.2 1 2 0).bind fun q42 =>
                if q42.1 = 0 then
                  (f_X7_putsIn q42.2 p1 p2).bind fun q45 =>
                  (f_X7_counts q45.2 q45.1).bind fun q47 =>
                  some (q47.1, q47.2)
                else
                  some (3, q42.2)
          else
            some (3, q11.2)
set_option maxHeartbeats 4000000 in
set_option maxRecDepth 100000 in
theorem c_X7_inserts (l : Launch) (g : pq_g) (a : Nat → Nat) (T : ModS) (p1 : Int32) (p2 : Int32) (r : Int32) (T1 : ModS) (hf : f_X7_inserts T p1 p2 = some (r, T1)) : pq_Mi l yX7_inserts cX7_inserts 4 .int 6 g (modW g a T) [.ref (a 0), .int p1, .int p2] r (modW g a T1) := by
  rw [f_X7_inserts] at hf
  refine pq_Mi.of (own := RX7) (by decide) rfl (Nat.le_of_ble_eq_true rfl) rfl ?_
  intro p e s m below meth c ls Q A S hP hK hD hS hA hl hend
  obtain ⟨hx, hb, hml, hown, hts⟩ := id S
  refine lv_iload_n hx hb dX7_inserts_0 rfl (lv_at hl 1 rfl) ?_
  obtain ⟨q2, e1, hf⟩ := pq_bind hf
  refine pq_cS S (c_X7_isNumber l g p1 q2 e1) vs_X7_108 hK (hP.sub [] rfl) rfl rfl hl.1 (Nat.le_of_ble_eq_true rfl) dX7_inserts_1 (by decide) (by decide) ⟨Nat.le_refl _, Nat.le_refl _⟩ ?_
  refine lv_if_eq (tgt := 14) hx hb dX7_inserts_4 (by decide) (fun h3 => ?_) (fun h3 => ?_)
  · replace hf := pq_ifp h3 hf
    refine lv_iconst (v := 2) hx hb dX7_inserts_14 (by decide) ?_
    obtain ⟨h8, h9⟩ := pq_pair hf
    exact hend _ _ _ _ _ dX7_inserts_15 rfl h8 (by rw [← h9]; exact hP) hS
  · replace hf := pq_ifn h3 hf
    refine lv_iload_n hx hb dX7_inserts_7 rfl (lv_at hl 2 rfl) ?_
    obtain ⟨q5, e4, hf⟩ := pq_bind hf
    refine pq_cS S (c_X7_isNumber l g p2 q5 e4) vs_X7_108 hK (hP.sub [] rfl) rfl rfl hl.1 (Nat.le_of_ble_eq_true rfl) dX7_inserts_8 (by decide) (by decide) ⟨Nat.le_refl _, Nat.le_refl _⟩ ?_
    refine lv_if_ne (tgt := 16) hx hb dX7_inserts_11 (by decide) (fun h6 => ?_) (fun h6 => ?_)
    · replace hf := pq_ifn h6 hf
      refine lv_aload_n hx hb dX7_inserts_16 rfl (lv_at hl 0 rfl) ?_
      refine lv_iload_n hx hb dX7_inserts_17 rfl (lv_at hl 1 rfl) ?_
      obtain ⟨q8, e7, hf⟩ := pq_bind hf
      refine pq_cV S (c_X7_find l g a T p1 q8 e7) vv_X7_112 hK hP rfl rfl rfl rfl rfl hl.1 (Nat.le_of_ble_eq_true rfl) dX7_inserts_18 (by decide) (by decide) ⟨Nat.le_refl _, Nat.le_refl _⟩ ?_
      refine lv_istore_n (lv' := [(3, .int q8), (0, .ref (a 0)), (1, .int p1), (2, .int p2)]) hx hb dX7_inserts_21 rfl hl (by decide) rfl (fun ls hl => ?_)
      refine lv_aload_n hx hb dX7_inserts_22 rfl (lv_at hl 1 rfl) ?_
      refine lv_aload_n hx hb dX7_inserts_23 rfl (lv_at hl 1 rfl) ?_
      refine pq_get S hK hP inX7 0 rfl rfl 1 (by decide) fl_X7_9 rfl (v := .ref (a 1)) rfl dX7_inserts_24 ?_
      refine lv_iconst (v := 0) hx hb dX7_inserts_27 (by decide) ?_
      refine va_iald hx hb hK.1 hP 1 0 rfl rfl (show ¬ ((0 : Int32) < 0 ∨ 770 ≤ (0 : Int32).toNatClampNeg) by decide) dX7_inserts_28 ?_
      refine lv_bipush (v := 24) hx hb dX7_inserts_29 (by decide) ?_
      refine lv_icmp_ne (tgt := 38) hx hb dX7_inserts_31 (by decide) (fun h9 => ?_) (fun h9 => ?_)
      · replace hf := pq_ifn h9 hf
        refine lv_iconst (v := 0) hx hb dX7_inserts_38 (by decide) ?_
        refine lv_iconst (v := 1) hx hb dX7_inserts_39 (by decide) ?_
        refine lv_bipush (v := 24) hx hb dX7_inserts_40 (by decide) ?_
        obtain ⟨q11, e10, hf⟩ := pq_bind hf
        refine pq_cVi S (c_X7_rejects l g a T 0 1 24 q11.1 q11.2 e10) vv_X7_104 hK hP hD hS hA rfl rfl rfl rfl rfl hl.1 (Nat.le_of_ble_eq_true rfl) dX7_inserts_42 (by decide) (by decide) ⟨Nat.le_refl _, Nat.le_refl _⟩ (fun H9 locs hk hP1 hS => ?_)
        replace hP := hP1
        replace hP : va_P g.1 pq_cl (modW g a q11.2) H9 := hP
        replace hD : va_D A (modW g a q11.2) := pq_adr hD (ad_X7 _ _)
        clear hk
        generalize H9 = H at hP hS ⊢
        refine lv_if_ne (tgt := 78) hx hb dX7_inserts_45 (by decide) (fun h12 => ?_) (fun h12 => ?_)
        · replace hf := pq_ifn h12 hf
          refine lv_iconst (v := 3) hx hb dX7_inserts_78 (by decide) ?_
          obtain ⟨h8, h9⟩ := pq_pair hf
          exact hend _ _ _ _ _ dX7_inserts_79 rfl h8 (by rw [← h9]; exact hP) hS
        · replace hf := pq_ifp h12 hf
          refine lv_aload_n hx hb dX7_inserts_48 rfl (lv_at hl 1 rfl) ?_
          refine lv_iload_n hx hb dX7_inserts_49 rfl (lv_at hl 0 rfl) ?_
          refine lv_if_lt (tgt := 57) hx hb dX7_inserts_50 (by decide) (fun h13 => ?_) (fun h13 => ?_)
          · replace hf := pq_ifp h13 hf
            refine lv_iconst (v := 0) hx hb dX7_inserts_57 (by decide) ?_
            refine lv_iconst (v := 2) hx hb dX7_inserts_58 (by decide) ?_
            refine lv_iload_n hx hb dX7_inserts_59 rfl (lv_at hl 0 rfl) ?_
            refine lv_if_ge (tgt := 67) hx hb dX7_inserts_60 (by decide) (fun h14 => ?_) (fun h14 => ?_)
            · replace hf := pq_ifp h14 hf
              refine lv_aload_n hx hb dX7_inserts_67 rfl (lv_at hl 1 rfl) ?_
              refine lv_iload_n hx hb dX7_inserts_68 rfl (lv_at hl 0 rfl) ?_
              obtain ⟨q16, e15, hf⟩ := pq_bind hf
              refine pq_cV S (c_X7_priority l g a q11.2 q8 q16 e15) vv_X7_64 hK hP rfl rfl rfl rfl rfl hl.1 (Nat.le_of_ble_eq_true rfl) dX7_inserts_69 (by decide) (by decide) ⟨Nat.le_refl _, Nat.le_refl _⟩ ?_
              obtain ⟨q18, e17, hf⟩ := pq_bind hf
              refine pq_cVi S (c_X7_rejects l g a q11.2 0 2 q16 q18.1 q18.2 e17) vv_X7_104 hK hP hD hS hA rfl rfl rfl rfl rfl hl.1 (Nat.le_of_ble_eq_true rfl) dX7_inserts_72 (by decide) (by decide) ⟨Nat.le_refl _, Nat.le_refl _⟩ (fun H9 locs hk hP1 hS => ?_)
              replace hP := hP1
              replace hP : va_P g.1 pq_cl (modW g a q18.2) H9 := hP
              replace hD : va_D A (modW g a q18.2) := pq_adr hD (ad_X7 _ _)
              clear hk
              generalize H9 = H at hP hS ⊢
              refine lv_if_eq (tgt := 80) hx hb dX7_inserts_75 (by decide) (fun h19 => ?_) (fun h19 => ?_)
              · replace hf := pq_ifp h19 hf
                refine lv_aload_n hx hb dX7_inserts_80 rfl (lv_at hl 1 rfl) ?_
                refine lv_aload_n hx hb dX7_inserts_81 rfl (lv_at hl 1 rfl) ?_
                refine lv_iload_n hx hb dX7_inserts_82 rfl (lv_at hl 2 rfl) ?_
                refine lv_iload_n hx hb dX7_inserts_83 rfl (lv_at hl 3 rfl) ?_
                obtain ⟨q21, e20, hf⟩ := pq_bind hf
                refine pq_cVi S (c_X7_putsIn l g a q18.2 p1 p2 q21.1 q21.2 e20) vv_X7_115 hK hP hD hS hA rfl rfl rfl rfl rfl hl.1 (Nat.le_of_ble_eq_true rfl) dX7_inserts_84 (by decide) (by decide) ⟨Nat.le_refl _, Nat.le_refl _⟩ (fun H9 locs hk hP1 hS => ?_)
                replace hP := hP1
                replace hP : va_P g.1 pq_cl (modW g a q21.2) H9 := hP
                replace hD : va_D A (modW g a q21.2) := pq_adr hD (ad_X7 _ _)
                clear hk
                generalize H9 = H at hP hS ⊢
                obtain ⟨q23, e22, hf⟩ := pq_bind hf
                refine pq_cVi S (c_X7_counts l g a q21.2 q21.1 q23.1 q23.2 e22) vv_X7_118 hK hP hD hS hA rfl rfl rfl rfl rfl hl.1 (Nat.le_of_ble_eq_true rfl) dX7_inserts_87 (by decide) (by decide) ⟨Nat.le_refl _, Nat.le_refl _⟩ (fun H9 locs hk hP1 hS => ?_)
                replace hP := hP1
                replace hP : va_P g.1 pq_cl (modW g a q23.2) H9 := hP
                replace hD : va_D A (modW g a q23.2) := pq_adr hD (ad_X7 _ _)
                clear hk
                generalize H9 = H at hP hS ⊢
                obtain ⟨h8, h9⟩ := pq_pair hf
                exact hend _ _ _ _ _ dX7_inserts_90 rfl h8 (by rw [← h9]; exact hP) hS
              · replace hf := pq_ifn h19 hf
                refine lv_iconst (v := 3) hx hb dX7_inserts_78 (by decide) ?_
                obtain ⟨h8, h9⟩ := pq_pair hf
                exact hend _ _ _ _ _ dX7_inserts_79 rfl h8 (by rw [← h9]; exact hP) hS
            · replace hf := pq_ifn h14 hf
              refine lv_iconst (v := 0) hx hb dX7_inserts_63 (by decide) ?_
              refine lv_goto (tgt := 72) hx hb dX7_inserts_64 (by decide) ?_
              obtain ⟨q25, e24, hf⟩ := pq_bind hf
              refine pq_cVi S (c_X7_rejects l g a q11.2 0 2 0 q25.1 q25.2 e24) vv_X7_104 hK hP hD hS hA rfl rfl rfl rfl rfl hl.1 (Nat.le_of_ble_eq_true rfl) dX7_inserts_72 (by decide) (by decide) ⟨Nat.le_refl _, Nat.le_refl _⟩ (fun H9 locs hk hP1 hS => ?_)
              replace hP := hP1
              replace hP : va_P g.1 pq_cl (modW g a q25.2) H9 := hP
              replace hD : va_D A (modW g a q25.2) := pq_adr hD (ad_X7 _ _)
              clear hk
              generalize H9 = H at hP hS ⊢
              refine lv_if_eq (tgt := 80) hx hb dX7_inserts_75 (by decide) (fun h26 => ?_) (fun h26 => ?_)
              · replace hf := pq_ifp h26 hf
                refine lv_aload_n hx hb dX7_inserts_80 rfl (lv_at hl 1 rfl) ?_
                refine lv_aload_n hx hb dX7_inserts_81 rfl (lv_at hl 1 rfl) ?_
                refine lv_iload_n hx hb dX7_inserts_82 rfl (lv_at hl 2 rfl) ?_
                refine lv_iload_n hx hb dX7_inserts_83 rfl (lv_at hl 3 rfl) ?_
                obtain ⟨q28, e27, hf⟩ := pq_bind hf
                refine pq_cVi S (c_X7_putsIn l g a q25.2 p1 p2 q28.1 q28.2 e27) vv_X7_115 hK hP hD hS hA rfl rfl rfl rfl rfl hl.1 (Nat.le_of_ble_eq_true rfl) dX7_inserts_84 (by decide) (by decide) ⟨Nat.le_refl _, Nat.le_refl _⟩ (fun H9 locs hk hP1 hS => ?_)
                replace hP := hP1
                replace hP : va_P g.1 pq_cl (modW g a q28.2) H9 := hP
                replace hD : va_D A (modW g a q28.2) := pq_adr hD (ad_X7 _ _)
                clear hk
                generalize H9 = H at hP hS ⊢
                obtain ⟨q30, e29, hf⟩ := pq_bind hf
                refine pq_cVi S (c_X7_counts l g a q28.2 q28.1 q30.1 q30.2 e29) vv_X7_118 hK hP hD hS hA rfl rfl rfl rfl rfl hl.1 (Nat.le_of_ble_eq_true rfl) dX7_inserts_87 (by decide) (by decide) ⟨Nat.le_refl _, Nat.le_refl _⟩ (fun H9 locs hk hP1 hS => ?_)
                replace hP := hP1
                replace hP : va_P g.1 pq_cl (modW g a q30.2) H9 := hP
                replace hD : va_D A (modW g a q30.2) := pq_adr hD (ad_X7 _ _)
                clear hk
                generalize H9 = H at hP hS ⊢
                obtain ⟨h8, h9⟩ := pq_pair hf
                exact hend _ _ _ _ _ dX7_inserts_90 rfl h8 (by rw [← h9]; exact hP) hS
              · replace hf := pq_ifn h26 hf
                refine lv_iconst (v := 3) hx hb dX7_inserts_78 (by decide) ?_
                obtain ⟨h8, h9⟩ := pq_pair hf
                exact hend _ _ _ _ _ dX7_inserts_79 rfl h8 (by rw [← h9]; exact hP) hS
          · replace hf := pq_ifn h13 hf
            refine lv_iconst (v := 1) hx hb dX7_inserts_53 (by decide) ?_
            refine lv_goto (tgt := 58) hx hb dX7_inserts_54 (by decide) ?_
            refine lv_iconst (v := 2) hx hb dX7_inserts_58 (by decide) ?_
            refine lv_iload_n hx hb dX7_inserts_59 rfl (lv_at hl 0 rfl) ?_
            refine lv_if_ge (tgt := 67) hx hb dX7_inserts_60 (by decide) (fun h31 => ?_) (fun h31 => ?_)
            · replace hf := pq_ifp h31 hf
              refine lv_aload_n hx hb dX7_inserts_67 rfl (lv_at hl 1 rfl) ?_
              refine lv_iload_n hx hb dX7_inserts_68 rfl (lv_at hl 0 rfl) ?_
              obtain ⟨q33, e32, hf⟩ := pq_bind hf
              refine pq_cV S (c_X7_priority l g a q11.2 q8 q33 e32) vv_X7_64 hK hP rfl rfl rfl rfl rfl hl.1 (Nat.le_of_ble_eq_true rfl) dX7_inserts_69 (by decide) (by decide) ⟨Nat.le_refl _, Nat.le_refl _⟩ ?_
              obtain ⟨q35, e34, hf⟩ := pq_bind hf
              refine pq_cVi S (c_X7_rejects l g a q11.2 1 2 q33 q35.1 q35.2 e34) vv_X7_104 hK hP hD hS hA rfl rfl rfl rfl rfl hl.1 (Nat.le_of_ble_eq_true rfl) dX7_inserts_72 (by decide) (by decide) ⟨Nat.le_refl _, Nat.le_refl _⟩ (fun H9 locs hk hP1 hS => ?_)
              replace hP := hP1
              replace hP : va_P g.1 pq_cl (modW g a q35.2) H9 := hP
              replace hD : va_D A (modW g a q35.2) := pq_adr hD (ad_X7 _ _)
              clear hk
              generalize H9 = H at hP hS ⊢
              refine lv_if_eq (tgt := 80) hx hb dX7_inserts_75 (by decide) (fun h36 => ?_) (fun h36 => ?_)
              · replace hf := pq_ifp h36 hf
                refine lv_aload_n hx hb dX7_inserts_80 rfl (lv_at hl 1 rfl) ?_
                refine lv_aload_n hx hb dX7_inserts_81 rfl (lv_at hl 1 rfl) ?_
                refine lv_iload_n hx hb dX7_inserts_82 rfl (lv_at hl 2 rfl) ?_
                refine lv_iload_n hx hb dX7_inserts_83 rfl (lv_at hl 3 rfl) ?_
                obtain ⟨q38, e37, hf⟩ := pq_bind hf
                refine pq_cVi S (c_X7_putsIn l g a q35.2 p1 p2 q38.1 q38.2 e37) vv_X7_115 hK hP hD hS hA rfl rfl rfl rfl rfl hl.1 (Nat.le_of_ble_eq_true rfl) dX7_inserts_84 (by decide) (by decide) ⟨Nat.le_refl _, Nat.le_refl _⟩ (fun H9 locs hk hP1 hS => ?_)
                replace hP := hP1
                replace hP : va_P g.1 pq_cl (modW g a q38.2) H9 := hP
                replace hD : va_D A (modW g a q38.2) := pq_adr hD (ad_X7 _ _)
                clear hk
                generalize H9 = H at hP hS ⊢
                obtain ⟨q40, e39, hf⟩ := pq_bind hf
                refine pq_cVi S (c_X7_counts l g a q38.2 q38.1 q40.1 q40.2 e39) vv_X7_118 hK hP hD hS hA rfl rfl rfl rfl rfl hl.1 (Nat.le_of_ble_eq_true rfl) dX7_inserts_87 (by decide) (by decide) ⟨Nat.le_refl _, Nat.le_refl _⟩ (fun H9 locs hk hP1 hS => ?_)
                replace hP := hP1
                replace hP : va_P g.1 pq_cl (modW g a q40.2) H9 := hP
                replace hD : va_D A (modW g a q40.2) := pq_adr hD (ad_X7 _ _)
                clear hk
                generalize H9 = H at hP hS ⊢
                obtain ⟨h8, h9⟩ := pq_pair hf
                exact hend _ _ _ _ _ dX7_inserts_90 rfl h8 (by rw [← h9]; exact hP) hS
              · replace hf := pq_ifn h36 hf
                refine lv_iconst (v := 3) hx hb dX7_inserts_78 (by decide) ?_
                obtain ⟨h8, h9⟩ := pq_pair hf
                exact hend _ _ _ _ _ dX7_inserts_79 rfl h8 (by rw [← h9]; exact hP) hS
            · replace hf := pq_ifn h31 hf
              refine lv_iconst (v := 0) hx hb dX7_inserts_63 (by decide) ?_
              refine lv_goto (tgt := 72) hx hb dX7_inserts_64 (by decide) ?_
              obtain ⟨q42, e41, hf⟩ := pq_bind hf
              refine pq_cVi S (c_X7_rejects l g a q11.2 1 2 0 q42.1 q42.2 e41) vv_X7_104 hK hP hD hS hA rfl rfl rfl rfl rfl hl.1 (Nat.le_of_ble_eq_true rfl) dX7_inserts_72 (by decide) (by decide) ⟨Nat.le_refl _, Nat.le_refl _⟩ (fun H9 locs hk hP1 hS => ?_)
              replace hP := hP1
              replace hP : va_P g.1 pq_cl (modW g a q42.2) H9 := hP
              replace hD : va_D A (modW g a q42.2) := pq_adr hD (ad_X7 _ _)
              clear hk
              generalize H9 = H at hP hS ⊢
              refine lv_if_eq (tgt := 80) hx hb dX7_inserts_75 (by decide) (fun h43 => ?_) (fun h43 => ?_)
              · replace hf := pq_ifp h43 hf
                refine lv_aload_n hx hb dX7_inserts_80 rfl (lv_at hl 1 rfl) ?_
                refine lv_aload_n hx hb dX7_inserts_81 rfl (lv_at hl 1 rfl) ?_
                refine lv_iload_n hx hb dX7_inserts_82 rfl (lv_at hl 2 rfl) ?_
                refine lv_iload_n hx hb dX7_inserts_83 rfl (lv_at hl 3 rfl) ?_
                obtain ⟨q45, e44, hf⟩ := pq_bind hf
                refine pq_cVi S (c_X7_putsIn l g a q42.2 p1 p2 q45.1 q45.2 e44) vv_X7_115 hK hP hD hS hA rfl rfl rfl rfl rfl hl.1 (Nat.le_of_ble_eq_true rfl) dX7_inserts_84 (by decide) (by decide) ⟨Nat.le_refl _, Nat.le_refl _⟩ (fun H9 locs hk hP1 hS => ?_)
                replace hP := hP1
                replace hP : va_P g.1 pq_cl (modW g a q45.2) H9 := hP
                replace hD : va_D A (modW g a q45.2) := pq_adr hD (ad_X7 _ _)
                clear hk
                generalize H9 = H at hP hS ⊢
                obtain ⟨q47, e46, hf⟩ := pq_bind hf
                refine pq_cVi S (c_X7_counts l g a q45.2 q45.1 q47.1 q47.2 e46) vv_X7_118 hK hP hD hS hA rfl rfl rfl rfl rfl hl.1 (Nat.le_of_ble_eq_true rfl) dX7_inserts_87 (by decide) (by decide) ⟨Nat.le_refl _, Nat.le_refl _⟩ (fun H9 locs hk hP1 hS => ?_)
                replace hP := hP1
                replace hP : va_P g.1 pq_cl (modW g a q47.2) H9 := hP
                replace hD : va_D A (modW g a q47.2) := pq_adr hD (ad_X7 _ _)
                clear hk
                generalize H9 = H at hP hS ⊢
                obtain ⟨h8, h9⟩ := pq_pair hf
                exact hend _ _ _ _ _ dX7_inserts_90 rfl h8 (by rw [← h9]; exact hP) hS
              · replace hf := pq_ifn h43 hf
                refine lv_iconst (v := 3) hx hb dX7_inserts_78 (by decide) ?_
                obtain ⟨h8, h9⟩ := pq_pair hf
                exact hend _ _ _ _ _ dX7_inserts_79 rfl h8 (by rw [← h9]; exact hP) hS
      · replace hf := pq_ifp h9 hf
        refine lv_iconst (v := 1) hx hb dX7_inserts_34 (by decide) ?_
        refine lv_goto (tgt := 39) hx hb dX7_inserts_35 (by decide) ?_
        refine lv_iconst (v := 1) hx hb dX7_inserts_39 (by decide) ?_
        refine lv_bipush (v := 24) hx hb dX7_inserts_40 (by decide) ?_
        obtain ⟨q49, e48, hf⟩ := pq_bind hf
        refine pq_cVi S (c_X7_rejects l g a T 1 1 24 q49.1 q49.2 e48) vv_X7_104 hK hP hD hS hA rfl rfl rfl rfl rfl hl.1 (Nat.le_of_ble_eq_true rfl) dX7_inserts_42 (by decide) (by decide) ⟨Nat.le_refl _, Nat.le_refl _⟩ (fun H9 locs hk hP1 hS => ?_)
        replace hP := hP1
        replace hP : va_P g.1 pq_cl (modW g a q49.2) H9 := hP
        replace hD : va_D A (modW g a q49.2) := pq_adr hD (ad_X7 _ _)
        clear hk
        generalize H9 = H at hP hS ⊢
        refine lv_if_ne (tgt := 78) hx hb dX7_inserts_45 (by decide) (fun h50 => ?_) (fun h50 => ?_)
        · replace hf := pq_ifn h50 hf
          refine lv_iconst (v := 3) hx hb dX7_inserts_78 (by decide) ?_
          obtain ⟨h8, h9⟩ := pq_pair hf
          exact hend _ _ _ _ _ dX7_inserts_79 rfl h8 (by rw [← h9]; exact hP) hS
        · replace hf := pq_ifp h50 hf
          refine lv_aload_n hx hb dX7_inserts_48 rfl (lv_at hl 1 rfl) ?_
          refine lv_iload_n hx hb dX7_inserts_49 rfl (lv_at hl 0 rfl) ?_
          refine lv_if_lt (tgt := 57) hx hb dX7_inserts_50 (by decide) (fun h51 => ?_) (fun h51 => ?_)
          · replace hf := pq_ifp h51 hf
            refine lv_iconst (v := 0) hx hb dX7_inserts_57 (by decide) ?_
            refine lv_iconst (v := 2) hx hb dX7_inserts_58 (by decide) ?_
            refine lv_iload_n hx hb dX7_inserts_59 rfl (lv_at hl 0 rfl) ?_
            refine lv_if_ge (tgt := 67) hx hb dX7_inserts_60 (by decide) (fun h52 => ?_) (fun h52 => ?_)
            · replace hf := pq_ifp h52 hf
              refine lv_aload_n hx hb dX7_inserts_67 rfl (lv_at hl 1 rfl) ?_
              refine lv_iload_n hx hb dX7_inserts_68 rfl (lv_at hl 0 rfl) ?_
              obtain ⟨q54, e53, hf⟩ := pq_bind hf
              refine pq_cV S (c_X7_priority l g a q49.2 q8 q54 e53) vv_X7_64 hK hP rfl rfl rfl rfl rfl hl.1 (Nat.le_of_ble_eq_true rfl) dX7_inserts_69 (by decide) (by decide) ⟨Nat.le_refl _, Nat.le_refl _⟩ ?_
              obtain ⟨q56, e55, hf⟩ := pq_bind hf
              refine pq_cVi S (c_X7_rejects l g a q49.2 0 2 q54 q56.1 q56.2 e55) vv_X7_104 hK hP hD hS hA rfl rfl rfl rfl rfl hl.1 (Nat.le_of_ble_eq_true rfl) dX7_inserts_72 (by decide) (by decide) ⟨Nat.le_refl _, Nat.le_refl _⟩ (fun H9 locs hk hP1 hS => ?_)
              replace hP := hP1
              replace hP : va_P g.1 pq_cl (modW g a q56.2) H9 := hP
              replace hD : va_D A (modW g a q56.2) := pq_adr hD (ad_X7 _ _)
              clear hk
              generalize H9 = H at hP hS ⊢
              refine lv_if_eq (tgt := 80) hx hb dX7_inserts_75 (by decide) (fun h57 => ?_) (fun h57 => ?_)
              · replace hf := pq_ifp h57 hf
                refine lv_aload_n hx hb dX7_inserts_80 rfl (lv_at hl 1 rfl) ?_
                refine lv_aload_n hx hb dX7_inserts_81 rfl (lv_at hl 1 rfl) ?_
                refine lv_iload_n hx hb dX7_inserts_82 rfl (lv_at hl 2 rfl) ?_
                refine lv_iload_n hx hb dX7_inserts_83 rfl (lv_at hl 3 rfl) ?_
                obtain ⟨q59, e58, hf⟩ := pq_bind hf
                refine pq_cVi S (c_X7_putsIn l g a q56.2 p1 p2 q59.1 q59.2 e58) vv_X7_115 hK hP hD hS hA rfl rfl rfl rfl rfl hl.1 (Nat.le_of_ble_eq_true rfl) dX7_inserts_84 (by decide) (by decide) ⟨Nat.le_refl _, Nat.le_refl _⟩ (fun H9 locs hk hP1 hS => ?_)
                replace hP := hP1
                replace hP : va_P g.1 pq_cl (modW g a q59.2) H9 := hP
                replace hD : va_D A (modW g a q59.2) := pq_adr hD (ad_X7 _ _)
                clear hk
                generalize H9 = H at hP hS ⊢
                obtain ⟨q61, e60, hf⟩ := pq_bind hf
                refine pq_cVi S (c_X7_counts l g a q59.2 q59.1 q61.1 q61.2 e60) vv_X7_118 hK hP hD hS hA rfl rfl rfl rfl rfl hl.1 (Nat.le_of_ble_eq_true rfl) dX7_inserts_87 (by decide) (by decide) ⟨Nat.le_refl _, Nat.le_refl _⟩ (fun H9 locs hk hP1 hS => ?_)
                replace hP := hP1
                replace hP : va_P g.1 pq_cl (modW g a q61.2) H9 := hP
                replace hD : va_D A (modW g a q61.2) := pq_adr hD (ad_X7 _ _)
                clear hk
                generalize H9 = H at hP hS ⊢
                obtain ⟨h8, h9⟩ := pq_pair hf
                exact hend _ _ _ _ _ dX7_inserts_90 rfl h8 (by rw [← h9]; exact hP) hS
              · replace hf := pq_ifn h57 hf
                refine lv_iconst (v := 3) hx hb dX7_inserts_78 (by decide) ?_
                obtain ⟨h8, h9⟩ := pq_pair hf
                exact hend _ _ _ _ _ dX7_inserts_79 rfl h8 (by rw [← h9]; exact hP) hS
            · replace hf := pq_ifn h52 hf
              refine lv_iconst (v := 0) hx hb dX7_inserts_63 (by decide) ?_
              refine lv_goto (tgt := 72) hx hb dX7_inserts_64 (by decide) ?_
              obtain ⟨q63, e62, hf⟩ := pq_bind hf
              refine pq_cVi S (c_X7_rejects l g a q49.2 0 2 0 q63.1 q63.2 e62) vv_X7_104 hK hP hD hS hA rfl rfl rfl rfl rfl hl.1 (Nat.le_of_ble_eq_true rfl) dX7_inserts_72 (by decide) (by decide) ⟨Nat.le_refl _, Nat.le_refl _⟩ (fun H9 locs hk hP1 hS => ?_)
              replace hP := hP1
              replace hP : va_P g.1 pq_cl (modW g a q63.2) H9 := hP
              replace hD : va_D A (modW g a q63.2) := pq_adr hD (ad_X7 _ _)
              clear hk
              generalize H9 = H at hP hS ⊢
              refine lv_if_eq (tgt := 80) hx hb dX7_inserts_75 (by decide) (fun h64 => ?_) (fun h64 => ?_)
              · replace hf := pq_ifp h64 hf
                refine lv_aload_n hx hb dX7_inserts_80 rfl (lv_at hl 1 rfl) ?_
                refine lv_aload_n hx hb dX7_inserts_81 rfl (lv_at hl 1 rfl) ?_
                refine lv_iload_n hx hb dX7_inserts_82 rfl (lv_at hl 2 rfl) ?_
                refine lv_iload_n hx hb dX7_inserts_83 rfl (lv_at hl 3 rfl) ?_
                obtain ⟨q66, e65, hf⟩ := pq_bind hf
                refine pq_cVi S (c_X7_putsIn l g a q63.2 p1 p2 q66.1 q66.2 e65) vv_X7_115 hK hP hD hS hA rfl rfl rfl rfl rfl hl.1 (Nat.le_of_ble_eq_true rfl) dX7_inserts_84 (by decide) (by decide) ⟨Nat.le_refl _, Nat.le_refl _⟩ (fun H9 locs hk hP1 hS => ?_)
                replace hP := hP1
                replace hP : va_P g.1 pq_cl (modW g a q66.2) H9 := hP
                replace hD : va_D A (modW g a q66.2) := pq_adr hD (ad_X7 _ _)
                clear hk
                generalize H9 = H at hP hS ⊢
                obtain ⟨q68, e67, hf⟩ := pq_bind hf
                refine pq_cVi S (c_X7_counts l g a q66.2 q66.1 q68.1 q68.2 e67) vv_X7_118 hK hP hD hS hA rfl rfl rfl rfl rfl hl.1 (Nat.le_of_ble_eq_true rfl) dX7_inserts_87 (by decide) (by decide) ⟨Nat.le_refl _, Nat.le_refl _⟩ (fun H9 locs hk hP1 hS => ?_)
                replace hP := hP1
                replace hP : va_P g.1 pq_cl (modW g a q68.2) H9 := hP
                replace hD : va_D A (modW g a q68.2) := pq_adr hD (ad_X7 _ _)
                clear hk
                generalize H9 = H at hP hS ⊢
                obtain ⟨h8, h9⟩ := pq_pair hf
                exact hend _ _ _ _ _ dX7_inserts_90 rfl h8 (by rw [← h9]; exact hP) hS
              · replace hf := pq_ifn h64 hf
                refine lv_iconst (v := 3) hx hb dX7_inserts_78 (by decide) ?_
                obtain ⟨h8, h9⟩ := pq_pair hf
                exact hend _ _ _ _ _ dX7_inserts_79 rfl h8 (by rw [← h9]; exact hP) hS
          · replace hf := pq_ifn h51 hf
            refine lv_iconst (v := 1) hx hb dX7_inserts_53 (by decide) ?_
            refine lv_goto (tgt := 58) hx hb dX7_inserts_54 (by decide) ?_
            refine lv_iconst (v := 2) hx hb dX7_inserts_58 (by decide) ?_
            refine lv_iload_n hx hb dX7_inserts_59 rfl (lv_at hl 0 rfl) ?_
            refine lv_if_ge (tgt := 67) hx hb dX7_inserts_60 (by decide) (fun h69 => ?_) (fun h69 => ?_)
            · replace hf := pq_ifp h69 hf
              refine lv_aload_n hx hb dX7_inserts_67 rfl (lv_at hl 1 rfl) ?_
              refine lv_iload_n hx hb dX7_inserts_68 rfl (lv_at hl 0 rfl) ?_
              obtain ⟨q71, e70, hf⟩ := pq_bind hf
              refine pq_cV S (c_X7_priority l g a q49.2 q8 q71 e70) vv_X7_64 hK hP rfl rfl rfl rfl rfl hl.1 (Nat.le_of_ble_eq_true rfl) dX7_inserts_69 (by decide) (by decide) ⟨Nat.le_refl _, Nat.le_refl _⟩ ?_
              obtain ⟨q73, e72, hf⟩ := pq_bind hf
              refine pq_cVi S (c_X7_rejects l g a q49.2 1 2 q71 q73.1 q73.2 e72) vv_X7_104 hK hP hD hS hA rfl rfl rfl rfl rfl hl.1 (Nat.le_of_ble_eq_true rfl) dX7_inserts_72 (by decide) (by decide) ⟨Nat.le_refl _, Nat.le_refl _⟩ (fun H9 locs hk hP1 hS => ?_)
              replace hP := hP1
              replace hP : va_P g.1 pq_cl (modW g a q73.2) H9 := hP
              replace hD : va_D A (modW g a q73.2) := pq_adr hD (ad_X7 _ _)
              clear hk
              generalize H9 = H at hP hS ⊢
              refine lv_if_eq (tgt := 80) hx hb dX7_inserts_75 (by decide) (fun h74 => ?_) (fun h74 => ?_)
              · replace hf := pq_ifp h74 hf
                refine lv_aload_n hx hb dX7_inserts_80 rfl (lv_at hl 1 rfl) ?_
                refine lv_aload_n hx hb dX7_inserts_81 rfl (lv_at hl 1 rfl) ?_
                refine lv_iload_n hx hb dX7_inserts_82 rfl (lv_at hl 2 rfl) ?_
                refine lv_iload_n hx hb dX7_inserts_83 rfl (lv_at hl 3 rfl) ?_
                obtain ⟨q76, e75, hf⟩ := pq_bind hf
                refine pq_cVi S (c_X7_putsIn l g a q73.2 p1 p2 q76.1 q76.2 e75) vv_X7_115 hK hP hD hS hA rfl rfl rfl rfl rfl hl.1 (Nat.le_of_ble_eq_true rfl) dX7_inserts_84 (by decide) (by decide) ⟨Nat.le_refl _, Nat.le_refl _⟩ (fun H9 locs hk hP1 hS => ?_)
                replace hP := hP1
                replace hP : va_P g.1 pq_cl (modW g a q76.2) H9 := hP
                replace hD : va_D A (modW g a q76.2) := pq_adr hD (ad_X7 _ _)
                clear hk
                generalize H9 = H at hP hS ⊢
                obtain ⟨q78, e77, hf⟩ := pq_bind hf
                refine pq_cVi S (c_X7_counts l g a q76.2 q76.1 q78.1 q78.2 e77) vv_X7_118 hK hP hD hS hA rfl rfl rfl rfl rfl hl.1 (Nat.le_of_ble_eq_true rfl) dX7_inserts_87 (by decide) (by decide) ⟨Nat.le_refl _, Nat.le_refl _⟩ (fun H9 locs hk hP1 hS => ?_)
                replace hP := hP1
                replace hP : va_P g.1 pq_cl (modW g a q78.2) H9 := hP
                replace hD : va_D A (modW g a q78.2) := pq_adr hD (ad_X7 _ _)
                clear hk
                generalize H9 = H at hP hS ⊢
                obtain ⟨h8, h9⟩ := pq_pair hf
                exact hend _ _ _ _ _ dX7_inserts_90 rfl h8 (by rw [← h9]; exact hP) hS
              · replace hf := pq_ifn h74 hf
                refine lv_iconst (v := 3) hx hb dX7_inserts_78 (by decide) ?_
                obtain ⟨h8, h9⟩ := pq_pair hf
                exact hend _ _ _ _ _ dX7_inserts_79 rfl h8 (by rw [← h9]; exact hP) hS
            · replace hf := pq_ifn h69 hf
              refine lv_iconst (v := 0) hx hb dX7_inserts_63 (by decide) ?_
              refine lv_goto (tgt := 72) hx hb dX7_inserts_64 (by decide) ?_
              obtain ⟨q80, e79, hf⟩ := pq_bind hf
              refine pq_cVi S (c_X7_rejects l g a q49.2 1 2 0 q80.1 q80.2 e79) vv_X7_104 hK hP hD hS hA rfl rfl rfl rfl rfl hl.1 (Nat.le_of_ble_eq_true rfl) dX7_inserts_72 (by decide) (by decide) ⟨Nat.le_refl _, Nat.le_refl _⟩ (fun H9 locs hk hP1 hS => ?_)
              replace hP := hP1
              replace hP : va_P g.1 pq_cl (modW g a q80.2) H9 := hP
              replace hD : va_D A (modW g a q80.2) := pq_adr hD (ad_X7 _ _)
              clear hk
              generalize H9 = H at hP hS ⊢
              refine lv_if_eq (tgt := 80) hx hb dX7_inserts_75 (by decide) (fun h81 => ?_) (fun h81 => ?_)
              · replace hf := pq_ifp h81 hf
                refine lv_aload_n hx hb dX7_inserts_80 rfl (lv_at hl 1 rfl) ?_
                refine lv_aload_n hx hb dX7_inserts_81 rfl (lv_at hl 1 rfl) ?_
                refine lv_iload_n hx hb dX7_inserts_82 rfl (lv_at hl 2 rfl) ?_
                refine lv_iload_n hx hb dX7_inserts_83 rfl (lv_at hl 3 rfl) ?_
                obtain ⟨q83, e82, hf⟩ := pq_bind hf
                refine pq_cVi S (c_X7_putsIn l g a q80.2 p1 p2 q83.1 q83.2 e82) vv_X7_115 hK hP hD hS hA rfl rfl rfl rfl rfl hl.1 (Nat.le_of_ble_eq_true rfl) dX7_inserts_84 (by decide) (by decide) ⟨Nat.le_refl _, Nat.le_refl _⟩ (fun H9 locs hk hP1 hS => ?_)
                replace hP := hP1
                replace hP : va_P g.1 pq_cl (modW g a q83.2) H9 := hP
                replace hD : va_D A (modW g a q83.2) := pq_adr hD (ad_X7 _ _)
                clear hk
                generalize H9 = H at hP hS ⊢
                obtain ⟨q85, e84, hf⟩ := pq_bind hf
                refine pq_cVi S (c_X7_counts l g a q83.2 q83.1 q85.1 q85.2 e84) vv_X7_118 hK hP hD hS hA rfl rfl rfl rfl rfl hl.1 (Nat.le_of_ble_eq_true rfl) dX7_inserts_87 (by decide) (by decide) ⟨Nat.le_refl _, Nat.le_refl _⟩ (fun H9 locs hk hP1 hS => ?_)
                replace hP := hP1
                replace hP : va_P g.1 pq_cl (modW g a q85.2) H9 := hP
                replace hD : va_D A (modW g a q85.2) := pq_adr hD (ad_X7 _ _)
                clear hk
                generalize H9 = H at hP hS ⊢
                obtain ⟨h8, h9⟩ := pq_pair hf
                exact hend _ _ _ _ _ dX7_inserts_90 rfl h8 (by rw [← h9]; exact hP) hS
              · replace hf := pq_ifn h81 hf
                refine lv_iconst (v := 3) hx hb dX7_inserts_78 (by decide) ?_
                obtain ⟨h8, h9⟩ := pq_pair hf
                exact hend _ _ _ _ _ dX7_inserts_79 rfl h8 (by rw [← h9]; exact hP) hS
    · replace hf := pq_ifp h6 hf
      refine lv_iconst (v := 2) hx hb dX7_inserts_14 (by decide) ?_
      obtain ⟨h8, h9⟩ := pq_pair hf
      exact hend _ _ _ _ _ dX7_inserts_15 rfl h8 (by rw [← h9]; exact hP) hS
def f_X7_insert (T : ModS) (p1 : Int32) (p2 : Int32) : Option (Int32 × (ModS)) :=
    (f_X7_begins T).bind fun q2 =>
    (f_X7_inserts q2 p1 p2).bind fun q4 =>
    (f_X7_ends q4.2 q4.1 0 1 2 0).bind fun q6 =>
    some (q6.1, q6.2)
set_option maxHeartbeats 4000000 in
set_option maxRecDepth 100000 in
theorem c_X7_insert (l : Launch) (g : pq_g) (a : Nat → Nat) (T : ModS) (p1 : Int32) (p2 : Int32) (r : Int32) (T1 : ModS) (hf : f_X7_insert T p1 p2 = some (r, T1)) : pq_Mi l yX7_insert cX7_insert 3 .int 7 g (modW g a T) [.ref (a 0), .int p1, .int p2] r (modW g a T1) := by
  rw [f_X7_insert] at hf
  refine pq_Mi.of (own := RX7) (by decide) rfl (Nat.le_of_ble_eq_true rfl) rfl ?_
  intro p e s m below meth c ls Q A S hP hK hD hS hA hl hend
  obtain ⟨hx, hb, hml, hown, hts⟩ := id S
  refine lv_aload_n hx hb dX7_insert_0 rfl (lv_at hl 0 rfl) ?_
  obtain ⟨q2, e1, hf⟩ := pq_bind hf
  refine pq_cVv S (c_X7_begins l g a T q2 e1) vv_X7_121 hK hP hD hS hA rfl rfl rfl rfl rfl hl.1 (Nat.le_of_ble_eq_true rfl) dX7_insert_1 (by decide) (by decide) ⟨Nat.le_refl _, Nat.le_refl _⟩ (fun H9 locs hk hP1 hS => ?_)
  replace hP := hP1
  replace hP : va_P g.1 pq_cl (modW g a q2) H9 := hP
  replace hD : va_D A (modW g a q2) := pq_adr hD (ad_X7 _ _)
  clear hk
  generalize H9 = H at hP hS ⊢
  refine lv_aload_n hx hb dX7_insert_4 rfl (lv_at hl 0 rfl) ?_
  refine lv_aload_n hx hb dX7_insert_5 rfl (lv_at hl 0 rfl) ?_
  refine lv_iload_n hx hb dX7_insert_6 rfl (lv_at hl 1 rfl) ?_
  refine lv_iload_n hx hb dX7_insert_7 rfl (lv_at hl 2 rfl) ?_
  obtain ⟨q4, e3, hf⟩ := pq_bind hf
  refine pq_cVi S (c_X7_inserts l g a q2 p1 p2 q4.1 q4.2 e3) vv_X7_124 hK hP hD hS hA rfl rfl rfl rfl rfl hl.1 (Nat.le_of_ble_eq_true rfl) dX7_insert_8 (by decide) (by decide) ⟨Nat.le_refl _, Nat.le_refl _⟩ (fun H9 locs hk hP1 hS => ?_)
  replace hP := hP1
  replace hP : va_P g.1 pq_cl (modW g a q4.2) H9 := hP
  replace hD : va_D A (modW g a q4.2) := pq_adr hD (ad_X7 _ _)
  clear hk
  generalize H9 = H at hP hS ⊢
  refine lv_iconst (v := 0) hx hb dX7_insert_11 (by decide) ?_
  refine lv_iconst (v := 1) hx hb dX7_insert_12 (by decide) ?_
  refine lv_iconst (v := 2) hx hb dX7_insert_13 (by decide) ?_
  refine lv_iconst (v := 0) hx hb dX7_insert_14 (by decide) ?_
  obtain ⟨q6, e5, hf⟩ := pq_bind hf
  refine pq_cVi S (c_X7_ends l g a q4.2 q4.1 0 1 2 0 q6.1 q6.2 e5) vv_X7_127 hK hP hD hS hA rfl rfl rfl rfl rfl hl.1 (Nat.le_of_ble_eq_true rfl) dX7_insert_15 (by decide) (by decide) ⟨Nat.le_refl _, Nat.le_refl _⟩ (fun H9 locs hk hP1 hS => ?_)
  replace hP := hP1
  replace hP : va_P g.1 pq_cl (modW g a q6.2) H9 := hP
  replace hD : va_D A (modW g a q6.2) := pq_adr hD (ad_X7 _ _)
  clear hk
  generalize H9 = H at hP hS ⊢
  obtain ⟨h8, h9⟩ := pq_pair hf
  exact hend _ _ _ _ _ dX7_insert_18 rfl h8 (by rw [← h9]; exact hP) hS
def f_X7_deletes (T : ModS) (p1 : Int32) : Option (Int32 × (ModS)) :=
    (f_X7_find T p1).bind fun q2 =>
    if 0 ≤ q2 then
      (f_X7_takesOut T q2).bind fun q5 =>
      (f_X7_counts q5.2 q5.1).bind fun q7 =>
      some (q7.1, q7.2)
    else
      some (4, T)
set_option maxHeartbeats 4000000 in
set_option maxRecDepth 100000 in
theorem c_X7_deletes (l : Launch) (g : pq_g) (a : Nat → Nat) (T : ModS) (p1 : Int32) (r : Int32) (T1 : ModS) (hf : f_X7_deletes T p1 = some (r, T1)) : pq_Mi l yX7_deletes cX7_deletes 3 .int 6 g (modW g a T) [.ref (a 0), .int p1] r (modW g a T1) := by
  rw [f_X7_deletes] at hf
  refine pq_Mi.of (own := RX7) (by decide) rfl (Nat.le_of_ble_eq_true rfl) rfl ?_
  intro p e s m below meth c ls Q A S hP hK hD hS hA hl hend
  obtain ⟨hx, hb, hml, hown, hts⟩ := id S
  refine lv_aload_n hx hb dX7_deletes_0 rfl (lv_at hl 0 rfl) ?_
  refine lv_iload_n hx hb dX7_deletes_1 rfl (lv_at hl 1 rfl) ?_
  obtain ⟨q2, e1, hf⟩ := pq_bind hf
  refine pq_cV S (c_X7_find l g a T p1 q2 e1) vv_X7_112 hK hP rfl rfl rfl rfl rfl hl.1 (Nat.le_of_ble_eq_true rfl) dX7_deletes_2 (by decide) (by decide) ⟨Nat.le_refl _, Nat.le_refl _⟩ ?_
  refine lv_istore_n (lv' := [(2, .int q2), (0, .ref (a 0)), (1, .int p1)]) hx hb dX7_deletes_5 rfl hl (by decide) rfl (fun ls hl => ?_)
  refine lv_iload_n hx hb dX7_deletes_6 rfl (lv_at hl 0 rfl) ?_
  refine lv_if_ge (tgt := 14) hx hb dX7_deletes_7 (by decide) (fun h3 => ?_) (fun h3 => ?_)
  · replace hf := pq_ifp h3 hf
    refine lv_aload_n hx hb dX7_deletes_14 rfl (lv_at hl 1 rfl) ?_
    refine lv_aload_n hx hb dX7_deletes_15 rfl (lv_at hl 1 rfl) ?_
    refine lv_iload_n hx hb dX7_deletes_16 rfl (lv_at hl 0 rfl) ?_
    obtain ⟨q5, e4, hf⟩ := pq_bind hf
    refine pq_cVi S (c_X7_takesOut l g a T q2 q5.1 q5.2 e4) vv_X7_131 hK hP hD hS hA rfl rfl rfl rfl rfl hl.1 (Nat.le_of_ble_eq_true rfl) dX7_deletes_17 (by decide) (by decide) ⟨Nat.le_refl _, Nat.le_refl _⟩ (fun H9 locs hk hP1 hS => ?_)
    replace hP := hP1
    replace hP : va_P g.1 pq_cl (modW g a q5.2) H9 := hP
    replace hD : va_D A (modW g a q5.2) := pq_adr hD (ad_X7 _ _)
    clear hk
    generalize H9 = H at hP hS ⊢
    obtain ⟨q7, e6, hf⟩ := pq_bind hf
    refine pq_cVi S (c_X7_counts l g a q5.2 q5.1 q7.1 q7.2 e6) vv_X7_118 hK hP hD hS hA rfl rfl rfl rfl rfl hl.1 (Nat.le_of_ble_eq_true rfl) dX7_deletes_20 (by decide) (by decide) ⟨Nat.le_refl _, Nat.le_refl _⟩ (fun H9 locs hk hP1 hS => ?_)
    replace hP := hP1
    replace hP : va_P g.1 pq_cl (modW g a q7.2) H9 := hP
    replace hD : va_D A (modW g a q7.2) := pq_adr hD (ad_X7 _ _)
    clear hk
    generalize H9 = H at hP hS ⊢
    obtain ⟨h8, h9⟩ := pq_pair hf
    exact hend _ _ _ _ _ dX7_deletes_23 rfl h8 (by rw [← h9]; exact hP) hS
  · replace hf := pq_ifn h3 hf
    refine lv_iconst (v := 4) hx hb dX7_deletes_10 (by decide) ?_
    refine lv_goto (tgt := 23) hx hb dX7_deletes_11 (by decide) ?_
    obtain ⟨h8, h9⟩ := pq_pair hf
    exact hend _ _ _ _ _ dX7_deletes_23 rfl h8 (by rw [← h9]; exact hP) hS
def f_X7_delete (T : ModS) (p1 : Int32) : Option (Int32 × (ModS)) :=
    (f_X7_begins T).bind fun q2 =>
    (f_X7_deletes q2 p1).bind fun q4 =>
    (f_X7_ends q4.2 q4.1 0 0 0 1).bind fun q6 =>
    some (q6.1, q6.2)
set_option maxHeartbeats 4000000 in
set_option maxRecDepth 100000 in
theorem c_X7_delete (l : Launch) (g : pq_g) (a : Nat → Nat) (T : ModS) (p1 : Int32) (r : Int32) (T1 : ModS) (hf : f_X7_delete T p1 = some (r, T1)) : pq_Mi l yX7_delete cX7_delete 2 .int 7 g (modW g a T) [.ref (a 0), .int p1] r (modW g a T1) := by
  rw [f_X7_delete] at hf
  refine pq_Mi.of (own := RX7) (by decide) rfl (Nat.le_of_ble_eq_true rfl) rfl ?_
  intro p e s m below meth c ls Q A S hP hK hD hS hA hl hend
  obtain ⟨hx, hb, hml, hown, hts⟩ := id S
  refine lv_aload_n hx hb dX7_delete_0 rfl (lv_at hl 0 rfl) ?_
  obtain ⟨q2, e1, hf⟩ := pq_bind hf
  refine pq_cVv S (c_X7_begins l g a T q2 e1) vv_X7_121 hK hP hD hS hA rfl rfl rfl rfl rfl hl.1 (Nat.le_of_ble_eq_true rfl) dX7_delete_1 (by decide) (by decide) ⟨Nat.le_refl _, Nat.le_refl _⟩ (fun H9 locs hk hP1 hS => ?_)
  replace hP := hP1
  replace hP : va_P g.1 pq_cl (modW g a q2) H9 := hP
  replace hD : va_D A (modW g a q2) := pq_adr hD (ad_X7 _ _)
  clear hk
  generalize H9 = H at hP hS ⊢
  refine lv_aload_n hx hb dX7_delete_4 rfl (lv_at hl 0 rfl) ?_
  refine lv_aload_n hx hb dX7_delete_5 rfl (lv_at hl 0 rfl) ?_
  refine lv_iload_n hx hb dX7_delete_6 rfl (lv_at hl 1 rfl) ?_
  obtain ⟨q4, e3, hf⟩ := pq_bind hf
  refine pq_cVi S (c_X7_deletes l g a q2 p1 q4.1 q4.2 e3) vv_X7_134 hK hP hD hS hA rfl rfl rfl rfl rfl hl.1 (Nat.le_of_ble_eq_true rfl) dX7_delete_7 (by decide) (by decide) ⟨Nat.le_refl _, Nat.le_refl _⟩ (fun H9 locs hk hP1 hS => ?_)
  replace hP := hP1
  replace hP : va_P g.1 pq_cl (modW g a q4.2) H9 := hP
  replace hD : va_D A (modW g a q4.2) := pq_adr hD (ad_X7 _ _)
  clear hk
  generalize H9 = H at hP hS ⊢
  refine lv_iconst (v := 0) hx hb dX7_delete_10 (by decide) ?_
  refine lv_iconst (v := 0) hx hb dX7_delete_11 (by decide) ?_
  refine lv_iconst (v := 0) hx hb dX7_delete_12 (by decide) ?_
  refine lv_iconst (v := 1) hx hb dX7_delete_13 (by decide) ?_
  obtain ⟨q6, e5, hf⟩ := pq_bind hf
  refine pq_cVi S (c_X7_ends l g a q4.2 q4.1 0 0 0 1 q6.1 q6.2 e5) vv_X7_127 hK hP hD hS hA rfl rfl rfl rfl rfl hl.1 (Nat.le_of_ble_eq_true rfl) dX7_delete_14 (by decide) (by decide) ⟨Nat.le_refl _, Nat.le_refl _⟩ (fun H9 locs hk hP1 hS => ?_)
  replace hP := hP1
  replace hP : va_P g.1 pq_cl (modW g a q6.2) H9 := hP
  replace hD : va_D A (modW g a q6.2) := pq_adr hD (ad_X7 _ _)
  clear hk
  generalize H9 = H at hP hS ⊢
  obtain ⟨h8, h9⟩ := pq_pair hf
  exact hend _ _ _ _ _ dX7_delete_17 rfl h8 (by rw [← h9]; exact hP) hS
def f_X7_prefers (T : ModS) (p1 : Int32) (p2 : Int32) : Option (Int32 × (ModS)) :=
    (f_X7_find T p1).bind fun q2 =>
    if 0 ≤ q2 then
      (f_X7_isNumber p2).bind fun q5 =>
      if q5 = 0 then
        some (2, T)
      else
        (f_X7_depth T q2).bind fun q8 =>
        if (((2 + (2 * q2)) + 1) < 0 ∨ 770 ≤ ((2 + (2 * q2)) + 1).toNatClampNeg) then none
        else
          (f_X7_depth (T.1, (upd T.2.1 ((2 + (2 * q2)) + 1).toNatClampNeg p2), T.2.2.1, T.2.2.2.1, T.2.2.2.2.1, T.2.2.2.2.2.1, T.2.2.2.2.2.2.1, T.2.2.2.2.2.2.2.1, T.2.2.2.2.2.2.2.2.1, T.2.2.2.2.2.2.2.2.2.1, T.2.2.2.2.2.2.2.2.2.2.1, T.2.2.2.2.2.2.2.2.2.2.2.1, T.2.2.2.2.2.2.2.2.2.2.2.2.1, T.2.2.2.2.2.2.2.2.2.2.2.2.2.1, T.2.2.2.2.2.2.2.2.2.2.2.2.2.2.1, T.2.2.2.2.2.2.2.2.2.2.2.2.2.2.2.1, T.2.2.2.2.2.2.2.2.2.2.2.2.2.2.2.2) q2).bind fun q11 =>
          if 0 ≤ (q11 - q8) then
            (f_X7_counts (T.1, (upd T.2.1 ((2 + (2 * q2)) + 1).toNatClampNeg p2), T.2.2.1, T.2.2.2.1, T.2.2.2.2.1, T.2.2.2.2.2.1, T.2.2.2.2.2.2.1, T.2.2.2.2.2.2.2.1, T.2.2.2.2.2.2.2.2.1, T.2.2.2.2.2.2.2.2.2.1, T.2.2.2.2.2.2.2.2.2.2.1, T.2.2.2.2.2.2.2.2.2.2.2.1, T.2.2.2.2.2.2.2.2.2.2.2.2.1, T.2.2.2.2.2.2.2.2.2.2.2.2.2.1, T.2.2.2.2.2.2.2.2.2.2.2.2.2.2.1, T.2.2.2.2.2.2.2.2.2.2.2.2.2.2.2.1, T.2.2.2.2.2.2.2.2.2.2.2.2.2.2.2.2) (q11 - q8)).bind fun q14 =>
            some (q14.1, q14.2)
          else
            (f_X7_counts (T.1, (upd T.2.1 ((2 + (2 * q2)) + 1).toNatClampNeg p2), T.2.2.1, T.2.2.2.1, T.2.2.2.2.1, T.2.2.2.2.2.1, T.2.2.2.2.2.2.1, T.2.2.2.2.2.2.2.1, T.2.2.2.2.2.2.2.2.1, T.2.2.2.2.2.2.2.2.2.1, T.2.2.2.2.2.2.2.2.2.2.1, T.2.2.2.2.2.2.2.2.2.2.2.1, T.2.2.2.2.2.2.2.2.2.2.2.2.1, T.2.2.2.2.2.2.2.2.2.2.2.2.2.1, T.2.2.2.2.2.2.2.2.2.2.2.2.2.2.1, T.2.2.2.2.2.2.2.2.2.2.2.2.2.2.2.1, T.2.2.2.2.2.2.2.2.2.2.2.2.2.2.2.2) (-(q11 - q8))).bind fun q16 =>
            some (q16.1, q16.2)
    else
      some (4, T)
set_option maxHeartbeats 4000000 in
set_option maxRecDepth 100000 in
theorem c_X7_prefers (l : Launch) (g : pq_g) (a : Nat → Nat) (T : ModS) (p1 : Int32) (p2 : Int32) (r : Int32) (T1 : ModS) (hf : f_X7_prefers T p1 p2 = some (r, T1)) : pq_Mi l yX7_prefers cX7_prefers 6 .int 6 g (modW g a T) [.ref (a 0), .int p1, .int p2] r (modW g a T1) := by
  rw [f_X7_prefers] at hf
  refine pq_Mi.of (own := RX7) (by decide) rfl (Nat.le_of_ble_eq_true rfl) rfl ?_
  intro p e s m below meth c ls Q A S hP hK hD hS hA hl hend
  obtain ⟨hx, hb, hml, hown, hts⟩ := id S
  refine lv_aload_n hx hb dX7_prefers_0 rfl (lv_at hl 0 rfl) ?_
  refine lv_iload_n hx hb dX7_prefers_1 rfl (lv_at hl 1 rfl) ?_
  obtain ⟨q2, e1, hf⟩ := pq_bind hf
  refine pq_cV S (c_X7_find l g a T p1 q2 e1) vv_X7_112 hK hP rfl rfl rfl rfl rfl hl.1 (Nat.le_of_ble_eq_true rfl) dX7_prefers_2 (by decide) (by decide) ⟨Nat.le_refl _, Nat.le_refl _⟩ ?_
  refine lv_istore_n (lv' := [(3, .int q2), (0, .ref (a 0)), (1, .int p1), (2, .int p2)]) hx hb dX7_prefers_5 rfl hl (by decide) rfl (fun ls hl => ?_)
  refine lv_iload_n hx hb dX7_prefers_6 rfl (lv_at hl 0 rfl) ?_
  refine lv_if_ge (tgt := 12) hx hb dX7_prefers_7 (by decide) (fun h3 => ?_) (fun h3 => ?_)
  · replace hf := pq_ifp h3 hf
    refine lv_iload_n hx hb dX7_prefers_12 rfl (lv_at hl 3 rfl) ?_
    obtain ⟨q5, e4, hf⟩ := pq_bind hf
    refine pq_cS S (c_X7_isNumber l g p2 q5 e4) vs_X7_108 hK (hP.sub [] rfl) rfl rfl hl.1 (Nat.le_of_ble_eq_true rfl) dX7_prefers_13 (by decide) (by decide) ⟨Nat.le_refl _, Nat.le_refl _⟩ ?_
    refine lv_if_ne (tgt := 21) hx hb dX7_prefers_16 (by decide) (fun h6 => ?_) (fun h6 => ?_)
    · replace hf := pq_ifn h6 hf
      refine lv_aload_n hx hb dX7_prefers_21 rfl (lv_at hl 1 rfl) ?_
      refine lv_iload_n hx hb dX7_prefers_22 rfl (lv_at hl 0 rfl) ?_
      obtain ⟨q8, e7, hf⟩ := pq_bind hf
      refine pq_cV S (c_X7_depth l g a T q2 q8 e7) vv_X7_83 hK hP rfl rfl rfl rfl rfl hl.1 (Nat.le_of_ble_eq_true rfl) dX7_prefers_23 (by decide) (by decide) ⟨Nat.le_refl _, Nat.le_refl _⟩ ?_
      refine lv_istore (lv' := [(4, .int q8), (3, .int q2), (0, .ref (a 0)), (1, .int p1), (2, .int p2)]) hx hb dX7_prefers_26 hl (by decide) rfl (fun ls hl => ?_)
      refine lv_aload_n hx hb dX7_prefers_28 rfl (lv_at hl 2 rfl) ?_
      refine pq_get S hK hP inX7 0 rfl rfl 1 (by decide) fl_X7_9 rfl (v := .ref (a 1)) rfl dX7_prefers_29 ?_
      refine lv_iconst (v := 2) hx hb dX7_prefers_32 (by decide) ?_
      refine lv_iconst (v := 2) hx hb dX7_prefers_33 (by decide) ?_
      refine lv_iload_n hx hb dX7_prefers_34 rfl (lv_at hl 1 rfl) ?_
      refine lv_imul hx hb dX7_prefers_35 ?_
      refine lv_iadd hx hb dX7_prefers_36 ?_
      refine lv_iconst (v := 1) hx hb dX7_prefers_37 (by decide) ?_
      refine lv_iadd hx hb dX7_prefers_38 ?_
      refine lv_iload_n hx hb dX7_prefers_39 rfl (lv_at hl 4 rfl) ?_
      by_cases h9 : (((2 + (2 * q2)) + 1) < 0 ∨ 770 ≤ ((2 + (2 * q2)) + 1).toNatClampNeg)
      · exact absurd (pq_ifp h9 hf) (fun h9 => by cases h9)
      replace hf := pq_ifn h9 hf
      refine va_iast hx hb hK.1 hP hD hS 1 0 rfl rfl h9 dX7_prefers_40 (fun H locs hP _ hS => ?_)
      replace hP : va_P g.1 pq_cl (modW g a (T.1, (upd T.2.1 ((2 + (2 * q2)) + 1).toNatClampNeg p2), T.2.2.1, T.2.2.2.1, T.2.2.2.2.1, T.2.2.2.2.2.1, T.2.2.2.2.2.2.1, T.2.2.2.2.2.2.2.1, T.2.2.2.2.2.2.2.2.1, T.2.2.2.2.2.2.2.2.2.1, T.2.2.2.2.2.2.2.2.2.2.1, T.2.2.2.2.2.2.2.2.2.2.2.1, T.2.2.2.2.2.2.2.2.2.2.2.2.1, T.2.2.2.2.2.2.2.2.2.2.2.2.2.1, T.2.2.2.2.2.2.2.2.2.2.2.2.2.2.1, T.2.2.2.2.2.2.2.2.2.2.2.2.2.2.2.1, T.2.2.2.2.2.2.2.2.2.2.2.2.2.2.2.2)) H := hP
      replace hD : va_D A (modW g a (T.1, (upd T.2.1 ((2 + (2 * q2)) + 1).toNatClampNeg p2), T.2.2.1, T.2.2.2.1, T.2.2.2.2.1, T.2.2.2.2.2.1, T.2.2.2.2.2.2.1, T.2.2.2.2.2.2.2.1, T.2.2.2.2.2.2.2.2.1, T.2.2.2.2.2.2.2.2.2.1, T.2.2.2.2.2.2.2.2.2.2.1, T.2.2.2.2.2.2.2.2.2.2.2.1, T.2.2.2.2.2.2.2.2.2.2.2.2.1, T.2.2.2.2.2.2.2.2.2.2.2.2.2.1, T.2.2.2.2.2.2.2.2.2.2.2.2.2.2.1, T.2.2.2.2.2.2.2.2.2.2.2.2.2.2.2.1, T.2.2.2.2.2.2.2.2.2.2.2.2.2.2.2.2)) := pq_adr hD (ad_X7 _ _)
      refine lv_aload_n hx hb dX7_prefers_41 rfl (lv_at hl 2 rfl) ?_
      refine lv_iload_n hx hb dX7_prefers_42 rfl (lv_at hl 1 rfl) ?_
      obtain ⟨q11, e10, hf⟩ := pq_bind hf
      refine pq_cV S (c_X7_depth l g a (T.1, (upd T.2.1 ((2 + (2 * q2)) + 1).toNatClampNeg p2), T.2.2.1, T.2.2.2.1, T.2.2.2.2.1, T.2.2.2.2.2.1, T.2.2.2.2.2.2.1, T.2.2.2.2.2.2.2.1, T.2.2.2.2.2.2.2.2.1, T.2.2.2.2.2.2.2.2.2.1, T.2.2.2.2.2.2.2.2.2.2.1, T.2.2.2.2.2.2.2.2.2.2.2.1, T.2.2.2.2.2.2.2.2.2.2.2.2.1, T.2.2.2.2.2.2.2.2.2.2.2.2.2.1, T.2.2.2.2.2.2.2.2.2.2.2.2.2.2.1, T.2.2.2.2.2.2.2.2.2.2.2.2.2.2.2.1, T.2.2.2.2.2.2.2.2.2.2.2.2.2.2.2.2) q2 q11 e10) vv_X7_83 hK hP rfl rfl rfl rfl rfl hl.1 (Nat.le_of_ble_eq_true rfl) dX7_prefers_43 (by decide) (by decide) ⟨Nat.le_refl _, Nat.le_refl _⟩ ?_
      refine lv_iload hx hb dX7_prefers_46 (lv_at hl 0 rfl) ?_
      refine lv_isub hx hb dX7_prefers_48 ?_
      refine lv_istore (lv' := [(5, .int (q11 - q8)), (4, .int q8), (3, .int q2), (0, .ref (a 0)), (1, .int p1), (2, .int p2)]) hx hb dX7_prefers_49 hl (by decide) rfl (fun ls hl => ?_)
      refine lv_aload_n hx hb dX7_prefers_51 rfl (lv_at hl 3 rfl) ?_
      refine lv_iload hx hb dX7_prefers_52 (lv_at hl 0 rfl) ?_
      refine lv_if_ge (tgt := 63) hx hb dX7_prefers_54 (by decide) (fun h12 => ?_) (fun h12 => ?_)
      · replace hf := pq_ifp h12 hf
        refine lv_iload hx hb dX7_prefers_63 (lv_at hl 0 rfl) ?_
        obtain ⟨q14, e13, hf⟩ := pq_bind hf
        refine pq_cVi S (c_X7_counts l g a (T.1, (upd T.2.1 ((2 + (2 * q2)) + 1).toNatClampNeg p2), T.2.2.1, T.2.2.2.1, T.2.2.2.2.1, T.2.2.2.2.2.1, T.2.2.2.2.2.2.1, T.2.2.2.2.2.2.2.1, T.2.2.2.2.2.2.2.2.1, T.2.2.2.2.2.2.2.2.2.1, T.2.2.2.2.2.2.2.2.2.2.1, T.2.2.2.2.2.2.2.2.2.2.2.1, T.2.2.2.2.2.2.2.2.2.2.2.2.1, T.2.2.2.2.2.2.2.2.2.2.2.2.2.1, T.2.2.2.2.2.2.2.2.2.2.2.2.2.2.1, T.2.2.2.2.2.2.2.2.2.2.2.2.2.2.2.1, T.2.2.2.2.2.2.2.2.2.2.2.2.2.2.2.2) (q11 - q8) q14.1 q14.2 e13) vv_X7_118 hK hP hD hS hA rfl rfl rfl rfl rfl hl.1 (Nat.le_of_ble_eq_true rfl) dX7_prefers_65 (by decide) (by decide) ⟨Nat.le_refl _, Nat.le_refl _⟩ (fun H9 locs hk hP1 hS => ?_)
        replace hP := hP1
        replace hP : va_P g.1 pq_cl (modW g a q14.2) H9 := hP
        replace hD : va_D A (modW g a q14.2) := pq_adr hD (ad_X7 _ _)
        clear hk
        generalize H9 = H at hP hS ⊢
        obtain ⟨h8, h9⟩ := pq_pair hf
        exact hend _ _ _ _ _ dX7_prefers_68 rfl h8 (by rw [← h9]; exact hP) hS
      · replace hf := pq_ifn h12 hf
        refine lv_iload hx hb dX7_prefers_57 (lv_at hl 0 rfl) ?_
        refine lv_ineg hx hb dX7_prefers_59 ?_
        refine lv_goto (tgt := 65) hx hb dX7_prefers_60 (by decide) ?_
        obtain ⟨q16, e15, hf⟩ := pq_bind hf
        refine pq_cVi S (c_X7_counts l g a (T.1, (upd T.2.1 ((2 + (2 * q2)) + 1).toNatClampNeg p2), T.2.2.1, T.2.2.2.1, T.2.2.2.2.1, T.2.2.2.2.2.1, T.2.2.2.2.2.2.1, T.2.2.2.2.2.2.2.1, T.2.2.2.2.2.2.2.2.1, T.2.2.2.2.2.2.2.2.2.1, T.2.2.2.2.2.2.2.2.2.2.1, T.2.2.2.2.2.2.2.2.2.2.2.1, T.2.2.2.2.2.2.2.2.2.2.2.2.1, T.2.2.2.2.2.2.2.2.2.2.2.2.2.1, T.2.2.2.2.2.2.2.2.2.2.2.2.2.2.1, T.2.2.2.2.2.2.2.2.2.2.2.2.2.2.2.1, T.2.2.2.2.2.2.2.2.2.2.2.2.2.2.2.2) (-(q11 - q8)) q16.1 q16.2 e15) vv_X7_118 hK hP hD hS hA rfl rfl rfl rfl rfl hl.1 (Nat.le_of_ble_eq_true rfl) dX7_prefers_65 (by decide) (by decide) ⟨Nat.le_refl _, Nat.le_refl _⟩ (fun H9 locs hk hP1 hS => ?_)
        replace hP := hP1
        replace hP : va_P g.1 pq_cl (modW g a q16.2) H9 := hP
        replace hD : va_D A (modW g a q16.2) := pq_adr hD (ad_X7 _ _)
        clear hk
        generalize H9 = H at hP hS ⊢
        obtain ⟨h8, h9⟩ := pq_pair hf
        exact hend _ _ _ _ _ dX7_prefers_68 rfl h8 (by rw [← h9]; exact hP) hS
    · replace hf := pq_ifp h6 hf
      refine lv_iconst (v := 2) hx hb dX7_prefers_19 (by decide) ?_
      obtain ⟨h8, h9⟩ := pq_pair hf
      exact hend _ _ _ _ _ dX7_prefers_20 rfl h8 (by rw [← h9]; exact hP) hS
  · replace hf := pq_ifn h3 hf
    refine lv_iconst (v := 4) hx hb dX7_prefers_10 (by decide) ?_
    obtain ⟨h8, h9⟩ := pq_pair hf
    exact hend _ _ _ _ _ dX7_prefers_11 rfl h8 (by rw [← h9]; exact hP) hS
def f_X7_changePriority (T : ModS) (p1 : Int32) (p2 : Int32) : Option (Int32 × (ModS)) :=
    (f_X7_begins T).bind fun q2 =>
    (f_X7_prefers q2 p1 p2).bind fun q4 =>
    (f_X7_ends q4.2 q4.1 0 2 3 1).bind fun q6 =>
    some (q6.1, q6.2)
set_option maxHeartbeats 4000000 in
set_option maxRecDepth 100000 in
theorem c_X7_changePriority (l : Launch) (g : pq_g) (a : Nat → Nat) (T : ModS) (p1 : Int32) (p2 : Int32) (r : Int32) (T1 : ModS) (hf : f_X7_changePriority T p1 p2 = some (r, T1)) : pq_Mi l yX7_changePriority cX7_changePriority 3 .int 7 g (modW g a T) [.ref (a 0), .int p1, .int p2] r (modW g a T1) := by
  rw [f_X7_changePriority] at hf
  refine pq_Mi.of (own := RX7) (by decide) rfl (Nat.le_of_ble_eq_true rfl) rfl ?_
  intro p e s m below meth c ls Q A S hP hK hD hS hA hl hend
  obtain ⟨hx, hb, hml, hown, hts⟩ := id S
  refine lv_aload_n hx hb dX7_changePriority_0 rfl (lv_at hl 0 rfl) ?_
  obtain ⟨q2, e1, hf⟩ := pq_bind hf
  refine pq_cVv S (c_X7_begins l g a T q2 e1) vv_X7_121 hK hP hD hS hA rfl rfl rfl rfl rfl hl.1 (Nat.le_of_ble_eq_true rfl) dX7_changePriority_1 (by decide) (by decide) ⟨Nat.le_refl _, Nat.le_refl _⟩ (fun H9 locs hk hP1 hS => ?_)
  replace hP := hP1
  replace hP : va_P g.1 pq_cl (modW g a q2) H9 := hP
  replace hD : va_D A (modW g a q2) := pq_adr hD (ad_X7 _ _)
  clear hk
  generalize H9 = H at hP hS ⊢
  refine lv_aload_n hx hb dX7_changePriority_4 rfl (lv_at hl 0 rfl) ?_
  refine lv_aload_n hx hb dX7_changePriority_5 rfl (lv_at hl 0 rfl) ?_
  refine lv_iload_n hx hb dX7_changePriority_6 rfl (lv_at hl 1 rfl) ?_
  refine lv_iload_n hx hb dX7_changePriority_7 rfl (lv_at hl 2 rfl) ?_
  obtain ⟨q4, e3, hf⟩ := pq_bind hf
  refine pq_cVi S (c_X7_prefers l g a q2 p1 p2 q4.1 q4.2 e3) vv_X7_137 hK hP hD hS hA rfl rfl rfl rfl rfl hl.1 (Nat.le_of_ble_eq_true rfl) dX7_changePriority_8 (by decide) (by decide) ⟨Nat.le_refl _, Nat.le_refl _⟩ (fun H9 locs hk hP1 hS => ?_)
  replace hP := hP1
  replace hP : va_P g.1 pq_cl (modW g a q4.2) H9 := hP
  replace hD : va_D A (modW g a q4.2) := pq_adr hD (ad_X7 _ _)
  clear hk
  generalize H9 = H at hP hS ⊢
  refine lv_iconst (v := 0) hx hb dX7_changePriority_11 (by decide) ?_
  refine lv_iconst (v := 2) hx hb dX7_changePriority_12 (by decide) ?_
  refine lv_iconst (v := 3) hx hb dX7_changePriority_13 (by decide) ?_
  refine lv_iconst (v := 1) hx hb dX7_changePriority_14 (by decide) ?_
  obtain ⟨q6, e5, hf⟩ := pq_bind hf
  refine pq_cVi S (c_X7_ends l g a q4.2 q4.1 0 2 3 1 q6.1 q6.2 e5) vv_X7_127 hK hP hD hS hA rfl rfl rfl rfl rfl hl.1 (Nat.le_of_ble_eq_true rfl) dX7_changePriority_15 (by decide) (by decide) ⟨Nat.le_refl _, Nat.le_refl _⟩ (fun H9 locs hk hP1 hS => ?_)
  replace hP := hP1
  replace hP : va_P g.1 pq_cl (modW g a q6.2) H9 := hP
  replace hD : va_D A (modW g a q6.2) := pq_adr hD (ad_X7 _ _)
  clear hk
  generalize H9 = H at hP hS ⊢
  obtain ⟨h8, h9⟩ := pq_pair hf
  exact hend _ _ _ _ _ dX7_changePriority_18 rfl h8 (by rw [← h9]; exact hP) hS
def f_X7_moves (T : ModS) (p1 : Int32) (p2 : Int32) : Option (Int32 × (ModS)) :=
    (f_X7_find T p1).bind fun q2 =>
    if 0 ≤ q2 then
      (f_X7_isNumber p2).bind fun q5 =>
      if q5 = 0 then
        some (2, T)
      else
        (f_X7_find T p2).bind fun q8 =>
        if q8 < 0 then
          if 0 ≤ q8 then
            (f_X7_priority T q8).bind fun q12 =>
            (f_X7_rejects T 0 2 q12).bind fun q14 =>
            if q14.1 = 0 then
              (f_X7_priority q14.2 q2).bind fun q17 =>
              (f_X7_takesOut q14.2 q2).bind fun q19 =>
              (f_X7_putsIn q19.2 p2 q17).bind fun q21 =>
              (f_X7_counts q21.2 (q19.1 + q21.1)).bind fun q23 =>
              some (q23.1, q23.2)
            else
              some (3, q14.2)
          else
            (f_X7_rejects T 0 2 0).bind fun q25 =>
            if q25.1 = 0 then
              (f_X7_priority q25.2 q2).bind fun q28 =>
              (f_X7_takesOut q25.2 q2).bind fun q30 =>
              (f_X7_putsIn q30.2 p2 q28).bind fun q32 =>
              (f_X7_counts q32.2 (q30.1 + q32.1)).bind fun q34 =>
              some (q34.1, q34.2)
            else
              some (3, q25.2)
        else
          if 0 ≤ q8 then
            (f_X7_priority T q8).bind fun q37 =>
            (f_X7_rejects T 1 2 q37).bind fun q39 =>
            if q39.1 = 0 then
              (f_X7_priority q39.2 q2).bind fun q42 =>
              (f_X7_takesOut q39.2 q2).bind fun q44 =>
              (f_X7_putsIn q44.2 p2 q42).bind fun q46 =>
              (f_X7_counts q46.2 (q44.1 + q46.1)).bind fun q48 =>
              some (q48.1, q48.2)
            else
              some (3, q39.2)
          else
            (f_X7_rejects T 1 2 0).bind fun q50 =>
            if q50.1 = 0 then
              (f_X7_priority q50.2 q2).bind fun q53 =>
              (f_X7_takesOut q50.2 q2).bind fun q55 =>
              (f_X7_putsIn q55.2 p2 q53).bind fun q57 =>
              (f_X7_counts q57.2 (q55.1 + q57.1)).bind fun q59 =>
              some (q59.1, q59.2)
            else
              some (3, q50.2)
    else
      some (4, T)
set_option maxHeartbeats 4000000 in
set_option maxRecDepth 100000 in
theorem c_X7_moves (l : Launch) (g : pq_g) (a : Nat → Nat) (T : ModS) (p1 : Int32) (p2 : Int32) (r : Int32) (T1 : ModS) (hf : f_X7_moves T p1 p2 = some (r, T1)) : pq_Mi l yX7_moves cX7_moves 7 .int 6 g (modW g a T) [.ref (a 0), .int p1, .int p2] r (modW g a T1) := by
  rw [f_X7_moves] at hf
  refine pq_Mi.of (own := RX7) (by decide) rfl (Nat.le_of_ble_eq_true rfl) rfl ?_
  intro p e s m below meth c ls Q A S hP hK hD hS hA hl hend
  obtain ⟨hx, hb, hml, hown, hts⟩ := id S
  refine lv_aload_n hx hb dX7_moves_0 rfl (lv_at hl 0 rfl) ?_
  refine lv_iload_n hx hb dX7_moves_1 rfl (lv_at hl 1 rfl) ?_
  obtain ⟨q2, e1, hf⟩ := pq_bind hf
  refine pq_cV S (c_X7_find l g a T p1 q2 e1) vv_X7_112 hK hP rfl rfl rfl rfl rfl hl.1 (Nat.le_of_ble_eq_true rfl) dX7_moves_2 (by decide) (by decide) ⟨Nat.le_refl _, Nat.le_refl _⟩ ?_
  refine lv_istore_n (lv' := [(3, .int q2), (0, .ref (a 0)), (1, .int p1), (2, .int p2)]) hx hb dX7_moves_5 rfl hl (by decide) rfl (fun ls hl => ?_)
  refine lv_iload_n hx hb dX7_moves_6 rfl (lv_at hl 0 rfl) ?_
  refine lv_if_ge (tgt := 12) hx hb dX7_moves_7 (by decide) (fun h3 => ?_) (fun h3 => ?_)
  · replace hf := pq_ifp h3 hf
    refine lv_iload_n hx hb dX7_moves_12 rfl (lv_at hl 3 rfl) ?_
    obtain ⟨q5, e4, hf⟩ := pq_bind hf
    refine pq_cS S (c_X7_isNumber l g p2 q5 e4) vs_X7_108 hK (hP.sub [] rfl) rfl rfl hl.1 (Nat.le_of_ble_eq_true rfl) dX7_moves_13 (by decide) (by decide) ⟨Nat.le_refl _, Nat.le_refl _⟩ ?_
    refine lv_if_ne (tgt := 21) hx hb dX7_moves_16 (by decide) (fun h6 => ?_) (fun h6 => ?_)
    · replace hf := pq_ifn h6 hf
      refine lv_aload_n hx hb dX7_moves_21 rfl (lv_at hl 1 rfl) ?_
      refine lv_iload_n hx hb dX7_moves_22 rfl (lv_at hl 3 rfl) ?_
      obtain ⟨q8, e7, hf⟩ := pq_bind hf
      refine pq_cV S (c_X7_find l g a T p2 q8 e7) vv_X7_112 hK hP rfl rfl rfl rfl rfl hl.1 (Nat.le_of_ble_eq_true rfl) dX7_moves_23 (by decide) (by decide) ⟨Nat.le_refl _, Nat.le_refl _⟩ ?_
      refine lv_istore (lv' := [(4, .int q8), (3, .int q2), (0, .ref (a 0)), (1, .int p1), (2, .int p2)]) hx hb dX7_moves_26 hl (by decide) rfl (fun ls hl => ?_)
      refine lv_aload_n hx hb dX7_moves_28 rfl (lv_at hl 2 rfl) ?_
      refine lv_iload hx hb dX7_moves_29 (lv_at hl 0 rfl) ?_
      refine lv_if_lt (tgt := 38) hx hb dX7_moves_31 (by decide) (fun h9 => ?_) (fun h9 => ?_)
      · replace hf := pq_ifp h9 hf
        refine lv_iconst (v := 0) hx hb dX7_moves_38 (by decide) ?_
        refine lv_iconst (v := 2) hx hb dX7_moves_39 (by decide) ?_
        refine lv_iload hx hb dX7_moves_40 (lv_at hl 0 rfl) ?_
        refine lv_if_ge (tgt := 49) hx hb dX7_moves_42 (by decide) (fun h10 => ?_) (fun h10 => ?_)
        · replace hf := pq_ifp h10 hf
          refine lv_aload_n hx hb dX7_moves_49 rfl (lv_at hl 2 rfl) ?_
          refine lv_iload hx hb dX7_moves_50 (lv_at hl 0 rfl) ?_
          obtain ⟨q12, e11, hf⟩ := pq_bind hf
          refine pq_cV S (c_X7_priority l g a T q8 q12 e11) vv_X7_64 hK hP rfl rfl rfl rfl rfl hl.1 (Nat.le_of_ble_eq_true rfl) dX7_moves_52 (by decide) (by decide) ⟨Nat.le_refl _, Nat.le_refl _⟩ ?_
          obtain ⟨q14, e13, hf⟩ := pq_bind hf
          refine pq_cVi S (c_X7_rejects l g a T 0 2 q12 q14.1 q14.2 e13) vv_X7_104 hK hP hD hS hA rfl rfl rfl rfl rfl hl.1 (Nat.le_of_ble_eq_true rfl) dX7_moves_55 (by decide) (by decide) ⟨Nat.le_refl _, Nat.le_refl _⟩ (fun H9 locs hk hP1 hS => ?_)
          replace hP := hP1
          replace hP : va_P g.1 pq_cl (modW g a q14.2) H9 := hP
          replace hD : va_D A (modW g a q14.2) := pq_adr hD (ad_X7 _ _)
          clear hk
          generalize H9 = H at hP hS ⊢
          refine lv_if_eq (tgt := 63) hx hb dX7_moves_58 (by decide) (fun h15 => ?_) (fun h15 => ?_)
          · replace hf := pq_ifp h15 hf
            refine lv_aload_n hx hb dX7_moves_63 rfl (lv_at hl 2 rfl) ?_
            refine lv_iload_n hx hb dX7_moves_64 rfl (lv_at hl 1 rfl) ?_
            obtain ⟨q17, e16, hf⟩ := pq_bind hf
            refine pq_cV S (c_X7_priority l g a q14.2 q2 q17 e16) vv_X7_64 hK hP rfl rfl rfl rfl rfl hl.1 (Nat.le_of_ble_eq_true rfl) dX7_moves_65 (by decide) (by decide) ⟨Nat.le_refl _, Nat.le_refl _⟩ ?_
            refine lv_istore (lv' := [(5, .int q17), (4, .int q8), (3, .int q2), (0, .ref (a 0)), (1, .int p1), (2, .int p2)]) hx hb dX7_moves_68 hl (by decide) rfl (fun ls hl => ?_)
            refine lv_aload_n hx hb dX7_moves_70 rfl (lv_at hl 3 rfl) ?_
            refine lv_iload_n hx hb dX7_moves_71 rfl (lv_at hl 2 rfl) ?_
            obtain ⟨q19, e18, hf⟩ := pq_bind hf
            refine pq_cVi S (c_X7_takesOut l g a q14.2 q2 q19.1 q19.2 e18) vv_X7_131 hK hP hD hS hA rfl rfl rfl rfl rfl hl.1 (Nat.le_of_ble_eq_true rfl) dX7_moves_72 (by decide) (by decide) ⟨Nat.le_refl _, Nat.le_refl _⟩ (fun H9 locs hk hP1 hS => ?_)
            replace hP := hP1
            replace hP : va_P g.1 pq_cl (modW g a q19.2) H9 := hP
            replace hD : va_D A (modW g a q19.2) := pq_adr hD (ad_X7 _ _)
            clear hk
            generalize H9 = H at hP hS ⊢
            refine lv_istore (lv' := [(6, .int q19.1), (5, .int q17), (4, .int q8), (3, .int q2), (0, .ref (a 0)), (1, .int p1), (2, .int p2)]) hx hb dX7_moves_75 hl (by decide) rfl (fun ls hl => ?_)
            refine lv_aload_n hx hb dX7_moves_77 rfl (lv_at hl 4 rfl) ?_
            refine lv_iload hx hb dX7_moves_78 (lv_at hl 0 rfl) ?_
            refine lv_aload_n hx hb dX7_moves_80 rfl (lv_at hl 4 rfl) ?_
            refine lv_iload_n hx hb dX7_moves_81 rfl (lv_at hl 6 rfl) ?_
            refine lv_iload hx hb dX7_moves_82 (lv_at hl 1 rfl) ?_
            obtain ⟨q21, e20, hf⟩ := pq_bind hf
            refine pq_cVi S (c_X7_putsIn l g a q19.2 p2 q17 q21.1 q21.2 e20) vv_X7_115 hK hP hD hS hA rfl rfl rfl rfl rfl hl.1 (Nat.le_of_ble_eq_true rfl) dX7_moves_84 (by decide) (by decide) ⟨Nat.le_refl _, Nat.le_refl _⟩ (fun H9 locs hk hP1 hS => ?_)
            replace hP := hP1
            replace hP : va_P g.1 pq_cl (modW g a q21.2) H9 := hP
            replace hD : va_D A (modW g a q21.2) := pq_adr hD (ad_X7 _ _)
            clear hk
            generalize H9 = H at hP hS ⊢
            refine lv_iadd hx hb dX7_moves_87 ?_
            obtain ⟨q23, e22, hf⟩ := pq_bind hf
            refine pq_cVi S (c_X7_counts l g a q21.2 (q19.1 + q21.1) q23.1 q23.2 e22) vv_X7_118 hK hP hD hS hA rfl rfl rfl rfl rfl hl.1 (Nat.le_of_ble_eq_true rfl) dX7_moves_88 (by decide) (by decide) ⟨Nat.le_refl _, Nat.le_refl _⟩ (fun H9 locs hk hP1 hS => ?_)
            replace hP := hP1
            replace hP : va_P g.1 pq_cl (modW g a q23.2) H9 := hP
            replace hD : va_D A (modW g a q23.2) := pq_adr hD (ad_X7 _ _)
            clear hk
            generalize H9 = H at hP hS ⊢
            obtain ⟨h8, h9⟩ := pq_pair hf
            exact hend _ _ _ _ _ dX7_moves_91 rfl h8 (by rw [← h9]; exact hP) hS
          · replace hf := pq_ifn h15 hf
            refine lv_iconst (v := 3) hx hb dX7_moves_61 (by decide) ?_
            obtain ⟨h8, h9⟩ := pq_pair hf
            exact hend _ _ _ _ _ dX7_moves_62 rfl h8 (by rw [← h9]; exact hP) hS
        · replace hf := pq_ifn h10 hf
          refine lv_iconst (v := 0) hx hb dX7_moves_45 (by decide) ?_
          refine lv_goto (tgt := 55) hx hb dX7_moves_46 (by decide) ?_
          obtain ⟨q25, e24, hf⟩ := pq_bind hf
          refine pq_cVi S (c_X7_rejects l g a T 0 2 0 q25.1 q25.2 e24) vv_X7_104 hK hP hD hS hA rfl rfl rfl rfl rfl hl.1 (Nat.le_of_ble_eq_true rfl) dX7_moves_55 (by decide) (by decide) ⟨Nat.le_refl _, Nat.le_refl _⟩ (fun H9 locs hk hP1 hS => ?_)
          replace hP := hP1
          replace hP : va_P g.1 pq_cl (modW g a q25.2) H9 := hP
          replace hD : va_D A (modW g a q25.2) := pq_adr hD (ad_X7 _ _)
          clear hk
          generalize H9 = H at hP hS ⊢
          refine lv_if_eq (tgt := 63) hx hb dX7_moves_58 (by decide) (fun h26 => ?_) (fun h26 => ?_)
          · replace hf := pq_ifp h26 hf
            refine lv_aload_n hx hb dX7_moves_63 rfl (lv_at hl 2 rfl) ?_
            refine lv_iload_n hx hb dX7_moves_64 rfl (lv_at hl 1 rfl) ?_
            obtain ⟨q28, e27, hf⟩ := pq_bind hf
            refine pq_cV S (c_X7_priority l g a q25.2 q2 q28 e27) vv_X7_64 hK hP rfl rfl rfl rfl rfl hl.1 (Nat.le_of_ble_eq_true rfl) dX7_moves_65 (by decide) (by decide) ⟨Nat.le_refl _, Nat.le_refl _⟩ ?_
            refine lv_istore (lv' := [(5, .int q28), (4, .int q8), (3, .int q2), (0, .ref (a 0)), (1, .int p1), (2, .int p2)]) hx hb dX7_moves_68 hl (by decide) rfl (fun ls hl => ?_)
            refine lv_aload_n hx hb dX7_moves_70 rfl (lv_at hl 3 rfl) ?_
            refine lv_iload_n hx hb dX7_moves_71 rfl (lv_at hl 2 rfl) ?_
            obtain ⟨q30, e29, hf⟩ := pq_bind hf
            refine pq_cVi S (c_X7_takesOut l g a q25.2 q2 q30.1 q30.2 e29) vv_X7_131 hK hP hD hS hA rfl rfl rfl rfl rfl hl.1 (Nat.le_of_ble_eq_true rfl) dX7_moves_72 (by decide) (by decide) ⟨Nat.le_refl _, Nat.le_refl _⟩ (fun H9 locs hk hP1 hS => ?_)
            replace hP := hP1
            replace hP : va_P g.1 pq_cl (modW g a q30.2) H9 := hP
            replace hD : va_D A (modW g a q30.2) := pq_adr hD (ad_X7 _ _)
            clear hk
            generalize H9 = H at hP hS ⊢
            refine lv_istore (lv' := [(6, .int q30.1), (5, .int q28), (4, .int q8), (3, .int q2), (0, .ref (a 0)), (1, .int p1), (2, .int p2)]) hx hb dX7_moves_75 hl (by decide) rfl (fun ls hl => ?_)
            refine lv_aload_n hx hb dX7_moves_77 rfl (lv_at hl 4 rfl) ?_
            refine lv_iload hx hb dX7_moves_78 (lv_at hl 0 rfl) ?_
            refine lv_aload_n hx hb dX7_moves_80 rfl (lv_at hl 4 rfl) ?_
            refine lv_iload_n hx hb dX7_moves_81 rfl (lv_at hl 6 rfl) ?_
            refine lv_iload hx hb dX7_moves_82 (lv_at hl 1 rfl) ?_
            obtain ⟨q32, e31, hf⟩ := pq_bind hf
            refine pq_cVi S (c_X7_putsIn l g a q30.2 p2 q28 q32.1 q32.2 e31) vv_X7_115 hK hP hD hS hA rfl rfl rfl rfl rfl hl.1 (Nat.le_of_ble_eq_true rfl) dX7_moves_84 (by decide) (by decide) ⟨Nat.le_refl _, Nat.le_refl _⟩ (fun H9 locs hk hP1 hS => ?_)
            replace hP := hP1
            replace hP : va_P g.1 pq_cl (modW g a q32.2) H9 := hP
            replace hD : va_D A (modW g a q32.2) := pq_adr hD (ad_X7 _ _)
            clear hk
            generalize H9 = H at hP hS ⊢
            refine lv_iadd hx hb dX7_moves_87 ?_
            obtain ⟨q34, e33, hf⟩ := pq_bind hf
            refine pq_cVi S (c_X7_counts l g a q32.2 (q30.1 + q32.1) q34.1 q34.2 e33) vv_X7_118 hK hP hD hS hA rfl rfl rfl rfl rfl hl.1 (Nat.le_of_ble_eq_true rfl) dX7_moves_88 (by decide) (by decide) ⟨Nat.le_refl _, Nat.le_refl _⟩ (fun H9 locs hk hP1 hS => ?_)
            replace hP := hP1
            replace hP : va_P g.1 pq_cl (modW g a q34.2) H9 := hP
            replace hD : va_D A (modW g a q34.2) := pq_adr hD (ad_X7 _ _)
            clear hk
            generalize H9 = H at hP hS ⊢
            obtain ⟨h8, h9⟩ := pq_pair hf
            exact hend _ _ _ _ _ dX7_moves_91 rfl h8 (by rw [← h9]; exact hP) hS
          · replace hf := pq_ifn h26 hf
            refine lv_iconst (v := 3) hx hb dX7_moves_61 (by decide) ?_
            obtain ⟨h8, h9⟩ := pq_pair hf
            exact hend _ _ _ _ _ dX7_moves_62 rfl h8 (by rw [← h9]; exact hP) hS
      · replace hf := pq_ifn h9 hf
        refine lv_iconst (v := 1) hx hb dX7_moves_34 (by decide) ?_
        refine lv_goto (tgt := 39) hx hb dX7_moves_35 (by decide) ?_
        refine lv_iconst (v := 2) hx hb dX7_moves_39 (by decide) ?_
        refine lv_iload hx hb dX7_moves_40 (lv_at hl 0 rfl) ?_
        refine lv_if_ge (tgt := 49) hx hb dX7_moves_42 (by decide) (fun h35 => ?_) (fun h35 => ?_)
        · replace hf := pq_ifp h35 hf
          refine lv_aload_n hx hb dX7_moves_49 rfl (lv_at hl 2 rfl) ?_
          refine lv_iload hx hb dX7_moves_50 (lv_at hl 0 rfl) ?_
          obtain ⟨q37, e36, hf⟩ := pq_bind hf
          refine pq_cV S (c_X7_priority l g a T q8 q37 e36) vv_X7_64 hK hP rfl rfl rfl rfl rfl hl.1 (Nat.le_of_ble_eq_true rfl) dX7_moves_52 (by decide) (by decide) ⟨Nat.le_refl _, Nat.le_refl _⟩ ?_
          obtain ⟨q39, e38, hf⟩ := pq_bind hf
          refine pq_cVi S (c_X7_rejects l g a T 1 2 q37 q39.1 q39.2 e38) vv_X7_104 hK hP hD hS hA rfl rfl rfl rfl rfl hl.1 (Nat.le_of_ble_eq_true rfl) dX7_moves_55 (by decide) (by decide) ⟨Nat.le_refl _, Nat.le_refl _⟩ (fun H9 locs hk hP1 hS => ?_)
          replace hP := hP1
          replace hP : va_P g.1 pq_cl (modW g a q39.2) H9 := hP
          replace hD : va_D A (modW g a q39.2) := pq_adr hD (ad_X7 _ _)
          clear hk
          generalize H9 = H at hP hS ⊢
          refine lv_if_eq (tgt := 63) hx hb dX7_moves_58 (by decide) (fun h40 => ?_) (fun h40 => ?_)
          · replace hf := pq_ifp h40 hf
            refine lv_aload_n hx hb dX7_moves_63 rfl (lv_at hl 2 rfl) ?_
            refine lv_iload_n hx hb dX7_moves_64 rfl (lv_at hl 1 rfl) ?_
            obtain ⟨q42, e41, hf⟩ := pq_bind hf
            refine pq_cV S (c_X7_priority l g a q39.2 q2 q42 e41) vv_X7_64 hK hP rfl rfl rfl rfl rfl hl.1 (Nat.le_of_ble_eq_true rfl) dX7_moves_65 (by decide) (by decide) ⟨Nat.le_refl _, Nat.le_refl _⟩ ?_
            refine lv_istore (lv' := [(5, .int q42), (4, .int q8), (3, .int q2), (0, .ref (a 0)), (1, .int p1), (2, .int p2)]) hx hb dX7_moves_68 hl (by decide) rfl (fun ls hl => ?_)
            refine lv_aload_n hx hb dX7_moves_70 rfl (lv_at hl 3 rfl) ?_
            refine lv_iload_n hx hb dX7_moves_71 rfl (lv_at hl 2 rfl) ?_
            obtain ⟨q44, e43, hf⟩ := pq_bind hf
            refine pq_cVi S (c_X7_takesOut l g a q39.2 q2 q44.1 q44.2 e43) vv_X7_131 hK hP hD hS hA rfl rfl rfl rfl rfl hl.1 (Nat.le_of_ble_eq_true rfl) dX7_moves_72 (by decide) (by decide) ⟨Nat.le_refl _, Nat.le_refl _⟩ (fun H9 locs hk hP1 hS => ?_)
            replace hP := hP1
            replace hP : va_P g.1 pq_cl (modW g a q44.2) H9 := hP
            replace hD : va_D A (modW g a q44.2) := pq_adr hD (ad_X7 _ _)
            clear hk
            generalize H9 = H at hP hS ⊢
            refine lv_istore (lv' := [(6, .int q44.1), (5, .int q42), (4, .int q8), (3, .int q2), (0, .ref (a 0)), (1, .int p1), (2, .int p2)]) hx hb dX7_moves_75 hl (by decide) rfl (fun ls hl => ?_)
            refine lv_aload_n hx hb dX7_moves_77 rfl (lv_at hl 4 rfl) ?_
            refine lv_iload hx hb dX7_moves_78 (lv_at hl 0 rfl) ?_
            refine lv_aload_n hx hb dX7_moves_80 rfl (lv_at hl 4 rfl) ?_
            refine lv_iload_n hx hb dX7_moves_81 rfl (lv_at hl 6 rfl) ?_
            refine lv_iload hx hb dX7_moves_82 (lv_at hl 1 rfl) ?_
            obtain ⟨q46, e45, hf⟩ := pq_bind hf
            refine pq_cVi S (c_X7_putsIn l g a q44.2 p2 q42 q46.1 q46.2 e45) vv_X7_115 hK hP hD hS hA rfl rfl rfl rfl rfl hl.1 (Nat.le_of_ble_eq_true rfl) dX7_moves_84 (by decide) (by decide) ⟨Nat.le_refl _, Nat.le_refl _⟩ (fun H9 locs hk hP1 hS => ?_)
            replace hP := hP1
            replace hP : va_P g.1 pq_cl (modW g a q46.2) H9 := hP
            replace hD : va_D A (modW g a q46.2) := pq_adr hD (ad_X7 _ _)
            clear hk
            generalize H9 = H at hP hS ⊢
            refine lv_iadd hx hb dX7_moves_87 ?_
            obtain ⟨q48, e47, hf⟩ := pq_bind hf
            refine pq_cVi S (c_X7_counts l g a q46.2 (q44.1 + q46.1) q48.1 q48.2 e47) vv_X7_118 hK hP hD hS hA rfl rfl rfl rfl rfl hl.1 (Nat.le_of_ble_eq_true rfl) dX7_moves_88 (by decide) (by decide) ⟨Nat.le_refl _, Nat.le_refl _⟩ (fun H9 locs hk hP1 hS => ?_)
            replace hP := hP1
            replace hP : va_P g.1 pq_cl (modW g a q48.2) H9 := hP
            replace hD : va_D A (modW g a q48.2) := pq_adr hD (ad_X7 _ _)
            clear hk
            generalize H9 = H at hP hS ⊢
            obtain ⟨h8, h9⟩ := pq_pair hf
            exact hend _ _ _ _ _ dX7_moves_91 rfl h8 (by rw [← h9]; exact hP) hS
          · replace hf := pq_ifn h40 hf
            refine lv_iconst (v := 3) hx hb dX7_moves_61 (by decide) ?_
            obtain ⟨h8, h9⟩ := pq_pair hf
            exact hend _ _ _ _ _ dX7_moves_62 rfl h8 (by rw [← h9]; exact hP) hS
        · replace hf := pq_ifn h35 hf
          refine lv_iconst (v := 0) hx hb dX7_moves_45 (by decide) ?_
          refine lv_goto (tgt := 55) hx hb dX7_moves_46 (by decide) ?_
          obtain ⟨q50, e49, hf⟩ := pq_bind hf
          refine pq_cVi S (c_X7_rejects l g a T 1 2 0 q50.1 q50.2 e49) vv_X7_104 hK hP hD hS hA rfl rfl rfl rfl rfl hl.1 (Nat.le_of_ble_eq_true rfl) dX7_moves_55 (by decide) (by decide) ⟨Nat.le_refl _, Nat.le_refl _⟩ (fun H9 locs hk hP1 hS => ?_)
          replace hP := hP1
          replace hP : va_P g.1 pq_cl (modW g a q50.2) H9 := hP
          replace hD : va_D A (modW g a q50.2) := pq_adr hD (ad_X7 _ _)
          clear hk
          generalize H9 = H at hP hS ⊢
          refine lv_if_eq (tgt := 63) hx hb dX7_moves_58 (by decide) (fun h51 => ?_) (fun h51 => ?_)
          · replace hf := pq_ifp h51 hf
            refine lv_aload_n hx hb dX7_moves_63 rfl (lv_at hl 2 rfl) ?_
            refine lv_iload_n hx hb dX7_moves_64 rfl (lv_at hl 1 rfl) ?_
            obtain ⟨q53, e52, hf⟩ := pq_bind hf
            refine pq_cV S (c_X7_priority l g a q50.2 q2 q53 e52) vv_X7_64 hK hP rfl rfl rfl rfl rfl hl.1 (Nat.le_of_ble_eq_true rfl) dX7_moves_65 (by decide) (by decide) ⟨Nat.le_refl _, Nat.le_refl _⟩ ?_
            refine lv_istore (lv' := [(5, .int q53), (4, .int q8), (3, .int q2), (0, .ref (a 0)), (1, .int p1), (2, .int p2)]) hx hb dX7_moves_68 hl (by decide) rfl (fun ls hl => ?_)
            refine lv_aload_n hx hb dX7_moves_70 rfl (lv_at hl 3 rfl) ?_
            refine lv_iload_n hx hb dX7_moves_71 rfl (lv_at hl 2 rfl) ?_
            obtain ⟨q55, e54, hf⟩ := pq_bind hf
            refine pq_cVi S (c_X7_takesOut l g a q50.2 q2 q55.1 q55.2 e54) vv_X7_131 hK hP hD hS hA rfl rfl rfl rfl rfl hl.1 (Nat.le_of_ble_eq_true rfl) dX7_moves_72 (by decide) (by decide) ⟨Nat.le_refl _, Nat.le_refl _⟩ (fun H9 locs hk hP1 hS => ?_)
            replace hP := hP1
            replace hP : va_P g.1 pq_cl (modW g a q55.2) H9 := hP
            replace hD : va_D A (modW g a q55.2) := pq_adr hD (ad_X7 _ _)
            clear hk
            generalize H9 = H at hP hS ⊢
            refine lv_istore (lv' := [(6, .int q55.1), (5, .int q53), (4, .int q8), (3, .int q2), (0, .ref (a 0)), (1, .int p1), (2, .int p2)]) hx hb dX7_moves_75 hl (by decide) rfl (fun ls hl => ?_)
            refine lv_aload_n hx hb dX7_moves_77 rfl (lv_at hl 4 rfl) ?_
            refine lv_iload hx hb dX7_moves_78 (lv_at hl 0 rfl) ?_
            refine lv_aload_n hx hb dX7_moves_80 rfl (lv_at hl 4 rfl) ?_
            refine lv_iload_n hx hb dX7_moves_81 rfl (lv_at hl 6 rfl) ?_
            refine lv_iload hx hb dX7_moves_82 (lv_at hl 1 rfl) ?_
            obtain ⟨q57, e56, hf⟩ := pq_bind hf
            refine pq_cVi S (c_X7_putsIn l g a q55.2 p2 q53 q57.1 q57.2 e56) vv_X7_115 hK hP hD hS hA rfl rfl rfl rfl rfl hl.1 (Nat.le_of_ble_eq_true rfl) dX7_moves_84 (by decide) (by decide) ⟨Nat.le_refl _, Nat.le_refl _⟩ (fun H9 locs hk hP1 hS => ?_)
            replace hP := hP1
            replace hP : va_P g.1 pq_cl (modW g a q57.2) H9 := hP
            replace hD : va_D A (modW g a q57.2) := pq_adr hD (ad_X7 _ _)
            clear hk
            generalize H9 = H at hP hS ⊢
            refine lv_iadd hx hb dX7_moves_87 ?_
            obtain ⟨q59, e58, hf⟩ := pq_bind hf
            refine pq_cVi S (c_X7_counts l g a q57.2 (q55.1 + q57.1) q59.1 q59.2 e58) vv_X7_118 hK hP hD hS hA rfl rfl rfl rfl rfl hl.1 (Nat.le_of_ble_eq_true rfl) dX7_moves_88 (by decide) (by decide) ⟨Nat.le_refl _, Nat.le_refl _⟩ (fun H9 locs hk hP1 hS => ?_)
            replace hP := hP1
            replace hP : va_P g.1 pq_cl (modW g a q59.2) H9 := hP
            replace hD : va_D A (modW g a q59.2) := pq_adr hD (ad_X7 _ _)
            clear hk
            generalize H9 = H at hP hS ⊢
            obtain ⟨h8, h9⟩ := pq_pair hf
            exact hend _ _ _ _ _ dX7_moves_91 rfl h8 (by rw [← h9]; exact hP) hS
          · replace hf := pq_ifn h51 hf
            refine lv_iconst (v := 3) hx hb dX7_moves_61 (by decide) ?_
            obtain ⟨h8, h9⟩ := pq_pair hf
            exact hend _ _ _ _ _ dX7_moves_62 rfl h8 (by rw [← h9]; exact hP) hS
    · replace hf := pq_ifp h6 hf
      refine lv_iconst (v := 2) hx hb dX7_moves_19 (by decide) ?_
      obtain ⟨h8, h9⟩ := pq_pair hf
      exact hend _ _ _ _ _ dX7_moves_20 rfl h8 (by rw [← h9]; exact hP) hS
  · replace hf := pq_ifn h3 hf
    refine lv_iconst (v := 4) hx hb dX7_moves_10 (by decide) ?_
    obtain ⟨h8, h9⟩ := pq_pair hf
    exact hend _ _ _ _ _ dX7_moves_11 rfl h8 (by rw [← h9]; exact hP) hS
def f_X7_moveKey (T : ModS) (p1 : Int32) (p2 : Int32) : Option (Int32 × (ModS)) :=
    (f_X7_begins T).bind fun q2 =>
    (f_X7_moves q2 p1 p2).bind fun q4 =>
    (f_X7_ends q4.2 q4.1 0 2 3 1).bind fun q6 =>
    some (q6.1, q6.2)
set_option maxHeartbeats 4000000 in
set_option maxRecDepth 100000 in
theorem c_X7_moveKey (l : Launch) (g : pq_g) (a : Nat → Nat) (T : ModS) (p1 : Int32) (p2 : Int32) (r : Int32) (T1 : ModS) (hf : f_X7_moveKey T p1 p2 = some (r, T1)) : pq_Mi l yX7_moveKey cX7_moveKey 3 .int 7 g (modW g a T) [.ref (a 0), .int p1, .int p2] r (modW g a T1) := by
  rw [f_X7_moveKey] at hf
  refine pq_Mi.of (own := RX7) (by decide) rfl (Nat.le_of_ble_eq_true rfl) rfl ?_
  intro p e s m below meth c ls Q A S hP hK hD hS hA hl hend
  obtain ⟨hx, hb, hml, hown, hts⟩ := id S
  refine lv_aload_n hx hb dX7_moveKey_0 rfl (lv_at hl 0 rfl) ?_
  obtain ⟨q2, e1, hf⟩ := pq_bind hf
  refine pq_cVv S (c_X7_begins l g a T q2 e1) vv_X7_121 hK hP hD hS hA rfl rfl rfl rfl rfl hl.1 (Nat.le_of_ble_eq_true rfl) dX7_moveKey_1 (by decide) (by decide) ⟨Nat.le_refl _, Nat.le_refl _⟩ (fun H9 locs hk hP1 hS => ?_)
  replace hP := hP1
  replace hP : va_P g.1 pq_cl (modW g a q2) H9 := hP
  replace hD : va_D A (modW g a q2) := pq_adr hD (ad_X7 _ _)
  clear hk
  generalize H9 = H at hP hS ⊢
  refine lv_aload_n hx hb dX7_moveKey_4 rfl (lv_at hl 0 rfl) ?_
  refine lv_aload_n hx hb dX7_moveKey_5 rfl (lv_at hl 0 rfl) ?_
  refine lv_iload_n hx hb dX7_moveKey_6 rfl (lv_at hl 1 rfl) ?_
  refine lv_iload_n hx hb dX7_moveKey_7 rfl (lv_at hl 2 rfl) ?_
  obtain ⟨q4, e3, hf⟩ := pq_bind hf
  refine pq_cVi S (c_X7_moves l g a q2 p1 p2 q4.1 q4.2 e3) vv_X7_140 hK hP hD hS hA rfl rfl rfl rfl rfl hl.1 (Nat.le_of_ble_eq_true rfl) dX7_moveKey_8 (by decide) (by decide) ⟨Nat.le_refl _, Nat.le_refl _⟩ (fun H9 locs hk hP1 hS => ?_)
  replace hP := hP1
  replace hP : va_P g.1 pq_cl (modW g a q4.2) H9 := hP
  replace hD : va_D A (modW g a q4.2) := pq_adr hD (ad_X7 _ _)
  clear hk
  generalize H9 = H at hP hS ⊢
  refine lv_iconst (v := 0) hx hb dX7_moveKey_11 (by decide) ?_
  refine lv_iconst (v := 2) hx hb dX7_moveKey_12 (by decide) ?_
  refine lv_iconst (v := 3) hx hb dX7_moveKey_13 (by decide) ?_
  refine lv_iconst (v := 1) hx hb dX7_moveKey_14 (by decide) ?_
  obtain ⟨q6, e5, hf⟩ := pq_bind hf
  refine pq_cVi S (c_X7_ends l g a q4.2 q4.1 0 2 3 1 q6.1 q6.2 e5) vv_X7_127 hK hP hD hS hA rfl rfl rfl rfl rfl hl.1 (Nat.le_of_ble_eq_true rfl) dX7_moveKey_15 (by decide) (by decide) ⟨Nat.le_refl _, Nat.le_refl _⟩ (fun H9 locs hk hP1 hS => ?_)
  replace hP := hP1
  replace hP : va_P g.1 pq_cl (modW g a q6.2) H9 := hP
  replace hD : va_D A (modW g a q6.2) := pq_adr hD (ad_X7 _ _)
  clear hk
  generalize H9 = H at hP hS ⊢
  obtain ⟨h8, h9⟩ := pq_pair hf
  exact hend _ _ _ _ _ dX7_moveKey_18 rfl h8 (by rw [← h9]; exact hP) hS
def f_X7_isRange (p1 : Int32) (p2 : Int32) : Option (Int32) :=
    (f_X7_isNumber p1).bind fun q2 =>
    if q2 = 0 then
      some 0
    else
      (f_X7_isNumber p2).bind fun q5 =>
      if q5 = 0 then
        some 0
      else
        if p2 < p1 then
          some 0
        else
          some 1
set_option maxHeartbeats 4000000 in
set_option maxRecDepth 100000 in
theorem c_X7_isRange (l : Launch) (g : pq_g) (p1 : Int32) (p2 : Int32) (r : Int32) (hf : f_X7_isRange p1 p2 = some r) : pq_R l yX7_isRange cX7_isRange 2 .boolean 3 g ([]) [.int p1, .int p2] r := by
  rw [f_X7_isRange] at hf
  refine pq_R.of (own := RX7) (by decide) rfl (Nat.le_of_ble_eq_true rfl) rfl ?_
  intro p e s m below meth c ls Q S hP hK hl hend
  obtain ⟨hx, hb, hml, hown, hts⟩ := id S
  refine lv_iload_n hx hb dX7_isRange_0 rfl (lv_at hl 0 rfl) ?_
  obtain ⟨q2, e1, hf⟩ := pq_bind hf
  refine pq_cS S (c_X7_isNumber l g p1 q2 e1) vs_X7_108 hK (hP.sub [] rfl) rfl rfl hl.1 (Nat.le_of_ble_eq_true rfl) dX7_isRange_1 (by decide) (by decide) ⟨Nat.le_refl _, Nat.le_refl _⟩ ?_
  refine lv_if_eq (tgt := 23) hx hb dX7_isRange_4 (by decide) (fun h3 => ?_) (fun h3 => ?_)
  · replace hf := pq_ifp h3 hf
    refine lv_iconst (v := 0) hx hb dX7_isRange_23 (by decide) ?_
    exact hend _ _ _ dX7_isRange_24 rfl hf
  · replace hf := pq_ifn h3 hf
    refine lv_iload_n hx hb dX7_isRange_7 rfl (lv_at hl 1 rfl) ?_
    obtain ⟨q5, e4, hf⟩ := pq_bind hf
    refine pq_cS S (c_X7_isNumber l g p2 q5 e4) vs_X7_108 hK (hP.sub [] rfl) rfl rfl hl.1 (Nat.le_of_ble_eq_true rfl) dX7_isRange_8 (by decide) (by decide) ⟨Nat.le_refl _, Nat.le_refl _⟩ ?_
    refine lv_if_eq (tgt := 23) hx hb dX7_isRange_11 (by decide) (fun h6 => ?_) (fun h6 => ?_)
    · replace hf := pq_ifp h6 hf
      refine lv_iconst (v := 0) hx hb dX7_isRange_23 (by decide) ?_
      exact hend _ _ _ dX7_isRange_24 rfl hf
    · replace hf := pq_ifn h6 hf
      refine lv_iload_n hx hb dX7_isRange_14 rfl (lv_at hl 0 rfl) ?_
      refine lv_iload_n hx hb dX7_isRange_15 rfl (lv_at hl 1 rfl) ?_
      refine lv_icmp_gt (tgt := 23) hx hb dX7_isRange_16 (by decide) (fun h7 => ?_) (fun h7 => ?_)
      · replace hf := pq_ifp h7 hf
        refine lv_iconst (v := 0) hx hb dX7_isRange_23 (by decide) ?_
        exact hend _ _ _ dX7_isRange_24 rfl hf
      · replace hf := pq_ifn h7 hf
        refine lv_iconst (v := 1) hx hb dX7_isRange_19 (by decide) ?_
        refine lv_goto (tgt := 24) hx hb dX7_isRange_20 (by decide) ?_
        exact hend _ _ _ dX7_isRange_24 rfl hf
def f_X7_clears_c24 : Nat → ModS → Int32 → Int32 → Int32 → Option (Int32 × (ModS))
  | 0, _, _, _, _ => none
  | n + 1, T, v1, v2, v3 =>
    if v3 < 0 then
      some (0, T)
    else
      (f_X7_key T v3).bind fun q3 =>
      (f_X7_in q3 v1 v2).bind fun q5 =>
      if q5 = 0 then
        f_X7_clears_c24 n T v1 v2 (v3 + (-1))
      else
        (f_X7_shuts T v3).bind fun q8 =>
        f_X7_clears_c24 n (q8.1, q8.2.1, q8.2.2.1, q8.2.2.2.1, (q8.2.2.2.2.1 + 1), q8.2.2.2.2.2.1, q8.2.2.2.2.2.2.1, q8.2.2.2.2.2.2.2.1, q8.2.2.2.2.2.2.2.2.1, q8.2.2.2.2.2.2.2.2.2.1, q8.2.2.2.2.2.2.2.2.2.2.1, q8.2.2.2.2.2.2.2.2.2.2.2.1, q8.2.2.2.2.2.2.2.2.2.2.2.2.1, q8.2.2.2.2.2.2.2.2.2.2.2.2.2.1, q8.2.2.2.2.2.2.2.2.2.2.2.2.2.2.1, q8.2.2.2.2.2.2.2.2.2.2.2.2.2.2.2.1, q8.2.2.2.2.2.2.2.2.2.2.2.2.2.2.2.2) v1 v2 (v3 + (-1))
def f_X7_clears (T : ModS) (p1 : Int32) (p2 : Int32) : Option (Int32 × (ModS)) :=
    (f_X7_isRange p1 p2).bind fun q10 =>
    if q10 = 0 then
      some (2, T)
    else
      f_X7_clears_c24 200 (T.1, T.2.1, T.2.2.1, T.2.2.2.1, 0, T.2.2.2.2.2.1, T.2.2.2.2.2.2.1, T.2.2.2.2.2.2.2.1, T.2.2.2.2.2.2.2.2.1, T.2.2.2.2.2.2.2.2.2.1, T.2.2.2.2.2.2.2.2.2.2.1, T.2.2.2.2.2.2.2.2.2.2.2.1, T.2.2.2.2.2.2.2.2.2.2.2.2.1, T.2.2.2.2.2.2.2.2.2.2.2.2.2.1, T.2.2.2.2.2.2.2.2.2.2.2.2.2.2.1, T.2.2.2.2.2.2.2.2.2.2.2.2.2.2.2.1, T.2.2.2.2.2.2.2.2.2.2.2.2.2.2.2.2) p1 p2 ((T.2.1 (0 : Int32).toNatClampNeg) - 1)
set_option maxHeartbeats 4000000 in
set_option maxRecDepth 100000 in
theorem c_X7_clears (l : Launch) (g : pq_g) (a : Nat → Nat) (T : ModS) (p1 : Int32) (p2 : Int32) (r : Int32) (T1 : ModS) (hf : f_X7_clears T p1 p2 = some (r, T1)) : pq_Mi l yX7_clears cX7_clears 4 .int 4 g (modW g a T) [.ref (a 0), .int p1, .int p2] r (modW g a T1) := by
  rw [f_X7_clears] at hf
  refine pq_Mi.of (own := RX7) (by decide) rfl (Nat.le_of_ble_eq_true rfl) rfl ?_
  intro p e s m below meth c ls Q A S hP hK hD hS hA hl hend
  obtain ⟨hx, hb, hml, hown, hts⟩ := id S
  have B24 : ∀ (n24 : Nat) (T : ModS) (v1 : Int32) (v2 : Int32) (v3 : Int32) (ls : Array Slot) (H : Heap) (locs : List Loc), va_P g.1 pq_cl (modW g a T) H → va_D A (modW g a T) → va_S A s.heap H locs → lv_has ls 4 [(0, .ref (a 0)), (1, .int v1), (2, .int v2), (3, .int v3)] → f_X7_clears_c24 n24 T v1 v2 v3 = some (r, T1) → W p l e (pq_rm 4 0 0) s m ([.ref (a 0), .int p1, .int p2] : List Value).toArray below meth c H locs 0 0 Q (F0 m 24 ls []) := by
    intro n24
    induction n24 with
    | zero =>
      intro T v1 v2 v3 ls H locs hP hD hS hl hf
      exact absurd hf (by simp [f_X7_clears_c24])
    | succ n24 ih24 =>
      intro T v1 v2 v3 ls H locs hP hD hS hl hf
      rw [f_X7_clears_c24] at hf
      refine lv_iload_n hx hb dX7_clears_24 rfl (lv_at hl 3 rfl) ?_
      refine lv_if_lt (tgt := 65) hx hb dX7_clears_25 (by decide) (fun h1 => ?_) (fun h1 => ?_)
      · replace hf := pq_ifp h1 hf
        refine lv_iconst (v := 0) hx hb dX7_clears_65 (by decide) ?_
        obtain ⟨h8, h9⟩ := pq_pair hf
        exact hend _ _ _ _ _ dX7_clears_66 rfl h8 (by rw [← h9]; exact hP) hS
      · replace hf := pq_ifn h1 hf
        refine lv_aload_n hx hb dX7_clears_28 rfl (lv_at hl 0 rfl) ?_
        refine lv_iload_n hx hb dX7_clears_29 rfl (lv_at hl 3 rfl) ?_
        obtain ⟨q3, e2, hf⟩ := pq_bind hf
        refine pq_cV S (c_X7_key l g a T v3 q3 e2) vv_X7_57 hK hP rfl rfl rfl rfl rfl hl.1 (Nat.le_of_ble_eq_true rfl) dX7_clears_30 (by decide) (by decide) ⟨Nat.le_refl _, Nat.le_refl _⟩ ?_
        refine lv_iload_n hx hb dX7_clears_33 rfl (lv_at hl 1 rfl) ?_
        refine lv_iload_n hx hb dX7_clears_34 rfl (lv_at hl 2 rfl) ?_
        obtain ⟨q5, e4, hf⟩ := pq_bind hf
        refine pq_cS S (c_X7_in l g q3 v1 v2 q5 e4) vs_X7_30 hK (hP.sub [] rfl) rfl rfl hl.1 (Nat.le_of_ble_eq_true rfl) dX7_clears_35 (by decide) (by decide) ⟨Nat.le_refl _, Nat.le_refl _⟩ ?_
        refine lv_if_ne (tgt := 44) hx hb dX7_clears_38 (by decide) (fun h6 => ?_) (fun h6 => ?_)
        · replace hf := pq_ifn h6 hf
          refine lv_aload_n hx hb dX7_clears_44 rfl (lv_at hl 0 rfl) ?_
          refine lv_iload_n hx hb dX7_clears_45 rfl (lv_at hl 3 rfl) ?_
          obtain ⟨q8, e7, hf⟩ := pq_bind hf
          refine pq_cVv S (c_X7_shuts l g a T v3 q8 e7) vv_X7_86 hK hP hD hS hA rfl rfl rfl rfl rfl hl.1 (Nat.le_of_ble_eq_true rfl) dX7_clears_46 (by decide) (by decide) ⟨Nat.le_refl _, Nat.le_refl _⟩ (fun H9 locs hk hP1 hS => ?_)
          replace hP := hP1
          replace hP : va_P g.1 pq_cl (modW g a q8) H9 := hP
          replace hD : va_D A (modW g a q8) := pq_adr hD (ad_X7 _ _)
          clear hk
          generalize H9 = H at hP hS ⊢
          refine lv_aload_n hx hb dX7_clears_49 rfl (lv_at hl 0 rfl) ?_
          refine lv_dup hx hb dX7_clears_50 rfl ?_
          refine pq_get S hK hP inX7 0 rfl rfl 4 (by decide) fl_X7_41 rfl (v := .int q8.2.2.2.2.1) rfl dX7_clears_51 ?_
          refine lv_iconst (v := 1) hx hb dX7_clears_54 (by decide) ?_
          refine lv_iadd hx hb dX7_clears_55 ?_
          refine pq_putf S hK hP hD hS inX7 tyX7_ok nmX7 0 rfl rfl 4 (by decide) fl_X7_41 rfl rfl (ty := .int) rfl rfl rfl (Nat.le_of_ble_eq_true rfl) dX7_clears_56 (fun H locs hP hS => ?_)
          replace hP : va_P g.1 pq_cl (modW g a (q8.1, q8.2.1, q8.2.2.1, q8.2.2.2.1, (q8.2.2.2.2.1 + 1), q8.2.2.2.2.2.1, q8.2.2.2.2.2.2.1, q8.2.2.2.2.2.2.2.1, q8.2.2.2.2.2.2.2.2.1, q8.2.2.2.2.2.2.2.2.2.1, q8.2.2.2.2.2.2.2.2.2.2.1, q8.2.2.2.2.2.2.2.2.2.2.2.1, q8.2.2.2.2.2.2.2.2.2.2.2.2.1, q8.2.2.2.2.2.2.2.2.2.2.2.2.2.1, q8.2.2.2.2.2.2.2.2.2.2.2.2.2.2.1, q8.2.2.2.2.2.2.2.2.2.2.2.2.2.2.2.1, q8.2.2.2.2.2.2.2.2.2.2.2.2.2.2.2.2)) H := hP
          replace hD : va_D A (modW g a (q8.1, q8.2.1, q8.2.2.1, q8.2.2.2.1, (q8.2.2.2.2.1 + 1), q8.2.2.2.2.2.1, q8.2.2.2.2.2.2.1, q8.2.2.2.2.2.2.2.1, q8.2.2.2.2.2.2.2.2.1, q8.2.2.2.2.2.2.2.2.2.1, q8.2.2.2.2.2.2.2.2.2.2.1, q8.2.2.2.2.2.2.2.2.2.2.2.1, q8.2.2.2.2.2.2.2.2.2.2.2.2.1, q8.2.2.2.2.2.2.2.2.2.2.2.2.2.1, q8.2.2.2.2.2.2.2.2.2.2.2.2.2.2.1, q8.2.2.2.2.2.2.2.2.2.2.2.2.2.2.2.1, q8.2.2.2.2.2.2.2.2.2.2.2.2.2.2.2.2)) := pq_adr hD (ad_X7 _ _)
          refine lv_iinc (v := (v3 + (-1))) (lv' := [(3, .int (v3 + (-1))), (0, .ref (a 0)), (1, .int v1), (2, .int v2)]) hx hb dX7_clears_59 hl (k := 3) rfl rfl (by decide) rfl (fun ls hl => ?_)
          refine lv_goto (tgt := 24) hx hb dX7_clears_62 (by decide) ?_
          exact ih24 (q8.1, q8.2.1, q8.2.2.1, q8.2.2.2.1, (q8.2.2.2.2.1 + 1), q8.2.2.2.2.2.1, q8.2.2.2.2.2.2.1, q8.2.2.2.2.2.2.2.1, q8.2.2.2.2.2.2.2.2.1, q8.2.2.2.2.2.2.2.2.2.1, q8.2.2.2.2.2.2.2.2.2.2.1, q8.2.2.2.2.2.2.2.2.2.2.2.1, q8.2.2.2.2.2.2.2.2.2.2.2.2.1, q8.2.2.2.2.2.2.2.2.2.2.2.2.2.1, q8.2.2.2.2.2.2.2.2.2.2.2.2.2.2.1, q8.2.2.2.2.2.2.2.2.2.2.2.2.2.2.2.1, q8.2.2.2.2.2.2.2.2.2.2.2.2.2.2.2.2) v1 v2 (v3 + (-1)) ls _ _ hP hD hS (lv_sub hl [1, 2, 3, 0] rfl) hf
        · replace hf := pq_ifp h6 hf
          refine lv_goto (tgt := 59) hx hb dX7_clears_41 (by decide) ?_
          refine lv_iinc (v := (v3 + (-1))) (lv' := [(3, .int (v3 + (-1))), (0, .ref (a 0)), (1, .int v1), (2, .int v2)]) hx hb dX7_clears_59 hl (k := 3) rfl rfl (by decide) rfl (fun ls hl => ?_)
          refine lv_goto (tgt := 24) hx hb dX7_clears_62 (by decide) ?_
          exact ih24 T v1 v2 (v3 + (-1)) ls _ _ hP hD hS (lv_sub hl [1, 2, 3, 0] rfl) hf
  refine lv_iload_n hx hb dX7_clears_0 rfl (lv_at hl 1 rfl) ?_
  refine lv_iload_n hx hb dX7_clears_1 rfl (lv_at hl 2 rfl) ?_
  obtain ⟨q10, e9, hf⟩ := pq_bind hf
  refine pq_cS S (c_X7_isRange l g p1 p2 q10 e9) vs_X7_143 hK (hP.sub [] rfl) rfl rfl hl.1 (Nat.le_of_ble_eq_true rfl) dX7_clears_2 (by decide) (by decide) ⟨Nat.le_refl _, Nat.le_refl _⟩ ?_
  refine lv_if_ne (tgt := 10) hx hb dX7_clears_5 (by decide) (fun h11 => ?_) (fun h11 => ?_)
  · replace hf := pq_ifn h11 hf
    refine lv_aload_n hx hb dX7_clears_10 rfl (lv_at hl 0 rfl) ?_
    refine lv_iconst (v := 0) hx hb dX7_clears_11 (by decide) ?_
    refine pq_putf S hK hP hD hS inX7 tyX7_ok nmX7 0 rfl rfl 4 (by decide) fl_X7_41 rfl rfl (ty := .int) rfl rfl rfl (Nat.le_of_ble_eq_true rfl) dX7_clears_12 (fun H locs hP hS => ?_)
    replace hP : va_P g.1 pq_cl (modW g a (T.1, T.2.1, T.2.2.1, T.2.2.2.1, 0, T.2.2.2.2.2.1, T.2.2.2.2.2.2.1, T.2.2.2.2.2.2.2.1, T.2.2.2.2.2.2.2.2.1, T.2.2.2.2.2.2.2.2.2.1, T.2.2.2.2.2.2.2.2.2.2.1, T.2.2.2.2.2.2.2.2.2.2.2.1, T.2.2.2.2.2.2.2.2.2.2.2.2.1, T.2.2.2.2.2.2.2.2.2.2.2.2.2.1, T.2.2.2.2.2.2.2.2.2.2.2.2.2.2.1, T.2.2.2.2.2.2.2.2.2.2.2.2.2.2.2.1, T.2.2.2.2.2.2.2.2.2.2.2.2.2.2.2.2)) H := hP
    replace hD : va_D A (modW g a (T.1, T.2.1, T.2.2.1, T.2.2.2.1, 0, T.2.2.2.2.2.1, T.2.2.2.2.2.2.1, T.2.2.2.2.2.2.2.1, T.2.2.2.2.2.2.2.2.1, T.2.2.2.2.2.2.2.2.2.1, T.2.2.2.2.2.2.2.2.2.2.1, T.2.2.2.2.2.2.2.2.2.2.2.1, T.2.2.2.2.2.2.2.2.2.2.2.2.1, T.2.2.2.2.2.2.2.2.2.2.2.2.2.1, T.2.2.2.2.2.2.2.2.2.2.2.2.2.2.1, T.2.2.2.2.2.2.2.2.2.2.2.2.2.2.2.1, T.2.2.2.2.2.2.2.2.2.2.2.2.2.2.2.2)) := pq_adr hD (ad_X7 _ _)
    refine lv_aload_n hx hb dX7_clears_15 rfl (lv_at hl 0 rfl) ?_
    refine pq_get S hK hP inX7 0 rfl rfl 1 (by decide) fl_X7_9 rfl (v := .ref (a 1)) rfl dX7_clears_16 ?_
    refine lv_iconst (v := 0) hx hb dX7_clears_19 (by decide) ?_
    refine va_iald hx hb hK.1 hP 1 0 rfl rfl (show ¬ ((0 : Int32) < 0 ∨ 770 ≤ (0 : Int32).toNatClampNeg) by decide) dX7_clears_20 ?_
    refine lv_iconst (v := 1) hx hb dX7_clears_21 (by decide) ?_
    refine lv_isub hx hb dX7_clears_22 ?_
    refine lv_istore_n (lv' := [(3, .int ((T.2.1 (0 : Int32).toNatClampNeg) - 1)), (0, .ref (a 0)), (1, .int p1), (2, .int p2)]) hx hb dX7_clears_23 rfl hl (by decide) rfl (fun ls hl => ?_)
    exact B24 200 (T.1, T.2.1, T.2.2.1, T.2.2.2.1, 0, T.2.2.2.2.2.1, T.2.2.2.2.2.2.1, T.2.2.2.2.2.2.2.1, T.2.2.2.2.2.2.2.2.1, T.2.2.2.2.2.2.2.2.2.1, T.2.2.2.2.2.2.2.2.2.2.1, T.2.2.2.2.2.2.2.2.2.2.2.1, T.2.2.2.2.2.2.2.2.2.2.2.2.1, T.2.2.2.2.2.2.2.2.2.2.2.2.2.1, T.2.2.2.2.2.2.2.2.2.2.2.2.2.2.1, T.2.2.2.2.2.2.2.2.2.2.2.2.2.2.2.1, T.2.2.2.2.2.2.2.2.2.2.2.2.2.2.2.2) p1 p2 ((T.2.1 (0 : Int32).toNatClampNeg) - 1) ls _ _ hP hD hS (lv_sub hl [1, 2, 3, 0] rfl) hf
  · replace hf := pq_ifp h11 hf
    refine lv_iconst (v := 2) hx hb dX7_clears_8 (by decide) ?_
    obtain ⟨h8, h9⟩ := pq_pair hf
    exact hend _ _ _ _ _ dX7_clears_9 rfl h8 (by rw [← h9]; exact hP) hS
def f_X7_deleteRange (T : ModS) (p1 : Int32) (p2 : Int32) : Option (Int32 × (ModS)) :=
    (f_X7_begins T).bind fun q2 =>
    (f_X7_clears q2 p1 p2).bind fun q4 =>
    (f_X7_ends q4.2 q4.1 0 1 0 0).bind fun q6 =>
    some (q6.1, q6.2)
set_option maxHeartbeats 4000000 in
set_option maxRecDepth 100000 in
theorem c_X7_deleteRange (l : Launch) (g : pq_g) (a : Nat → Nat) (T : ModS) (p1 : Int32) (p2 : Int32) (r : Int32) (T1 : ModS) (hf : f_X7_deleteRange T p1 p2 = some (r, T1)) : pq_Mi l yX7_deleteRange cX7_deleteRange 3 .int 5 g (modW g a T) [.ref (a 0), .int p1, .int p2] r (modW g a T1) := by
  rw [f_X7_deleteRange] at hf
  refine pq_Mi.of (own := RX7) (by decide) rfl (Nat.le_of_ble_eq_true rfl) rfl ?_
  intro p e s m below meth c ls Q A S hP hK hD hS hA hl hend
  obtain ⟨hx, hb, hml, hown, hts⟩ := id S
  refine lv_aload_n hx hb dX7_deleteRange_0 rfl (lv_at hl 0 rfl) ?_
  obtain ⟨q2, e1, hf⟩ := pq_bind hf
  refine pq_cVv S (c_X7_begins l g a T q2 e1) vv_X7_121 hK hP hD hS hA rfl rfl rfl rfl rfl hl.1 (Nat.le_of_ble_eq_true rfl) dX7_deleteRange_1 (by decide) (by decide) ⟨Nat.le_refl _, Nat.le_refl _⟩ (fun H9 locs hk hP1 hS => ?_)
  replace hP := hP1
  replace hP : va_P g.1 pq_cl (modW g a q2) H9 := hP
  replace hD : va_D A (modW g a q2) := pq_adr hD (ad_X7 _ _)
  clear hk
  generalize H9 = H at hP hS ⊢
  refine lv_aload_n hx hb dX7_deleteRange_4 rfl (lv_at hl 0 rfl) ?_
  refine lv_aload_n hx hb dX7_deleteRange_5 rfl (lv_at hl 0 rfl) ?_
  refine lv_iload_n hx hb dX7_deleteRange_6 rfl (lv_at hl 1 rfl) ?_
  refine lv_iload_n hx hb dX7_deleteRange_7 rfl (lv_at hl 2 rfl) ?_
  obtain ⟨q4, e3, hf⟩ := pq_bind hf
  refine pq_cVi S (c_X7_clears l g a q2 p1 p2 q4.1 q4.2 e3) vv_X7_146 hK hP hD hS hA rfl rfl rfl rfl rfl hl.1 (Nat.le_of_ble_eq_true rfl) dX7_deleteRange_8 (by decide) (by decide) ⟨Nat.le_refl _, Nat.le_refl _⟩ (fun H9 locs hk hP1 hS => ?_)
  replace hP := hP1
  replace hP : va_P g.1 pq_cl (modW g a q4.2) H9 := hP
  replace hD : va_D A (modW g a q4.2) := pq_adr hD (ad_X7 _ _)
  clear hk
  generalize H9 = H at hP hS ⊢
  refine lv_iconst (v := 0) hx hb dX7_deleteRange_11 (by decide) ?_
  refine lv_iconst (v := 1) hx hb dX7_deleteRange_12 (by decide) ?_
  refine lv_iconst (v := 0) hx hb dX7_deleteRange_13 (by decide) ?_
  refine lv_iconst (v := 0) hx hb dX7_deleteRange_14 (by decide) ?_
  obtain ⟨q6, e5, hf⟩ := pq_bind hf
  refine pq_cVi S (c_X7_ends l g a q4.2 q4.1 0 1 0 0 q6.1 q6.2 e5) vv_X7_127 hK hP hD hS hA rfl rfl rfl rfl rfl hl.1 (Nat.le_of_ble_eq_true rfl) dX7_deleteRange_15 (by decide) (by decide) ⟨Nat.le_refl _, Nat.le_refl _⟩ (fun H9 locs hk hP1 hS => ?_)
  replace hP := hP1
  replace hP : va_P g.1 pq_cl (modW g a q6.2) H9 := hP
  replace hD : va_D A (modW g a q6.2) := pq_adr hD (ad_X7 _ _)
  clear hk
  generalize H9 = H at hP hS ⊢
  obtain ⟨h8, h9⟩ := pq_pair hf
  exact hend _ _ _ _ _ dX7_deleteRange_18 rfl h8 (by rw [← h9]; exact hP) hS
def f_X7_isWindow (p1 : Int32) : Option (Int32) :=
    (f_X7_in p1 0 3).bind fun q2 =>
    if q2 = 0 ∨ q2 = 1 then
      some q2
    else none
set_option maxHeartbeats 4000000 in
set_option maxRecDepth 100000 in
theorem c_X7_isWindow (l : Launch) (g : pq_g) (p1 : Int32) (r : Int32) (hf : f_X7_isWindow p1 = some r) : pq_R l yX7_isWindow cX7_isWindow 1 .boolean 2 g ([]) [.int p1] r := by
  rw [f_X7_isWindow] at hf
  refine pq_R.of (own := RX7) (by decide) rfl (Nat.le_of_ble_eq_true rfl) rfl ?_
  intro p e s m below meth c ls Q S hP hK hl hend
  obtain ⟨hx, hb, hml, hown, hts⟩ := id S
  refine lv_iload_n hx hb dX7_isWindow_0 rfl (lv_at hl 0 rfl) ?_
  refine lv_iconst (v := 0) hx hb dX7_isWindow_1 (by decide) ?_
  refine lv_iconst (v := 3) hx hb dX7_isWindow_2 (by decide) ?_
  obtain ⟨q2, e1, hf⟩ := pq_bind hf
  refine pq_cS S (c_X7_in l g p1 0 3 q2 e1) vs_X7_30 hK (hP.sub [] rfl) rfl rfl hl.1 (Nat.le_of_ble_eq_true rfl) dX7_isWindow_3 (by decide) (by decide) ⟨Nat.le_refl _, Nat.le_refl _⟩ ?_
  by_cases h3 : q2 = 0 ∨ q2 = 1
  case neg => exact absurd (pq_ifn h3 hf) (fun h9 => by cases h9)
  replace hf := pq_ifp h3 hf
  exact hend _ _ _ dX7_isWindow_6 (pq_nb h3) hf
def f_X7_writesWindow (T : ModS) (p1 : Int32) (p2 : Int32) (p3 : Int32) (p4 : Int32) : Option (ModS) :=
    if ((50 + (5 * p1)) < 0 ∨ 770 ≤ (50 + (5 * p1)).toNatClampNeg) then none
    else
      if (((50 + (5 * p1)) + 1) < 0 ∨ 770 ≤ ((50 + (5 * p1)) + 1).toNatClampNeg) then none
      else
        if (((50 + (5 * p1)) + 2) < 0 ∨ 770 ≤ ((50 + (5 * p1)) + 2).toNatClampNeg) then none
        else
          some (T.1, (upd (upd (upd T.2.1 (50 + (5 * p1)).toNatClampNeg p2) ((50 + (5 * p1)) + 1).toNatClampNeg p3) ((50 + (5 * p1)) + 2).toNatClampNeg p4), T.2.2.1, T.2.2.2.1, T.2.2.2.2.1, T.2.2.2.2.2.1, T.2.2.2.2.2.2.1, T.2.2.2.2.2.2.2.1, T.2.2.2.2.2.2.2.2.1, T.2.2.2.2.2.2.2.2.2.1, T.2.2.2.2.2.2.2.2.2.2.1, T.2.2.2.2.2.2.2.2.2.2.2.1, T.2.2.2.2.2.2.2.2.2.2.2.2.1, T.2.2.2.2.2.2.2.2.2.2.2.2.2.1, T.2.2.2.2.2.2.2.2.2.2.2.2.2.2.1, T.2.2.2.2.2.2.2.2.2.2.2.2.2.2.2.1, T.2.2.2.2.2.2.2.2.2.2.2.2.2.2.2.2)
set_option maxHeartbeats 4000000 in
set_option maxRecDepth 100000 in
theorem c_X7_writesWindow (l : Launch) (g : pq_g) (a : Nat → Nat) (T : ModS) (p1 : Int32) (p2 : Int32) (p3 : Int32) (p4 : Int32) (T1 : ModS) (hf : f_X7_writesWindow T p1 p2 p3 p4 = some T1) : pq_Mv l yX7_writesWindow cX7_writesWindow 5 1 g (modW g a T) [.ref (a 0), .int p1, .int p2, .int p3, .int p4] (modW g a T1) := by
  rw [f_X7_writesWindow] at hf
  refine pq_Mv.of (own := RX7) (by decide) rfl (Nat.le_of_ble_eq_true rfl) rfl ?_
  intro p e s m below meth c ls Q A S hP hK hD hS hA hl hend
  obtain ⟨hx, hb, hml, hown, hts⟩ := id S
  refine lv_aload_n hx hb dX7_writesWindow_0 rfl (lv_at hl 0 rfl) ?_
  refine pq_get S hK hP inX7 0 rfl rfl 1 (by decide) fl_X7_9 rfl (v := .ref (a 1)) rfl dX7_writesWindow_1 ?_
  refine lv_bipush (v := 50) hx hb dX7_writesWindow_4 (by decide) ?_
  refine lv_iconst (v := 5) hx hb dX7_writesWindow_6 (by decide) ?_
  refine lv_iload_n hx hb dX7_writesWindow_7 rfl (lv_at hl 1 rfl) ?_
  refine lv_imul hx hb dX7_writesWindow_8 ?_
  refine lv_iadd hx hb dX7_writesWindow_9 ?_
  refine lv_iload_n hx hb dX7_writesWindow_10 rfl (lv_at hl 2 rfl) ?_
  by_cases h1 : ((50 + (5 * p1)) < 0 ∨ 770 ≤ (50 + (5 * p1)).toNatClampNeg)
  · exact absurd (pq_ifp h1 hf) (fun h9 => by cases h9)
  replace hf := pq_ifn h1 hf
  refine va_iast hx hb hK.1 hP hD hS 1 0 rfl rfl h1 dX7_writesWindow_11 (fun H locs hP _ hS => ?_)
  replace hP : va_P g.1 pq_cl (modW g a (T.1, (upd T.2.1 (50 + (5 * p1)).toNatClampNeg p2), T.2.2.1, T.2.2.2.1, T.2.2.2.2.1, T.2.2.2.2.2.1, T.2.2.2.2.2.2.1, T.2.2.2.2.2.2.2.1, T.2.2.2.2.2.2.2.2.1, T.2.2.2.2.2.2.2.2.2.1, T.2.2.2.2.2.2.2.2.2.2.1, T.2.2.2.2.2.2.2.2.2.2.2.1, T.2.2.2.2.2.2.2.2.2.2.2.2.1, T.2.2.2.2.2.2.2.2.2.2.2.2.2.1, T.2.2.2.2.2.2.2.2.2.2.2.2.2.2.1, T.2.2.2.2.2.2.2.2.2.2.2.2.2.2.2.1, T.2.2.2.2.2.2.2.2.2.2.2.2.2.2.2.2)) H := hP
  replace hD : va_D A (modW g a (T.1, (upd T.2.1 (50 + (5 * p1)).toNatClampNeg p2), T.2.2.1, T.2.2.2.1, T.2.2.2.2.1, T.2.2.2.2.2.1, T.2.2.2.2.2.2.1, T.2.2.2.2.2.2.2.1, T.2.2.2.2.2.2.2.2.1, T.2.2.2.2.2.2.2.2.2.1, T.2.2.2.2.2.2.2.2.2.2.1, T.2.2.2.2.2.2.2.2.2.2.2.1, T.2.2.2.2.2.2.2.2.2.2.2.2.1, T.2.2.2.2.2.2.2.2.2.2.2.2.2.1, T.2.2.2.2.2.2.2.2.2.2.2.2.2.2.1, T.2.2.2.2.2.2.2.2.2.2.2.2.2.2.2.1, T.2.2.2.2.2.2.2.2.2.2.2.2.2.2.2.2)) := pq_adr hD (ad_X7 _ _)
  refine lv_aload_n hx hb dX7_writesWindow_12 rfl (lv_at hl 0 rfl) ?_
  refine pq_get S hK hP inX7 0 rfl rfl 1 (by decide) fl_X7_9 rfl (v := .ref (a 1)) rfl dX7_writesWindow_13 ?_
  refine lv_bipush (v := 50) hx hb dX7_writesWindow_16 (by decide) ?_
  refine lv_iconst (v := 5) hx hb dX7_writesWindow_18 (by decide) ?_
  refine lv_iload_n hx hb dX7_writesWindow_19 rfl (lv_at hl 1 rfl) ?_
  refine lv_imul hx hb dX7_writesWindow_20 ?_
  refine lv_iadd hx hb dX7_writesWindow_21 ?_
  refine lv_iconst (v := 1) hx hb dX7_writesWindow_22 (by decide) ?_
  refine lv_iadd hx hb dX7_writesWindow_23 ?_
  refine lv_iload_n hx hb dX7_writesWindow_24 rfl (lv_at hl 3 rfl) ?_
  by_cases h2 : (((50 + (5 * p1)) + 1) < 0 ∨ 770 ≤ ((50 + (5 * p1)) + 1).toNatClampNeg)
  · exact absurd (pq_ifp h2 hf) (fun h9 => by cases h9)
  replace hf := pq_ifn h2 hf
  refine va_iast hx hb hK.1 hP hD hS 1 0 rfl rfl h2 dX7_writesWindow_25 (fun H locs hP _ hS => ?_)
  replace hP : va_P g.1 pq_cl (modW g a (T.1, (upd (upd T.2.1 (50 + (5 * p1)).toNatClampNeg p2) ((50 + (5 * p1)) + 1).toNatClampNeg p3), T.2.2.1, T.2.2.2.1, T.2.2.2.2.1, T.2.2.2.2.2.1, T.2.2.2.2.2.2.1, T.2.2.2.2.2.2.2.1, T.2.2.2.2.2.2.2.2.1, T.2.2.2.2.2.2.2.2.2.1, T.2.2.2.2.2.2.2.2.2.2.1, T.2.2.2.2.2.2.2.2.2.2.2.1, T.2.2.2.2.2.2.2.2.2.2.2.2.1, T.2.2.2.2.2.2.2.2.2.2.2.2.2.1, T.2.2.2.2.2.2.2.2.2.2.2.2.2.2.1, T.2.2.2.2.2.2.2.2.2.2.2.2.2.2.2.1, T.2.2.2.2.2.2.2.2.2.2.2.2.2.2.2.2)) H := hP
  replace hD : va_D A (modW g a (T.1, (upd (upd T.2.1 (50 + (5 * p1)).toNatClampNeg p2) ((50 + (5 * p1)) + 1).toNatClampNeg p3), T.2.2.1, T.2.2.2.1, T.2.2.2.2.1, T.2.2.2.2.2.1, T.2.2.2.2.2.2.1, T.2.2.2.2.2.2.2.1, T.2.2.2.2.2.2.2.2.1, T.2.2.2.2.2.2.2.2.2.1, T.2.2.2.2.2.2.2.2.2.2.1, T.2.2.2.2.2.2.2.2.2.2.2.1, T.2.2.2.2.2.2.2.2.2.2.2.2.1, T.2.2.2.2.2.2.2.2.2.2.2.2.2.1, T.2.2.2.2.2.2.2.2.2.2.2.2.2.2.1, T.2.2.2.2.2.2.2.2.2.2.2.2.2.2.2.1, T.2.2.2.2.2.2.2.2.2.2.2.2.2.2.2.2)) := pq_adr hD (ad_X7 _ _)
  refine lv_aload_n hx hb dX7_writesWindow_26 rfl (lv_at hl 0 rfl) ?_
  refine pq_get S hK hP inX7 0 rfl rfl 1 (by decide) fl_X7_9 rfl (v := .ref (a 1)) rfl dX7_writesWindow_27 ?_
  refine lv_bipush (v := 50) hx hb dX7_writesWindow_30 (by decide) ?_
  refine lv_iconst (v := 5) hx hb dX7_writesWindow_32 (by decide) ?_
  refine lv_iload_n hx hb dX7_writesWindow_33 rfl (lv_at hl 1 rfl) ?_
  refine lv_imul hx hb dX7_writesWindow_34 ?_
  refine lv_iadd hx hb dX7_writesWindow_35 ?_
  refine lv_iconst (v := 2) hx hb dX7_writesWindow_36 (by decide) ?_
  refine lv_iadd hx hb dX7_writesWindow_37 ?_
  refine lv_iload hx hb dX7_writesWindow_38 (lv_at hl 4 rfl) ?_
  by_cases h3 : (((50 + (5 * p1)) + 2) < 0 ∨ 770 ≤ ((50 + (5 * p1)) + 2).toNatClampNeg)
  · exact absurd (pq_ifp h3 hf) (fun h9 => by cases h9)
  replace hf := pq_ifn h3 hf
  refine va_iast hx hb hK.1 hP hD hS 1 0 rfl rfl h3 dX7_writesWindow_40 (fun H locs hP _ hS => ?_)
  replace hP : va_P g.1 pq_cl (modW g a (T.1, (upd (upd (upd T.2.1 (50 + (5 * p1)).toNatClampNeg p2) ((50 + (5 * p1)) + 1).toNatClampNeg p3) ((50 + (5 * p1)) + 2).toNatClampNeg p4), T.2.2.1, T.2.2.2.1, T.2.2.2.2.1, T.2.2.2.2.2.1, T.2.2.2.2.2.2.1, T.2.2.2.2.2.2.2.1, T.2.2.2.2.2.2.2.2.1, T.2.2.2.2.2.2.2.2.2.1, T.2.2.2.2.2.2.2.2.2.2.1, T.2.2.2.2.2.2.2.2.2.2.2.1, T.2.2.2.2.2.2.2.2.2.2.2.2.1, T.2.2.2.2.2.2.2.2.2.2.2.2.2.1, T.2.2.2.2.2.2.2.2.2.2.2.2.2.2.1, T.2.2.2.2.2.2.2.2.2.2.2.2.2.2.2.1, T.2.2.2.2.2.2.2.2.2.2.2.2.2.2.2.2)) H := hP
  replace hD : va_D A (modW g a (T.1, (upd (upd (upd T.2.1 (50 + (5 * p1)).toNatClampNeg p2) ((50 + (5 * p1)) + 1).toNatClampNeg p3) ((50 + (5 * p1)) + 2).toNatClampNeg p4), T.2.2.1, T.2.2.2.1, T.2.2.2.2.1, T.2.2.2.2.2.1, T.2.2.2.2.2.2.1, T.2.2.2.2.2.2.2.1, T.2.2.2.2.2.2.2.2.1, T.2.2.2.2.2.2.2.2.2.1, T.2.2.2.2.2.2.2.2.2.2.1, T.2.2.2.2.2.2.2.2.2.2.2.1, T.2.2.2.2.2.2.2.2.2.2.2.2.1, T.2.2.2.2.2.2.2.2.2.2.2.2.2.1, T.2.2.2.2.2.2.2.2.2.2.2.2.2.2.1, T.2.2.2.2.2.2.2.2.2.2.2.2.2.2.2.1, T.2.2.2.2.2.2.2.2.2.2.2.2.2.2.2.2)) := pq_adr hD (ad_X7 _ _)
  exact hend _ _ _ _ dX7_writesWindow_41 (by rw [← Option.some.inj hf]; exact hP) hS
def f_X7_sets (T : ModS) (p1 : Int32) (p2 : Int32) (p3 : Int32) (p4 : Int32) (p5 : Int32) : Option (Int32 × (ModS)) :=
    (f_X7_isWindow p1).bind fun q2 =>
    if q2 = 0 then
      some (1, T)
    else
      (f_X7_isRange p2 p3).bind fun q5 =>
      if q5 = 0 then
        some (2, T)
      else
        (f_X7_isNumber p4).bind fun q8 =>
        if q8 = 0 then
          some (2, T)
        else
          (f_X7_in p5 1 24).bind fun q11 =>
          if q11 = 0 then
            some (2, T)
          else
            (f_X7_writesWindow T p1 1 p2 p3).bind fun q14 =>
            if (((50 + (5 * p1)) + 3) < 0 ∨ 770 ≤ ((50 + (5 * p1)) + 3).toNatClampNeg) then none
            else
              if (((50 + (5 * p1)) + 4) < 0 ∨ 770 ≤ ((50 + (5 * p1)) + 4).toNatClampNeg) then none
              else
                (f_X7_inWindow (q14.1, (upd (upd q14.2.1 ((50 + (5 * p1)) + 3).toNatClampNeg p4) ((50 + (5 * p1)) + 4).toNatClampNeg p5), q14.2.2.1, q14.2.2.2.1, q14.2.2.2.2.1, q14.2.2.2.2.2.1, q14.2.2.2.2.2.2.1, q14.2.2.2.2.2.2.2.1, q14.2.2.2.2.2.2.2.2.1, q14.2.2.2.2.2.2.2.2.2.1, q14.2.2.2.2.2.2.2.2.2.2.1, q14.2.2.2.2.2.2.2.2.2.2.2.1, q14.2.2.2.2.2.2.2.2.2.2.2.2.1, q14.2.2.2.2.2.2.2.2.2.2.2.2.2.1, q14.2.2.2.2.2.2.2.2.2.2.2.2.2.2.1, q14.2.2.2.2.2.2.2.2.2.2.2.2.2.2.2.1, q14.2.2.2.2.2.2.2.2.2.2.2.2.2.2.2.2) p1).bind fun q18 =>
                if q18 ≤ p5 then
                  (f_X7_rejects (q14.1, (upd (upd q14.2.1 ((50 + (5 * p1)) + 3).toNatClampNeg p4) ((50 + (5 * p1)) + 4).toNatClampNeg p5), q14.2.2.1, q14.2.2.2.1, q18, q14.2.2.2.2.2.1, q14.2.2.2.2.2.2.1, q14.2.2.2.2.2.2.2.1, q14.2.2.2.2.2.2.2.2.1, q14.2.2.2.2.2.2.2.2.2.1, q14.2.2.2.2.2.2.2.2.2.2.1, q14.2.2.2.2.2.2.2.2.2.2.2.1, q14.2.2.2.2.2.2.2.2.2.2.2.2.1, q14.2.2.2.2.2.2.2.2.2.2.2.2.2.1, q14.2.2.2.2.2.2.2.2.2.2.2.2.2.2.1, q14.2.2.2.2.2.2.2.2.2.2.2.2.2.2.2.1, q14.2.2.2.2.2.2.2.2.2.2.2.2.2.2.2.2) 0 3 p1).bind fun q21 =>
                  if q21.1 = 0 then
                    some (0, q21.2)
                  else
                    some (3, q21.2)
                else
                  (f_X7_rejects (q14.1, (upd (upd q14.2.1 ((50 + (5 * p1)) + 3).toNatClampNeg p4) ((50 + (5 * p1)) + 4).toNatClampNeg p5), q14.2.2.1, q14.2.2.2.1, q18, q14.2.2.2.2.2.1, q14.2.2.2.2.2.2.1, q14.2.2.2.2.2.2.2.1, q14.2.2.2.2.2.2.2.2.1, q14.2.2.2.2.2.2.2.2.2.1, q14.2.2.2.2.2.2.2.2.2.2.1, q14.2.2.2.2.2.2.2.2.2.2.2.1, q14.2.2.2.2.2.2.2.2.2.2.2.2.1, q14.2.2.2.2.2.2.2.2.2.2.2.2.2.1, q14.2.2.2.2.2.2.2.2.2.2.2.2.2.2.1, q14.2.2.2.2.2.2.2.2.2.2.2.2.2.2.2.1, q14.2.2.2.2.2.2.2.2.2.2.2.2.2.2.2.2) 1 3 p1).bind fun q24 =>
                  if q24.1 = 0 then
                    some (0, q24.2)
                  else
                    some (3, q24.2)
set_option maxHeartbeats 4000000 in
set_option maxRecDepth 100000 in
theorem c_X7_sets (l : Launch) (g : pq_g) (a : Nat → Nat) (T : ModS) (p1 : Int32) (p2 : Int32) (p3 : Int32) (p4 : Int32) (p5 : Int32) (r : Int32) (T1 : ModS) (hf : f_X7_sets T p1 p2 p3 p4 p5 = some (r, T1)) : pq_Mi l yX7_sets cX7_sets 6 .int 4 g (modW g a T) [.ref (a 0), .int p1, .int p2, .int p3, .int p4, .int p5] r (modW g a T1) := by
  rw [f_X7_sets] at hf
  refine pq_Mi.of (own := RX7) (by decide) rfl (Nat.le_of_ble_eq_true rfl) rfl ?_
  intro p e s m below meth c ls Q A S hP hK hD hS hA hl hend
  obtain ⟨hx, hb, hml, hown, hts⟩ := id S
  refine lv_iload_n hx hb dX7_sets_0 rfl (lv_at hl 1 rfl) ?_
  obtain ⟨q2, e1, hf⟩ := pq_bind hf
  refine pq_cS S (c_X7_isWindow l g p1 q2 e1) vs_X7_149 hK (hP.sub [] rfl) rfl rfl hl.1 (Nat.le_of_ble_eq_true rfl) dX7_sets_1 (by decide) (by decide) ⟨Nat.le_refl _, Nat.le_refl _⟩ ?_
  refine lv_if_ne (tgt := 9) hx hb dX7_sets_4 (by decide) (fun h3 => ?_) (fun h3 => ?_)
  · replace hf := pq_ifn h3 hf
    refine lv_iload_n hx hb dX7_sets_9 rfl (lv_at hl 2 rfl) ?_
    refine lv_iload_n hx hb dX7_sets_10 rfl (lv_at hl 3 rfl) ?_
    obtain ⟨q5, e4, hf⟩ := pq_bind hf
    refine pq_cS S (c_X7_isRange l g p2 p3 q5 e4) vs_X7_143 hK (hP.sub [] rfl) rfl rfl hl.1 (Nat.le_of_ble_eq_true rfl) dX7_sets_11 (by decide) (by decide) ⟨Nat.le_refl _, Nat.le_refl _⟩ ?_
    refine lv_if_eq (tgt := 36) hx hb dX7_sets_14 (by decide) (fun h6 => ?_) (fun h6 => ?_)
    · replace hf := pq_ifp h6 hf
      refine lv_iconst (v := 2) hx hb dX7_sets_36 (by decide) ?_
      obtain ⟨h8, h9⟩ := pq_pair hf
      exact hend _ _ _ _ _ dX7_sets_37 rfl h8 (by rw [← h9]; exact hP) hS
    · replace hf := pq_ifn h6 hf
      refine lv_iload hx hb dX7_sets_17 (lv_at hl 4 rfl) ?_
      obtain ⟨q8, e7, hf⟩ := pq_bind hf
      refine pq_cS S (c_X7_isNumber l g p4 q8 e7) vs_X7_108 hK (hP.sub [] rfl) rfl rfl hl.1 (Nat.le_of_ble_eq_true rfl) dX7_sets_19 (by decide) (by decide) ⟨Nat.le_refl _, Nat.le_refl _⟩ ?_
      refine lv_if_eq (tgt := 36) hx hb dX7_sets_22 (by decide) (fun h9 => ?_) (fun h9 => ?_)
      · replace hf := pq_ifp h9 hf
        refine lv_iconst (v := 2) hx hb dX7_sets_36 (by decide) ?_
        obtain ⟨h8, h9⟩ := pq_pair hf
        exact hend _ _ _ _ _ dX7_sets_37 rfl h8 (by rw [← h9]; exact hP) hS
      · replace hf := pq_ifn h9 hf
        refine lv_iload hx hb dX7_sets_25 (lv_at hl 5 rfl) ?_
        refine lv_iconst (v := 1) hx hb dX7_sets_27 (by decide) ?_
        refine lv_bipush (v := 24) hx hb dX7_sets_28 (by decide) ?_
        obtain ⟨q11, e10, hf⟩ := pq_bind hf
        refine pq_cS S (c_X7_in l g p5 1 24 q11 e10) vs_X7_30 hK (hP.sub [] rfl) rfl rfl hl.1 (Nat.le_of_ble_eq_true rfl) dX7_sets_30 (by decide) (by decide) ⟨Nat.le_refl _, Nat.le_refl _⟩ ?_
        refine lv_if_ne (tgt := 38) hx hb dX7_sets_33 (by decide) (fun h12 => ?_) (fun h12 => ?_)
        · replace hf := pq_ifn h12 hf
          refine lv_aload_n hx hb dX7_sets_38 rfl (lv_at hl 0 rfl) ?_
          refine lv_iload_n hx hb dX7_sets_39 rfl (lv_at hl 1 rfl) ?_
          refine lv_iconst (v := 1) hx hb dX7_sets_40 (by decide) ?_
          refine lv_iload_n hx hb dX7_sets_41 rfl (lv_at hl 2 rfl) ?_
          refine lv_iload_n hx hb dX7_sets_42 rfl (lv_at hl 3 rfl) ?_
          obtain ⟨q14, e13, hf⟩ := pq_bind hf
          refine pq_cVv S (c_X7_writesWindow l g a T p1 1 p2 p3 q14 e13) vv_X7_152 hK hP hD hS hA rfl rfl rfl rfl rfl hl.1 (Nat.le_of_ble_eq_true rfl) dX7_sets_43 (by decide) (by decide) ⟨Nat.le_refl _, Nat.le_refl _⟩ (fun H9 locs hk hP1 hS => ?_)
          replace hP := hP1
          replace hP : va_P g.1 pq_cl (modW g a q14) H9 := hP
          replace hD : va_D A (modW g a q14) := pq_adr hD (ad_X7 _ _)
          clear hk
          generalize H9 = H at hP hS ⊢
          refine lv_aload_n hx hb dX7_sets_46 rfl (lv_at hl 0 rfl) ?_
          refine pq_get S hK hP inX7 0 rfl rfl 1 (by decide) fl_X7_9 rfl (v := .ref (a 1)) rfl dX7_sets_47 ?_
          refine lv_bipush (v := 50) hx hb dX7_sets_50 (by decide) ?_
          refine lv_iconst (v := 5) hx hb dX7_sets_52 (by decide) ?_
          refine lv_iload_n hx hb dX7_sets_53 rfl (lv_at hl 1 rfl) ?_
          refine lv_imul hx hb dX7_sets_54 ?_
          refine lv_iadd hx hb dX7_sets_55 ?_
          refine lv_iconst (v := 3) hx hb dX7_sets_56 (by decide) ?_
          refine lv_iadd hx hb dX7_sets_57 ?_
          refine lv_iload hx hb dX7_sets_58 (lv_at hl 4 rfl) ?_
          by_cases h15 : (((50 + (5 * p1)) + 3) < 0 ∨ 770 ≤ ((50 + (5 * p1)) + 3).toNatClampNeg)
          · exact absurd (pq_ifp h15 hf) (fun h9 => by cases h9)
          replace hf := pq_ifn h15 hf
          refine va_iast hx hb hK.1 hP hD hS 1 0 rfl rfl h15 dX7_sets_60 (fun H locs hP _ hS => ?_)
          replace hP : va_P g.1 pq_cl (modW g a (q14.1, (upd q14.2.1 ((50 + (5 * p1)) + 3).toNatClampNeg p4), q14.2.2.1, q14.2.2.2.1, q14.2.2.2.2.1, q14.2.2.2.2.2.1, q14.2.2.2.2.2.2.1, q14.2.2.2.2.2.2.2.1, q14.2.2.2.2.2.2.2.2.1, q14.2.2.2.2.2.2.2.2.2.1, q14.2.2.2.2.2.2.2.2.2.2.1, q14.2.2.2.2.2.2.2.2.2.2.2.1, q14.2.2.2.2.2.2.2.2.2.2.2.2.1, q14.2.2.2.2.2.2.2.2.2.2.2.2.2.1, q14.2.2.2.2.2.2.2.2.2.2.2.2.2.2.1, q14.2.2.2.2.2.2.2.2.2.2.2.2.2.2.2.1, q14.2.2.2.2.2.2.2.2.2.2.2.2.2.2.2.2)) H := hP
          replace hD : va_D A (modW g a (q14.1, (upd q14.2.1 ((50 + (5 * p1)) + 3).toNatClampNeg p4), q14.2.2.1, q14.2.2.2.1, q14.2.2.2.2.1, q14.2.2.2.2.2.1, q14.2.2.2.2.2.2.1, q14.2.2.2.2.2.2.2.1, q14.2.2.2.2.2.2.2.2.1, q14.2.2.2.2.2.2.2.2.2.1, q14.2.2.2.2.2.2.2.2.2.2.1, q14.2.2.2.2.2.2.2.2.2.2.2.1, q14.2.2.2.2.2.2.2.2.2.2.2.2.1, q14.2.2.2.2.2.2.2.2.2.2.2.2.2.1, q14.2.2.2.2.2.2.2.2.2.2.2.2.2.2.1, q14.2.2.2.2.2.2.2.2.2.2.2.2.2.2.2.1, q14.2.2.2.2.2.2.2.2.2.2.2.2.2.2.2.2)) := pq_adr hD (ad_X7 _ _)
          refine lv_aload_n hx hb dX7_sets_61 rfl (lv_at hl 0 rfl) ?_
          refine pq_get S hK hP inX7 0 rfl rfl 1 (by decide) fl_X7_9 rfl (v := .ref (a 1)) rfl dX7_sets_62 ?_
          refine lv_bipush (v := 50) hx hb dX7_sets_65 (by decide) ?_
          refine lv_iconst (v := 5) hx hb dX7_sets_67 (by decide) ?_
          refine lv_iload_n hx hb dX7_sets_68 rfl (lv_at hl 1 rfl) ?_
          refine lv_imul hx hb dX7_sets_69 ?_
          refine lv_iadd hx hb dX7_sets_70 ?_
          refine lv_iconst (v := 4) hx hb dX7_sets_71 (by decide) ?_
          refine lv_iadd hx hb dX7_sets_72 ?_
          refine lv_iload hx hb dX7_sets_73 (lv_at hl 5 rfl) ?_
          by_cases h16 : (((50 + (5 * p1)) + 4) < 0 ∨ 770 ≤ ((50 + (5 * p1)) + 4).toNatClampNeg)
          · exact absurd (pq_ifp h16 hf) (fun h9 => by cases h9)
          replace hf := pq_ifn h16 hf
          refine va_iast hx hb hK.1 hP hD hS 1 0 rfl rfl h16 dX7_sets_75 (fun H locs hP _ hS => ?_)
          replace hP : va_P g.1 pq_cl (modW g a (q14.1, (upd (upd q14.2.1 ((50 + (5 * p1)) + 3).toNatClampNeg p4) ((50 + (5 * p1)) + 4).toNatClampNeg p5), q14.2.2.1, q14.2.2.2.1, q14.2.2.2.2.1, q14.2.2.2.2.2.1, q14.2.2.2.2.2.2.1, q14.2.2.2.2.2.2.2.1, q14.2.2.2.2.2.2.2.2.1, q14.2.2.2.2.2.2.2.2.2.1, q14.2.2.2.2.2.2.2.2.2.2.1, q14.2.2.2.2.2.2.2.2.2.2.2.1, q14.2.2.2.2.2.2.2.2.2.2.2.2.1, q14.2.2.2.2.2.2.2.2.2.2.2.2.2.1, q14.2.2.2.2.2.2.2.2.2.2.2.2.2.2.1, q14.2.2.2.2.2.2.2.2.2.2.2.2.2.2.2.1, q14.2.2.2.2.2.2.2.2.2.2.2.2.2.2.2.2)) H := hP
          replace hD : va_D A (modW g a (q14.1, (upd (upd q14.2.1 ((50 + (5 * p1)) + 3).toNatClampNeg p4) ((50 + (5 * p1)) + 4).toNatClampNeg p5), q14.2.2.1, q14.2.2.2.1, q14.2.2.2.2.1, q14.2.2.2.2.2.1, q14.2.2.2.2.2.2.1, q14.2.2.2.2.2.2.2.1, q14.2.2.2.2.2.2.2.2.1, q14.2.2.2.2.2.2.2.2.2.1, q14.2.2.2.2.2.2.2.2.2.2.1, q14.2.2.2.2.2.2.2.2.2.2.2.1, q14.2.2.2.2.2.2.2.2.2.2.2.2.1, q14.2.2.2.2.2.2.2.2.2.2.2.2.2.1, q14.2.2.2.2.2.2.2.2.2.2.2.2.2.2.1, q14.2.2.2.2.2.2.2.2.2.2.2.2.2.2.2.1, q14.2.2.2.2.2.2.2.2.2.2.2.2.2.2.2.2)) := pq_adr hD (ad_X7 _ _)
          refine lv_aload_n hx hb dX7_sets_76 rfl (lv_at hl 0 rfl) ?_
          refine lv_aload_n hx hb dX7_sets_77 rfl (lv_at hl 0 rfl) ?_
          refine lv_iload_n hx hb dX7_sets_78 rfl (lv_at hl 1 rfl) ?_
          obtain ⟨q18, e17, hf⟩ := pq_bind hf
          refine pq_cV S (c_X7_inWindow l g a (q14.1, (upd (upd q14.2.1 ((50 + (5 * p1)) + 3).toNatClampNeg p4) ((50 + (5 * p1)) + 4).toNatClampNeg p5), q14.2.2.1, q14.2.2.2.1, q14.2.2.2.2.1, q14.2.2.2.2.2.1, q14.2.2.2.2.2.2.1, q14.2.2.2.2.2.2.2.1, q14.2.2.2.2.2.2.2.2.1, q14.2.2.2.2.2.2.2.2.2.1, q14.2.2.2.2.2.2.2.2.2.2.1, q14.2.2.2.2.2.2.2.2.2.2.2.1, q14.2.2.2.2.2.2.2.2.2.2.2.2.1, q14.2.2.2.2.2.2.2.2.2.2.2.2.2.1, q14.2.2.2.2.2.2.2.2.2.2.2.2.2.2.1, q14.2.2.2.2.2.2.2.2.2.2.2.2.2.2.2.1, q14.2.2.2.2.2.2.2.2.2.2.2.2.2.2.2.2) p1 q18 e17) vv_X7_97 hK hP rfl rfl rfl rfl rfl hl.1 (Nat.le_of_ble_eq_true rfl) dX7_sets_79 (by decide) (by decide) ⟨Nat.le_refl _, Nat.le_refl _⟩ ?_
          refine pq_putf S hK hP hD hS inX7 tyX7_ok nmX7 0 rfl rfl 4 (by decide) fl_X7_41 rfl rfl (ty := .int) rfl rfl rfl (Nat.le_of_ble_eq_true rfl) dX7_sets_82 (fun H locs hP hS => ?_)
          replace hP : va_P g.1 pq_cl (modW g a (q14.1, (upd (upd q14.2.1 ((50 + (5 * p1)) + 3).toNatClampNeg p4) ((50 + (5 * p1)) + 4).toNatClampNeg p5), q14.2.2.1, q14.2.2.2.1, q18, q14.2.2.2.2.2.1, q14.2.2.2.2.2.2.1, q14.2.2.2.2.2.2.2.1, q14.2.2.2.2.2.2.2.2.1, q14.2.2.2.2.2.2.2.2.2.1, q14.2.2.2.2.2.2.2.2.2.2.1, q14.2.2.2.2.2.2.2.2.2.2.2.1, q14.2.2.2.2.2.2.2.2.2.2.2.2.1, q14.2.2.2.2.2.2.2.2.2.2.2.2.2.1, q14.2.2.2.2.2.2.2.2.2.2.2.2.2.2.1, q14.2.2.2.2.2.2.2.2.2.2.2.2.2.2.2.1, q14.2.2.2.2.2.2.2.2.2.2.2.2.2.2.2.2)) H := hP
          replace hD : va_D A (modW g a (q14.1, (upd (upd q14.2.1 ((50 + (5 * p1)) + 3).toNatClampNeg p4) ((50 + (5 * p1)) + 4).toNatClampNeg p5), q14.2.2.1, q14.2.2.2.1, q18, q14.2.2.2.2.2.1, q14.2.2.2.2.2.2.1, q14.2.2.2.2.2.2.2.1, q14.2.2.2.2.2.2.2.2.1, q14.2.2.2.2.2.2.2.2.2.1, q14.2.2.2.2.2.2.2.2.2.2.1, q14.2.2.2.2.2.2.2.2.2.2.2.1, q14.2.2.2.2.2.2.2.2.2.2.2.2.1, q14.2.2.2.2.2.2.2.2.2.2.2.2.2.1, q14.2.2.2.2.2.2.2.2.2.2.2.2.2.2.1, q14.2.2.2.2.2.2.2.2.2.2.2.2.2.2.2.1, q14.2.2.2.2.2.2.2.2.2.2.2.2.2.2.2.2)) := pq_adr hD (ad_X7 _ _)
          refine lv_aload_n hx hb dX7_sets_85 rfl (lv_at hl 0 rfl) ?_
          refine lv_aload_n hx hb dX7_sets_86 rfl (lv_at hl 0 rfl) ?_
          refine pq_get S hK hP inX7 0 rfl rfl 4 (by decide) fl_X7_41 rfl (v := .int q18) rfl dX7_sets_87 ?_
          refine lv_iload hx hb dX7_sets_90 (lv_at hl 5 rfl) ?_
          refine lv_icmp_le (tgt := 99) hx hb dX7_sets_92 (by decide) (fun h19 => ?_) (fun h19 => ?_)
          · replace hf := pq_ifp h19 hf
            refine lv_iconst (v := 0) hx hb dX7_sets_99 (by decide) ?_
            refine lv_iconst (v := 3) hx hb dX7_sets_100 (by decide) ?_
            refine lv_iload_n hx hb dX7_sets_101 rfl (lv_at hl 1 rfl) ?_
            obtain ⟨q21, e20, hf⟩ := pq_bind hf
            refine pq_cVi S (c_X7_rejects l g a (q14.1, (upd (upd q14.2.1 ((50 + (5 * p1)) + 3).toNatClampNeg p4) ((50 + (5 * p1)) + 4).toNatClampNeg p5), q14.2.2.1, q14.2.2.2.1, q18, q14.2.2.2.2.2.1, q14.2.2.2.2.2.2.1, q14.2.2.2.2.2.2.2.1, q14.2.2.2.2.2.2.2.2.1, q14.2.2.2.2.2.2.2.2.2.1, q14.2.2.2.2.2.2.2.2.2.2.1, q14.2.2.2.2.2.2.2.2.2.2.2.1, q14.2.2.2.2.2.2.2.2.2.2.2.2.1, q14.2.2.2.2.2.2.2.2.2.2.2.2.2.1, q14.2.2.2.2.2.2.2.2.2.2.2.2.2.2.1, q14.2.2.2.2.2.2.2.2.2.2.2.2.2.2.2.1, q14.2.2.2.2.2.2.2.2.2.2.2.2.2.2.2.2) 0 3 p1 q21.1 q21.2 e20) vv_X7_104 hK hP hD hS hA rfl rfl rfl rfl rfl hl.1 (Nat.le_of_ble_eq_true rfl) dX7_sets_102 (by decide) (by decide) ⟨Nat.le_refl _, Nat.le_refl _⟩ (fun H9 locs hk hP1 hS => ?_)
            replace hP := hP1
            replace hP : va_P g.1 pq_cl (modW g a q21.2) H9 := hP
            replace hD : va_D A (modW g a q21.2) := pq_adr hD (ad_X7 _ _)
            clear hk
            generalize H9 = H at hP hS ⊢
            refine lv_if_eq (tgt := 112) hx hb dX7_sets_105 (by decide) (fun h22 => ?_) (fun h22 => ?_)
            · replace hf := pq_ifp h22 hf
              refine lv_iconst (v := 0) hx hb dX7_sets_112 (by decide) ?_
              obtain ⟨h8, h9⟩ := pq_pair hf
              exact hend _ _ _ _ _ dX7_sets_113 rfl h8 (by rw [← h9]; exact hP) hS
            · replace hf := pq_ifn h22 hf
              refine lv_iconst (v := 3) hx hb dX7_sets_108 (by decide) ?_
              refine lv_goto (tgt := 113) hx hb dX7_sets_109 (by decide) ?_
              obtain ⟨h8, h9⟩ := pq_pair hf
              exact hend _ _ _ _ _ dX7_sets_113 rfl h8 (by rw [← h9]; exact hP) hS
          · replace hf := pq_ifn h19 hf
            refine lv_iconst (v := 1) hx hb dX7_sets_95 (by decide) ?_
            refine lv_goto (tgt := 100) hx hb dX7_sets_96 (by decide) ?_
            refine lv_iconst (v := 3) hx hb dX7_sets_100 (by decide) ?_
            refine lv_iload_n hx hb dX7_sets_101 rfl (lv_at hl 1 rfl) ?_
            obtain ⟨q24, e23, hf⟩ := pq_bind hf
            refine pq_cVi S (c_X7_rejects l g a (q14.1, (upd (upd q14.2.1 ((50 + (5 * p1)) + 3).toNatClampNeg p4) ((50 + (5 * p1)) + 4).toNatClampNeg p5), q14.2.2.1, q14.2.2.2.1, q18, q14.2.2.2.2.2.1, q14.2.2.2.2.2.2.1, q14.2.2.2.2.2.2.2.1, q14.2.2.2.2.2.2.2.2.1, q14.2.2.2.2.2.2.2.2.2.1, q14.2.2.2.2.2.2.2.2.2.2.1, q14.2.2.2.2.2.2.2.2.2.2.2.1, q14.2.2.2.2.2.2.2.2.2.2.2.2.1, q14.2.2.2.2.2.2.2.2.2.2.2.2.2.1, q14.2.2.2.2.2.2.2.2.2.2.2.2.2.2.1, q14.2.2.2.2.2.2.2.2.2.2.2.2.2.2.2.1, q14.2.2.2.2.2.2.2.2.2.2.2.2.2.2.2.2) 1 3 p1 q24.1 q24.2 e23) vv_X7_104 hK hP hD hS hA rfl rfl rfl rfl rfl hl.1 (Nat.le_of_ble_eq_true rfl) dX7_sets_102 (by decide) (by decide) ⟨Nat.le_refl _, Nat.le_refl _⟩ (fun H9 locs hk hP1 hS => ?_)
            replace hP := hP1
            replace hP : va_P g.1 pq_cl (modW g a q24.2) H9 := hP
            replace hD : va_D A (modW g a q24.2) := pq_adr hD (ad_X7 _ _)
            clear hk
            generalize H9 = H at hP hS ⊢
            refine lv_if_eq (tgt := 112) hx hb dX7_sets_105 (by decide) (fun h25 => ?_) (fun h25 => ?_)
            · replace hf := pq_ifp h25 hf
              refine lv_iconst (v := 0) hx hb dX7_sets_112 (by decide) ?_
              obtain ⟨h8, h9⟩ := pq_pair hf
              exact hend _ _ _ _ _ dX7_sets_113 rfl h8 (by rw [← h9]; exact hP) hS
            · replace hf := pq_ifn h25 hf
              refine lv_iconst (v := 3) hx hb dX7_sets_108 (by decide) ?_
              refine lv_goto (tgt := 113) hx hb dX7_sets_109 (by decide) ?_
              obtain ⟨h8, h9⟩ := pq_pair hf
              exact hend _ _ _ _ _ dX7_sets_113 rfl h8 (by rw [← h9]; exact hP) hS
        · replace hf := pq_ifp h12 hf
          refine lv_iconst (v := 2) hx hb dX7_sets_36 (by decide) ?_
          obtain ⟨h8, h9⟩ := pq_pair hf
          exact hend _ _ _ _ _ dX7_sets_37 rfl h8 (by rw [← h9]; exact hP) hS
  · replace hf := pq_ifp h3 hf
    refine lv_iconst (v := 1) hx hb dX7_sets_7 (by decide) ?_
    obtain ⟨h8, h9⟩ := pq_pair hf
    exact hend _ _ _ _ _ dX7_sets_8 rfl h8 (by rw [← h9]; exact hP) hS
def f_X7_setWindow (T : ModS) (p1 : Int32) (p2 : Int32) (p3 : Int32) (p4 : Int32) (p5 : Int32) : Option (Int32 × (ModS)) :=
    (f_X7_begins T).bind fun q2 =>
    (f_X7_sets q2 p1 p2 p3 p4 p5).bind fun q4 =>
    (f_X7_ends q4.2 q4.1 1 2 3 0).bind fun q6 =>
    some (q6.1, q6.2)
set_option maxHeartbeats 4000000 in
set_option maxRecDepth 100000 in
theorem c_X7_setWindow (l : Launch) (g : pq_g) (a : Nat → Nat) (T : ModS) (p1 : Int32) (p2 : Int32) (p3 : Int32) (p4 : Int32) (p5 : Int32) (r : Int32) (T1 : ModS) (hf : f_X7_setWindow T p1 p2 p3 p4 p5 = some (r, T1)) : pq_Mi l yX7_setWindow cX7_setWindow 6 .int 5 g (modW g a T) [.ref (a 0), .int p1, .int p2, .int p3, .int p4, .int p5] r (modW g a T1) := by
  rw [f_X7_setWindow] at hf
  refine pq_Mi.of (own := RX7) (by decide) rfl (Nat.le_of_ble_eq_true rfl) rfl ?_
  intro p e s m below meth c ls Q A S hP hK hD hS hA hl hend
  obtain ⟨hx, hb, hml, hown, hts⟩ := id S
  refine lv_aload_n hx hb dX7_setWindow_0 rfl (lv_at hl 0 rfl) ?_
  obtain ⟨q2, e1, hf⟩ := pq_bind hf
  refine pq_cVv S (c_X7_begins l g a T q2 e1) vv_X7_121 hK hP hD hS hA rfl rfl rfl rfl rfl hl.1 (Nat.le_of_ble_eq_true rfl) dX7_setWindow_1 (by decide) (by decide) ⟨Nat.le_refl _, Nat.le_refl _⟩ (fun H9 locs hk hP1 hS => ?_)
  replace hP := hP1
  replace hP : va_P g.1 pq_cl (modW g a q2) H9 := hP
  replace hD : va_D A (modW g a q2) := pq_adr hD (ad_X7 _ _)
  clear hk
  generalize H9 = H at hP hS ⊢
  refine lv_aload_n hx hb dX7_setWindow_4 rfl (lv_at hl 0 rfl) ?_
  refine lv_aload_n hx hb dX7_setWindow_5 rfl (lv_at hl 0 rfl) ?_
  refine lv_iload_n hx hb dX7_setWindow_6 rfl (lv_at hl 1 rfl) ?_
  refine lv_iload_n hx hb dX7_setWindow_7 rfl (lv_at hl 2 rfl) ?_
  refine lv_iload_n hx hb dX7_setWindow_8 rfl (lv_at hl 3 rfl) ?_
  refine lv_iload hx hb dX7_setWindow_9 (lv_at hl 4 rfl) ?_
  refine lv_iload hx hb dX7_setWindow_11 (lv_at hl 5 rfl) ?_
  obtain ⟨q4, e3, hf⟩ := pq_bind hf
  refine pq_cVi S (c_X7_sets l g a q2 p1 p2 p3 p4 p5 q4.1 q4.2 e3) vv_X7_156 hK hP hD hS hA rfl rfl rfl rfl rfl hl.1 (Nat.le_of_ble_eq_true rfl) dX7_setWindow_13 (by decide) (by decide) ⟨Nat.le_refl _, Nat.le_refl _⟩ (fun H9 locs hk hP1 hS => ?_)
  replace hP := hP1
  replace hP : va_P g.1 pq_cl (modW g a q4.2) H9 := hP
  replace hD : va_D A (modW g a q4.2) := pq_adr hD (ad_X7 _ _)
  clear hk
  generalize H9 = H at hP hS ⊢
  refine lv_iconst (v := 1) hx hb dX7_setWindow_16 (by decide) ?_
  refine lv_iconst (v := 2) hx hb dX7_setWindow_17 (by decide) ?_
  refine lv_iconst (v := 3) hx hb dX7_setWindow_18 (by decide) ?_
  refine lv_iconst (v := 0) hx hb dX7_setWindow_19 (by decide) ?_
  obtain ⟨q6, e5, hf⟩ := pq_bind hf
  refine pq_cVi S (c_X7_ends l g a q4.2 q4.1 1 2 3 0 q6.1 q6.2 e5) vv_X7_127 hK hP hD hS hA rfl rfl rfl rfl rfl hl.1 (Nat.le_of_ble_eq_true rfl) dX7_setWindow_20 (by decide) (by decide) ⟨Nat.le_refl _, Nat.le_refl _⟩ (fun H9 locs hk hP1 hS => ?_)
  replace hP := hP1
  replace hP : va_P g.1 pq_cl (modW g a q6.2) H9 := hP
  replace hD : va_D A (modW g a q6.2) := pq_adr hD (ad_X7 _ _)
  clear hk
  generalize H9 = H at hP hS ⊢
  obtain ⟨h8, h9⟩ := pq_pair hf
  exact hend _ _ _ _ _ dX7_setWindow_23 rfl h8 (by rw [← h9]; exact hP) hS
def f_X7_removes (T : ModS) (p1 : Int32) : Option (Int32 × (ModS)) :=
    (f_X7_isWindow p1).bind fun q2 =>
    if q2 = 0 then
      some (1, T)
    else
      (f_X7_w T p1 0).bind fun q5 =>
      if q5 = 0 then
        some (4, T)
      else
        (f_X7_inWindow T p1).bind fun q8 =>
        (f_X7_writesWindow (T.1, T.2.1, T.2.2.1, T.2.2.2.1, q8, T.2.2.2.2.2.1, T.2.2.2.2.2.2.1, T.2.2.2.2.2.2.2.1, T.2.2.2.2.2.2.2.2.1, T.2.2.2.2.2.2.2.2.2.1, T.2.2.2.2.2.2.2.2.2.2.1, T.2.2.2.2.2.2.2.2.2.2.2.1, T.2.2.2.2.2.2.2.2.2.2.2.2.1, T.2.2.2.2.2.2.2.2.2.2.2.2.2.1, T.2.2.2.2.2.2.2.2.2.2.2.2.2.2.1, T.2.2.2.2.2.2.2.2.2.2.2.2.2.2.2.1, T.2.2.2.2.2.2.2.2.2.2.2.2.2.2.2.2) p1 0 0 0).bind fun q10 =>
        some (0, q10)
set_option maxHeartbeats 4000000 in
set_option maxRecDepth 100000 in
theorem c_X7_removes (l : Launch) (g : pq_g) (a : Nat → Nat) (T : ModS) (p1 : Int32) (r : Int32) (T1 : ModS) (hf : f_X7_removes T p1 = some (r, T1)) : pq_Mi l yX7_removes cX7_removes 2 .int 4 g (modW g a T) [.ref (a 0), .int p1] r (modW g a T1) := by
  rw [f_X7_removes] at hf
  refine pq_Mi.of (own := RX7) (by decide) rfl (Nat.le_of_ble_eq_true rfl) rfl ?_
  intro p e s m below meth c ls Q A S hP hK hD hS hA hl hend
  obtain ⟨hx, hb, hml, hown, hts⟩ := id S
  refine lv_iload_n hx hb dX7_removes_0 rfl (lv_at hl 1 rfl) ?_
  obtain ⟨q2, e1, hf⟩ := pq_bind hf
  refine pq_cS S (c_X7_isWindow l g p1 q2 e1) vs_X7_149 hK (hP.sub [] rfl) rfl rfl hl.1 (Nat.le_of_ble_eq_true rfl) dX7_removes_1 (by decide) (by decide) ⟨Nat.le_refl _, Nat.le_refl _⟩ ?_
  refine lv_if_ne (tgt := 9) hx hb dX7_removes_4 (by decide) (fun h3 => ?_) (fun h3 => ?_)
  · replace hf := pq_ifn h3 hf
    refine lv_aload_n hx hb dX7_removes_9 rfl (lv_at hl 0 rfl) ?_
    refine lv_iload_n hx hb dX7_removes_10 rfl (lv_at hl 1 rfl) ?_
    refine lv_iconst (v := 0) hx hb dX7_removes_11 (by decide) ?_
    obtain ⟨q5, e4, hf⟩ := pq_bind hf
    refine pq_cV S (c_X7_w l g a T p1 0 q5 e4) vv_X7_90 hK hP rfl rfl rfl rfl rfl hl.1 (Nat.le_of_ble_eq_true rfl) dX7_removes_12 (by decide) (by decide) ⟨Nat.le_refl _, Nat.le_refl _⟩ ?_
    refine lv_if_ne (tgt := 20) hx hb dX7_removes_15 (by decide) (fun h6 => ?_) (fun h6 => ?_)
    · replace hf := pq_ifn h6 hf
      refine lv_aload_n hx hb dX7_removes_20 rfl (lv_at hl 0 rfl) ?_
      refine lv_aload_n hx hb dX7_removes_21 rfl (lv_at hl 0 rfl) ?_
      refine lv_iload_n hx hb dX7_removes_22 rfl (lv_at hl 1 rfl) ?_
      obtain ⟨q8, e7, hf⟩ := pq_bind hf
      refine pq_cV S (c_X7_inWindow l g a T p1 q8 e7) vv_X7_97 hK hP rfl rfl rfl rfl rfl hl.1 (Nat.le_of_ble_eq_true rfl) dX7_removes_23 (by decide) (by decide) ⟨Nat.le_refl _, Nat.le_refl _⟩ ?_
      refine pq_putf S hK hP hD hS inX7 tyX7_ok nmX7 0 rfl rfl 4 (by decide) fl_X7_41 rfl rfl (ty := .int) rfl rfl rfl (Nat.le_of_ble_eq_true rfl) dX7_removes_26 (fun H locs hP hS => ?_)
      replace hP : va_P g.1 pq_cl (modW g a (T.1, T.2.1, T.2.2.1, T.2.2.2.1, q8, T.2.2.2.2.2.1, T.2.2.2.2.2.2.1, T.2.2.2.2.2.2.2.1, T.2.2.2.2.2.2.2.2.1, T.2.2.2.2.2.2.2.2.2.1, T.2.2.2.2.2.2.2.2.2.2.1, T.2.2.2.2.2.2.2.2.2.2.2.1, T.2.2.2.2.2.2.2.2.2.2.2.2.1, T.2.2.2.2.2.2.2.2.2.2.2.2.2.1, T.2.2.2.2.2.2.2.2.2.2.2.2.2.2.1, T.2.2.2.2.2.2.2.2.2.2.2.2.2.2.2.1, T.2.2.2.2.2.2.2.2.2.2.2.2.2.2.2.2)) H := hP
      replace hD : va_D A (modW g a (T.1, T.2.1, T.2.2.1, T.2.2.2.1, q8, T.2.2.2.2.2.1, T.2.2.2.2.2.2.1, T.2.2.2.2.2.2.2.1, T.2.2.2.2.2.2.2.2.1, T.2.2.2.2.2.2.2.2.2.1, T.2.2.2.2.2.2.2.2.2.2.1, T.2.2.2.2.2.2.2.2.2.2.2.1, T.2.2.2.2.2.2.2.2.2.2.2.2.1, T.2.2.2.2.2.2.2.2.2.2.2.2.2.1, T.2.2.2.2.2.2.2.2.2.2.2.2.2.2.1, T.2.2.2.2.2.2.2.2.2.2.2.2.2.2.2.1, T.2.2.2.2.2.2.2.2.2.2.2.2.2.2.2.2)) := pq_adr hD (ad_X7 _ _)
      refine lv_aload_n hx hb dX7_removes_29 rfl (lv_at hl 0 rfl) ?_
      refine lv_iload_n hx hb dX7_removes_30 rfl (lv_at hl 1 rfl) ?_
      refine lv_iconst (v := 0) hx hb dX7_removes_31 (by decide) ?_
      refine lv_iconst (v := 0) hx hb dX7_removes_32 (by decide) ?_
      refine lv_iconst (v := 0) hx hb dX7_removes_33 (by decide) ?_
      obtain ⟨q10, e9, hf⟩ := pq_bind hf
      refine pq_cVv S (c_X7_writesWindow l g a (T.1, T.2.1, T.2.2.1, T.2.2.2.1, q8, T.2.2.2.2.2.1, T.2.2.2.2.2.2.1, T.2.2.2.2.2.2.2.1, T.2.2.2.2.2.2.2.2.1, T.2.2.2.2.2.2.2.2.2.1, T.2.2.2.2.2.2.2.2.2.2.1, T.2.2.2.2.2.2.2.2.2.2.2.1, T.2.2.2.2.2.2.2.2.2.2.2.2.1, T.2.2.2.2.2.2.2.2.2.2.2.2.2.1, T.2.2.2.2.2.2.2.2.2.2.2.2.2.2.1, T.2.2.2.2.2.2.2.2.2.2.2.2.2.2.2.1, T.2.2.2.2.2.2.2.2.2.2.2.2.2.2.2.2) p1 0 0 0 q10 e9) vv_X7_152 hK hP hD hS hA rfl rfl rfl rfl rfl hl.1 (Nat.le_of_ble_eq_true rfl) dX7_removes_34 (by decide) (by decide) ⟨Nat.le_refl _, Nat.le_refl _⟩ (fun H9 locs hk hP1 hS => ?_)
      replace hP := hP1
      replace hP : va_P g.1 pq_cl (modW g a q10) H9 := hP
      replace hD : va_D A (modW g a q10) := pq_adr hD (ad_X7 _ _)
      clear hk
      generalize H9 = H at hP hS ⊢
      refine lv_iconst (v := 0) hx hb dX7_removes_37 (by decide) ?_
      obtain ⟨h8, h9⟩ := pq_pair hf
      exact hend _ _ _ _ _ dX7_removes_38 rfl h8 (by rw [← h9]; exact hP) hS
    · replace hf := pq_ifp h6 hf
      refine lv_iconst (v := 4) hx hb dX7_removes_18 (by decide) ?_
      obtain ⟨h8, h9⟩ := pq_pair hf
      exact hend _ _ _ _ _ dX7_removes_19 rfl h8 (by rw [← h9]; exact hP) hS
  · replace hf := pq_ifp h3 hf
    refine lv_iconst (v := 1) hx hb dX7_removes_7 (by decide) ?_
    obtain ⟨h8, h9⟩ := pq_pair hf
    exact hend _ _ _ _ _ dX7_removes_8 rfl h8 (by rw [← h9]; exact hP) hS
def f_X7_removeWindow (T : ModS) (p1 : Int32) : Option (Int32 × (ModS)) :=
    (f_X7_begins T).bind fun q2 =>
    (f_X7_removes q2 p1).bind fun q4 =>
    (f_X7_ends q4.2 q4.1 1 0 0 2).bind fun q6 =>
    some (q6.1, q6.2)
set_option maxHeartbeats 4000000 in
set_option maxRecDepth 100000 in
theorem c_X7_removeWindow (l : Launch) (g : pq_g) (a : Nat → Nat) (T : ModS) (p1 : Int32) (r : Int32) (T1 : ModS) (hf : f_X7_removeWindow T p1 = some (r, T1)) : pq_Mi l yX7_removeWindow cX7_removeWindow 2 .int 5 g (modW g a T) [.ref (a 0), .int p1] r (modW g a T1) := by
  rw [f_X7_removeWindow] at hf
  refine pq_Mi.of (own := RX7) (by decide) rfl (Nat.le_of_ble_eq_true rfl) rfl ?_
  intro p e s m below meth c ls Q A S hP hK hD hS hA hl hend
  obtain ⟨hx, hb, hml, hown, hts⟩ := id S
  refine lv_aload_n hx hb dX7_removeWindow_0 rfl (lv_at hl 0 rfl) ?_
  obtain ⟨q2, e1, hf⟩ := pq_bind hf
  refine pq_cVv S (c_X7_begins l g a T q2 e1) vv_X7_121 hK hP hD hS hA rfl rfl rfl rfl rfl hl.1 (Nat.le_of_ble_eq_true rfl) dX7_removeWindow_1 (by decide) (by decide) ⟨Nat.le_refl _, Nat.le_refl _⟩ (fun H9 locs hk hP1 hS => ?_)
  replace hP := hP1
  replace hP : va_P g.1 pq_cl (modW g a q2) H9 := hP
  replace hD : va_D A (modW g a q2) := pq_adr hD (ad_X7 _ _)
  clear hk
  generalize H9 = H at hP hS ⊢
  refine lv_aload_n hx hb dX7_removeWindow_4 rfl (lv_at hl 0 rfl) ?_
  refine lv_aload_n hx hb dX7_removeWindow_5 rfl (lv_at hl 0 rfl) ?_
  refine lv_iload_n hx hb dX7_removeWindow_6 rfl (lv_at hl 1 rfl) ?_
  obtain ⟨q4, e3, hf⟩ := pq_bind hf
  refine pq_cVi S (c_X7_removes l g a q2 p1 q4.1 q4.2 e3) vv_X7_159 hK hP hD hS hA rfl rfl rfl rfl rfl hl.1 (Nat.le_of_ble_eq_true rfl) dX7_removeWindow_7 (by decide) (by decide) ⟨Nat.le_refl _, Nat.le_refl _⟩ (fun H9 locs hk hP1 hS => ?_)
  replace hP := hP1
  replace hP : va_P g.1 pq_cl (modW g a q4.2) H9 := hP
  replace hD : va_D A (modW g a q4.2) := pq_adr hD (ad_X7 _ _)
  clear hk
  generalize H9 = H at hP hS ⊢
  refine lv_iconst (v := 1) hx hb dX7_removeWindow_10 (by decide) ?_
  refine lv_iconst (v := 0) hx hb dX7_removeWindow_11 (by decide) ?_
  refine lv_iconst (v := 0) hx hb dX7_removeWindow_12 (by decide) ?_
  refine lv_iconst (v := 2) hx hb dX7_removeWindow_13 (by decide) ?_
  obtain ⟨q6, e5, hf⟩ := pq_bind hf
  refine pq_cVi S (c_X7_ends l g a q4.2 q4.1 1 0 0 2 q6.1 q6.2 e5) vv_X7_127 hK hP hD hS hA rfl rfl rfl rfl rfl hl.1 (Nat.le_of_ble_eq_true rfl) dX7_removeWindow_14 (by decide) (by decide) ⟨Nat.le_refl _, Nat.le_refl _⟩ (fun H9 locs hk hP1 hS => ?_)
  replace hP := hP1
  replace hP : va_P g.1 pq_cl (modW g a q6.2) H9 := hP
  replace hD : va_D A (modW g a q6.2) := pq_adr hD (ad_X7 _ _)
  clear hk
  generalize H9 = H at hP hS ⊢
  obtain ⟨h8, h9⟩ := pq_pair hf
  exact hend _ _ _ _ _ dX7_removeWindow_17 rfl h8 (by rw [← h9]; exact hP) hS
def f_X7_size (T : ModS) : Option (Int32 × (ModS)) :=
    some ((T.2.1 (0 : Int32).toNatClampNeg), (0, T.2.1, T.2.2.1, T.2.2.2.1, T.2.2.2.2.1, T.2.2.2.2.2.1, T.2.2.2.2.2.2.1, T.2.2.2.2.2.2.2.1, T.2.2.2.2.2.2.2.2.1, T.2.2.2.2.2.2.2.2.2.1, T.2.2.2.2.2.2.2.2.2.2.1, T.2.2.2.2.2.2.2.2.2.2.2.1, T.2.2.2.2.2.2.2.2.2.2.2.2.1, T.2.2.2.2.2.2.2.2.2.2.2.2.2.1, T.2.2.2.2.2.2.2.2.2.2.2.2.2.2.1, T.2.2.2.2.2.2.2.2.2.2.2.2.2.2.2.1, T.2.2.2.2.2.2.2.2.2.2.2.2.2.2.2.2))
set_option maxHeartbeats 4000000 in
set_option maxRecDepth 100000 in
theorem c_X7_size (l : Launch) (g : pq_g) (a : Nat → Nat) (T : ModS) (r : Int32) (T1 : ModS) (hf : f_X7_size T = some (r, T1)) : pq_Mi l yX7_size cX7_size 1 .int 1 g (modW g a T) [.ref (a 0)] r (modW g a T1) := by
  rw [f_X7_size] at hf
  refine pq_Mi.of (own := RX7) (by decide) rfl (Nat.le_of_ble_eq_true rfl) rfl ?_
  intro p e s m below meth c ls Q A S hP hK hD hS hA hl hend
  obtain ⟨hx, hb, hml, hown, hts⟩ := id S
  refine lv_aload_n hx hb dX7_size_0 rfl (lv_at hl 0 rfl) ?_
  refine lv_iconst (v := 0) hx hb dX7_size_1 (by decide) ?_
  refine pq_putf S hK hP hD hS inX7 tyX7_ok nmX7 0 rfl rfl 0 (by decide) fl_X7_27 rfl rfl (ty := .int) rfl rfl rfl (Nat.le_of_ble_eq_true rfl) dX7_size_2 (fun H locs hP hS => ?_)
  replace hP : va_P g.1 pq_cl (modW g a (0, T.2.1, T.2.2.1, T.2.2.2.1, T.2.2.2.2.1, T.2.2.2.2.2.1, T.2.2.2.2.2.2.1, T.2.2.2.2.2.2.2.1, T.2.2.2.2.2.2.2.2.1, T.2.2.2.2.2.2.2.2.2.1, T.2.2.2.2.2.2.2.2.2.2.1, T.2.2.2.2.2.2.2.2.2.2.2.1, T.2.2.2.2.2.2.2.2.2.2.2.2.1, T.2.2.2.2.2.2.2.2.2.2.2.2.2.1, T.2.2.2.2.2.2.2.2.2.2.2.2.2.2.1, T.2.2.2.2.2.2.2.2.2.2.2.2.2.2.2.1, T.2.2.2.2.2.2.2.2.2.2.2.2.2.2.2.2)) H := hP
  replace hD : va_D A (modW g a (0, T.2.1, T.2.2.1, T.2.2.2.1, T.2.2.2.2.1, T.2.2.2.2.2.1, T.2.2.2.2.2.2.1, T.2.2.2.2.2.2.2.1, T.2.2.2.2.2.2.2.2.1, T.2.2.2.2.2.2.2.2.2.1, T.2.2.2.2.2.2.2.2.2.2.1, T.2.2.2.2.2.2.2.2.2.2.2.1, T.2.2.2.2.2.2.2.2.2.2.2.2.1, T.2.2.2.2.2.2.2.2.2.2.2.2.2.1, T.2.2.2.2.2.2.2.2.2.2.2.2.2.2.1, T.2.2.2.2.2.2.2.2.2.2.2.2.2.2.2.1, T.2.2.2.2.2.2.2.2.2.2.2.2.2.2.2.2)) := pq_adr hD (ad_X7 _ _)
  refine lv_aload_n hx hb dX7_size_5 rfl (lv_at hl 0 rfl) ?_
  refine pq_get S hK hP inX7 0 rfl rfl 1 (by decide) fl_X7_9 rfl (v := .ref (a 1)) rfl dX7_size_6 ?_
  refine lv_iconst (v := 0) hx hb dX7_size_9 (by decide) ?_
  refine va_iald hx hb hK.1 hP 1 0 rfl rfl (show ¬ ((0 : Int32) < 0 ∨ 770 ≤ (0 : Int32).toNatClampNeg) by decide) dX7_size_10 ?_
  obtain ⟨h8, h9⟩ := pq_pair hf
  exact hend _ _ _ _ _ dX7_size_11 rfl h8 (by rw [← h9]; exact hP) hS
def f_X7_contains (T : ModS) (p1 : Int32) : Option (Int32 × (ModS)) :=
    (f_X7_find (0, T.2.1, T.2.2.1, T.2.2.2.1, T.2.2.2.2.1, T.2.2.2.2.2.1, T.2.2.2.2.2.2.1, T.2.2.2.2.2.2.2.1, T.2.2.2.2.2.2.2.2.1, T.2.2.2.2.2.2.2.2.2.1, T.2.2.2.2.2.2.2.2.2.2.1, T.2.2.2.2.2.2.2.2.2.2.2.1, T.2.2.2.2.2.2.2.2.2.2.2.2.1, T.2.2.2.2.2.2.2.2.2.2.2.2.2.1, T.2.2.2.2.2.2.2.2.2.2.2.2.2.2.1, T.2.2.2.2.2.2.2.2.2.2.2.2.2.2.2.1, T.2.2.2.2.2.2.2.2.2.2.2.2.2.2.2.2) p1).bind fun q2 =>
    if q2 < 0 then
      some (0, (0, T.2.1, T.2.2.1, T.2.2.2.1, T.2.2.2.2.1, T.2.2.2.2.2.1, T.2.2.2.2.2.2.1, T.2.2.2.2.2.2.2.1, T.2.2.2.2.2.2.2.2.1, T.2.2.2.2.2.2.2.2.2.1, T.2.2.2.2.2.2.2.2.2.2.1, T.2.2.2.2.2.2.2.2.2.2.2.1, T.2.2.2.2.2.2.2.2.2.2.2.2.1, T.2.2.2.2.2.2.2.2.2.2.2.2.2.1, T.2.2.2.2.2.2.2.2.2.2.2.2.2.2.1, T.2.2.2.2.2.2.2.2.2.2.2.2.2.2.2.1, T.2.2.2.2.2.2.2.2.2.2.2.2.2.2.2.2))
    else
      some (1, (0, T.2.1, T.2.2.1, T.2.2.2.1, T.2.2.2.2.1, T.2.2.2.2.2.1, T.2.2.2.2.2.2.1, T.2.2.2.2.2.2.2.1, T.2.2.2.2.2.2.2.2.1, T.2.2.2.2.2.2.2.2.2.1, T.2.2.2.2.2.2.2.2.2.2.1, T.2.2.2.2.2.2.2.2.2.2.2.1, T.2.2.2.2.2.2.2.2.2.2.2.2.1, T.2.2.2.2.2.2.2.2.2.2.2.2.2.1, T.2.2.2.2.2.2.2.2.2.2.2.2.2.2.1, T.2.2.2.2.2.2.2.2.2.2.2.2.2.2.2.1, T.2.2.2.2.2.2.2.2.2.2.2.2.2.2.2.2))
set_option maxHeartbeats 4000000 in
set_option maxRecDepth 100000 in
theorem c_X7_contains (l : Launch) (g : pq_g) (a : Nat → Nat) (T : ModS) (p1 : Int32) (r : Int32) (T1 : ModS) (hf : f_X7_contains T p1 = some (r, T1)) : pq_Mi l yX7_contains cX7_contains 2 .boolean 4 g (modW g a T) [.ref (a 0), .int p1] r (modW g a T1) := by
  rw [f_X7_contains] at hf
  refine pq_Mi.of (own := RX7) (by decide) rfl (Nat.le_of_ble_eq_true rfl) rfl ?_
  intro p e s m below meth c ls Q A S hP hK hD hS hA hl hend
  obtain ⟨hx, hb, hml, hown, hts⟩ := id S
  refine lv_aload_n hx hb dX7_contains_0 rfl (lv_at hl 0 rfl) ?_
  refine lv_iconst (v := 0) hx hb dX7_contains_1 (by decide) ?_
  refine pq_putf S hK hP hD hS inX7 tyX7_ok nmX7 0 rfl rfl 0 (by decide) fl_X7_27 rfl rfl (ty := .int) rfl rfl rfl (Nat.le_of_ble_eq_true rfl) dX7_contains_2 (fun H locs hP hS => ?_)
  replace hP : va_P g.1 pq_cl (modW g a (0, T.2.1, T.2.2.1, T.2.2.2.1, T.2.2.2.2.1, T.2.2.2.2.2.1, T.2.2.2.2.2.2.1, T.2.2.2.2.2.2.2.1, T.2.2.2.2.2.2.2.2.1, T.2.2.2.2.2.2.2.2.2.1, T.2.2.2.2.2.2.2.2.2.2.1, T.2.2.2.2.2.2.2.2.2.2.2.1, T.2.2.2.2.2.2.2.2.2.2.2.2.1, T.2.2.2.2.2.2.2.2.2.2.2.2.2.1, T.2.2.2.2.2.2.2.2.2.2.2.2.2.2.1, T.2.2.2.2.2.2.2.2.2.2.2.2.2.2.2.1, T.2.2.2.2.2.2.2.2.2.2.2.2.2.2.2.2)) H := hP
  replace hD : va_D A (modW g a (0, T.2.1, T.2.2.1, T.2.2.2.1, T.2.2.2.2.1, T.2.2.2.2.2.1, T.2.2.2.2.2.2.1, T.2.2.2.2.2.2.2.1, T.2.2.2.2.2.2.2.2.1, T.2.2.2.2.2.2.2.2.2.1, T.2.2.2.2.2.2.2.2.2.2.1, T.2.2.2.2.2.2.2.2.2.2.2.1, T.2.2.2.2.2.2.2.2.2.2.2.2.1, T.2.2.2.2.2.2.2.2.2.2.2.2.2.1, T.2.2.2.2.2.2.2.2.2.2.2.2.2.2.1, T.2.2.2.2.2.2.2.2.2.2.2.2.2.2.2.1, T.2.2.2.2.2.2.2.2.2.2.2.2.2.2.2.2)) := pq_adr hD (ad_X7 _ _)
  refine lv_aload_n hx hb dX7_contains_5 rfl (lv_at hl 0 rfl) ?_
  refine lv_iload_n hx hb dX7_contains_6 rfl (lv_at hl 1 rfl) ?_
  obtain ⟨q2, e1, hf⟩ := pq_bind hf
  refine pq_cV S (c_X7_find l g a (0, T.2.1, T.2.2.1, T.2.2.2.1, T.2.2.2.2.1, T.2.2.2.2.2.1, T.2.2.2.2.2.2.1, T.2.2.2.2.2.2.2.1, T.2.2.2.2.2.2.2.2.1, T.2.2.2.2.2.2.2.2.2.1, T.2.2.2.2.2.2.2.2.2.2.1, T.2.2.2.2.2.2.2.2.2.2.2.1, T.2.2.2.2.2.2.2.2.2.2.2.2.1, T.2.2.2.2.2.2.2.2.2.2.2.2.2.1, T.2.2.2.2.2.2.2.2.2.2.2.2.2.2.1, T.2.2.2.2.2.2.2.2.2.2.2.2.2.2.2.1, T.2.2.2.2.2.2.2.2.2.2.2.2.2.2.2.2) p1 q2 e1) vv_X7_112 hK hP rfl rfl rfl rfl rfl hl.1 (Nat.le_of_ble_eq_true rfl) dX7_contains_7 (by decide) (by decide) ⟨Nat.le_refl _, Nat.le_refl _⟩ ?_
  refine lv_if_lt (tgt := 17) hx hb dX7_contains_10 (by decide) (fun h3 => ?_) (fun h3 => ?_)
  · replace hf := pq_ifp h3 hf
    refine lv_iconst (v := 0) hx hb dX7_contains_17 (by decide) ?_
    obtain ⟨h8, h9⟩ := pq_pair hf
    exact hend _ _ _ _ _ dX7_contains_18 rfl h8 (by rw [← h9]; exact hP) hS
  · replace hf := pq_ifn h3 hf
    refine lv_iconst (v := 1) hx hb dX7_contains_13 (by decide) ?_
    refine lv_goto (tgt := 18) hx hb dX7_contains_14 (by decide) ?_
    obtain ⟨h8, h9⟩ := pq_pair hf
    exact hend _ _ _ _ _ dX7_contains_18 rfl h8 (by rw [← h9]; exact hP) hS
def f_X7_priorityOf (T : ModS) (p1 : Int32) : Option (Int32 × (ModS)) :=
    (f_X7_find T p1).bind fun q2 =>
    if q2 < 0 then
      (f_X7_isFine T 0).bind fun q5 =>
      if q5.1 = 0 then
        some (0, q5.2)
      else
        (f_X7_priority q5.2 q2).bind fun q8 =>
        some (q8, q5.2)
    else
      (f_X7_isFine T 1).bind fun q10 =>
      if q10.1 = 0 then
        some (0, q10.2)
      else
        (f_X7_priority q10.2 q2).bind fun q13 =>
        some (q13, q10.2)
set_option maxHeartbeats 4000000 in
set_option maxRecDepth 100000 in
theorem c_X7_priorityOf (l : Launch) (g : pq_g) (a : Nat → Nat) (T : ModS) (p1 : Int32) (r : Int32) (T1 : ModS) (hf : f_X7_priorityOf T p1 = some (r, T1)) : pq_Mi l yX7_priorityOf cX7_priorityOf 3 .int 4 g (modW g a T) [.ref (a 0), .int p1] r (modW g a T1) := by
  rw [f_X7_priorityOf] at hf
  refine pq_Mi.of (own := RX7) (by decide) rfl (Nat.le_of_ble_eq_true rfl) rfl ?_
  intro p e s m below meth c ls Q A S hP hK hD hS hA hl hend
  obtain ⟨hx, hb, hml, hown, hts⟩ := id S
  refine lv_aload_n hx hb dX7_priorityOf_0 rfl (lv_at hl 0 rfl) ?_
  refine lv_iload_n hx hb dX7_priorityOf_1 rfl (lv_at hl 1 rfl) ?_
  obtain ⟨q2, e1, hf⟩ := pq_bind hf
  refine pq_cV S (c_X7_find l g a T p1 q2 e1) vv_X7_112 hK hP rfl rfl rfl rfl rfl hl.1 (Nat.le_of_ble_eq_true rfl) dX7_priorityOf_2 (by decide) (by decide) ⟨Nat.le_refl _, Nat.le_refl _⟩ ?_
  refine lv_istore_n (lv' := [(2, .int q2), (0, .ref (a 0)), (1, .int p1)]) hx hb dX7_priorityOf_5 rfl hl (by decide) rfl (fun ls hl => ?_)
  refine lv_aload_n hx hb dX7_priorityOf_6 rfl (lv_at hl 1 rfl) ?_
  refine lv_iload_n hx hb dX7_priorityOf_7 rfl (lv_at hl 0 rfl) ?_
  refine lv_if_lt (tgt := 15) hx hb dX7_priorityOf_8 (by decide) (fun h3 => ?_) (fun h3 => ?_)
  · replace hf := pq_ifp h3 hf
    refine lv_iconst (v := 0) hx hb dX7_priorityOf_15 (by decide) ?_
    obtain ⟨q5, e4, hf⟩ := pq_bind hf
    refine pq_cVi S (c_X7_isFine l g a T 0 q5.1 q5.2 e4) vv_X7_53 hK hP hD hS hA rfl rfl rfl rfl rfl hl.1 (Nat.le_of_ble_eq_true rfl) dX7_priorityOf_16 (by decide) (by decide) ⟨Nat.le_refl _, Nat.le_refl _⟩ (fun H9 locs hk hP1 hS => ?_)
    replace hP := hP1
    replace hP : va_P g.1 pq_cl (modW g a q5.2) H9 := hP
    replace hD : va_D A (modW g a q5.2) := pq_adr hD (ad_X7 _ _)
    clear hk
    generalize H9 = H at hP hS ⊢
    refine lv_if_eq (tgt := 30) hx hb dX7_priorityOf_19 (by decide) (fun h6 => ?_) (fun h6 => ?_)
    · replace hf := pq_ifp h6 hf
      refine lv_iconst (v := 0) hx hb dX7_priorityOf_30 (by decide) ?_
      obtain ⟨h8, h9⟩ := pq_pair hf
      exact hend _ _ _ _ _ dX7_priorityOf_31 rfl h8 (by rw [← h9]; exact hP) hS
    · replace hf := pq_ifn h6 hf
      refine lv_aload_n hx hb dX7_priorityOf_22 rfl (lv_at hl 1 rfl) ?_
      refine lv_iload_n hx hb dX7_priorityOf_23 rfl (lv_at hl 0 rfl) ?_
      obtain ⟨q8, e7, hf⟩ := pq_bind hf
      refine pq_cV S (c_X7_priority l g a q5.2 q2 q8 e7) vv_X7_64 hK hP rfl rfl rfl rfl rfl hl.1 (Nat.le_of_ble_eq_true rfl) dX7_priorityOf_24 (by decide) (by decide) ⟨Nat.le_refl _, Nat.le_refl _⟩ ?_
      refine lv_goto (tgt := 31) hx hb dX7_priorityOf_27 (by decide) ?_
      obtain ⟨h8, h9⟩ := pq_pair hf
      exact hend _ _ _ _ _ dX7_priorityOf_31 rfl h8 (by rw [← h9]; exact hP) hS
  · replace hf := pq_ifn h3 hf
    refine lv_iconst (v := 1) hx hb dX7_priorityOf_11 (by decide) ?_
    refine lv_goto (tgt := 16) hx hb dX7_priorityOf_12 (by decide) ?_
    obtain ⟨q10, e9, hf⟩ := pq_bind hf
    refine pq_cVi S (c_X7_isFine l g a T 1 q10.1 q10.2 e9) vv_X7_53 hK hP hD hS hA rfl rfl rfl rfl rfl hl.1 (Nat.le_of_ble_eq_true rfl) dX7_priorityOf_16 (by decide) (by decide) ⟨Nat.le_refl _, Nat.le_refl _⟩ (fun H9 locs hk hP1 hS => ?_)
    replace hP := hP1
    replace hP : va_P g.1 pq_cl (modW g a q10.2) H9 := hP
    replace hD : va_D A (modW g a q10.2) := pq_adr hD (ad_X7 _ _)
    clear hk
    generalize H9 = H at hP hS ⊢
    refine lv_if_eq (tgt := 30) hx hb dX7_priorityOf_19 (by decide) (fun h11 => ?_) (fun h11 => ?_)
    · replace hf := pq_ifp h11 hf
      refine lv_iconst (v := 0) hx hb dX7_priorityOf_30 (by decide) ?_
      obtain ⟨h8, h9⟩ := pq_pair hf
      exact hend _ _ _ _ _ dX7_priorityOf_31 rfl h8 (by rw [← h9]; exact hP) hS
    · replace hf := pq_ifn h11 hf
      refine lv_aload_n hx hb dX7_priorityOf_22 rfl (lv_at hl 1 rfl) ?_
      refine lv_iload_n hx hb dX7_priorityOf_23 rfl (lv_at hl 0 rfl) ?_
      obtain ⟨q13, e12, hf⟩ := pq_bind hf
      refine pq_cV S (c_X7_priority l g a q10.2 q2 q13 e12) vv_X7_64 hK hP rfl rfl rfl rfl rfl hl.1 (Nat.le_of_ble_eq_true rfl) dX7_priorityOf_24 (by decide) (by decide) ⟨Nat.le_refl _, Nat.le_refl _⟩ ?_
      refine lv_goto (tgt := 31) hx hb dX7_priorityOf_27 (by decide) ?_
      obtain ⟨h8, h9⟩ := pq_pair hf
      exact hend _ _ _ _ _ dX7_priorityOf_31 rfl h8 (by rw [← h9]; exact hP) hS
def f_X7_keyOr (T : ModS) (p1 : Int32) : Option (Int32 × (ModS)) :=
    (f_X7_in p1 0 ((T.2.1 (0 : Int32).toNatClampNeg) - 1)).bind fun q2 =>
    (f_X7_isFine T q2).bind fun q4 =>
    if q4.1 = 0 then
      some (0, q4.2)
    else
      (f_X7_key q4.2 p1).bind fun q7 =>
      some (q7, q4.2)
set_option maxHeartbeats 4000000 in
set_option maxRecDepth 100000 in
theorem c_X7_keyOr (l : Launch) (g : pq_g) (a : Nat → Nat) (T : ModS) (p1 : Int32) (r : Int32) (T1 : ModS) (hf : f_X7_keyOr T p1 = some (r, T1)) : pq_Mi l yX7_keyOr cX7_keyOr 2 .int 2 g (modW g a T) [.ref (a 0), .int p1] r (modW g a T1) := by
  rw [f_X7_keyOr] at hf
  refine pq_Mi.of (own := RX7) (by decide) rfl (Nat.le_of_ble_eq_true rfl) rfl ?_
  intro p e s m below meth c ls Q A S hP hK hD hS hA hl hend
  obtain ⟨hx, hb, hml, hown, hts⟩ := id S
  refine lv_aload_n hx hb dX7_keyOr_0 rfl (lv_at hl 0 rfl) ?_
  refine lv_iload_n hx hb dX7_keyOr_1 rfl (lv_at hl 1 rfl) ?_
  refine lv_iconst (v := 0) hx hb dX7_keyOr_2 (by decide) ?_
  refine lv_aload_n hx hb dX7_keyOr_3 rfl (lv_at hl 0 rfl) ?_
  refine pq_get S hK hP inX7 0 rfl rfl 1 (by decide) fl_X7_9 rfl (v := .ref (a 1)) rfl dX7_keyOr_4 ?_
  refine lv_iconst (v := 0) hx hb dX7_keyOr_7 (by decide) ?_
  refine va_iald hx hb hK.1 hP 1 0 rfl rfl (show ¬ ((0 : Int32) < 0 ∨ 770 ≤ (0 : Int32).toNatClampNeg) by decide) dX7_keyOr_8 ?_
  refine lv_iconst (v := 1) hx hb dX7_keyOr_9 (by decide) ?_
  refine lv_isub hx hb dX7_keyOr_10 ?_
  obtain ⟨q2, e1, hf⟩ := pq_bind hf
  refine pq_cS S (c_X7_in l g p1 0 ((T.2.1 (0 : Int32).toNatClampNeg) - 1) q2 e1) vs_X7_30 hK (hP.sub [] rfl) rfl rfl hl.1 (Nat.le_of_ble_eq_true rfl) dX7_keyOr_11 (by decide) (by decide) ⟨Nat.le_refl _, Nat.le_refl _⟩ ?_
  obtain ⟨q4, e3, hf⟩ := pq_bind hf
  refine pq_cVi S (c_X7_isFine l g a T q2 q4.1 q4.2 e3) vv_X7_53 hK hP hD hS hA rfl rfl rfl rfl rfl hl.1 (Nat.le_of_ble_eq_true rfl) dX7_keyOr_14 (by decide) (by decide) ⟨Nat.le_refl _, Nat.le_refl _⟩ (fun H9 locs hk hP1 hS => ?_)
  replace hP := hP1
  replace hP : va_P g.1 pq_cl (modW g a q4.2) H9 := hP
  replace hD : va_D A (modW g a q4.2) := pq_adr hD (ad_X7 _ _)
  clear hk
  generalize H9 = H at hP hS ⊢
  refine lv_if_eq (tgt := 28) hx hb dX7_keyOr_17 (by decide) (fun h5 => ?_) (fun h5 => ?_)
  · replace hf := pq_ifp h5 hf
    refine lv_iconst (v := 0) hx hb dX7_keyOr_28 (by decide) ?_
    obtain ⟨h8, h9⟩ := pq_pair hf
    exact hend _ _ _ _ _ dX7_keyOr_29 rfl h8 (by rw [← h9]; exact hP) hS
  · replace hf := pq_ifn h5 hf
    refine lv_aload_n hx hb dX7_keyOr_20 rfl (lv_at hl 0 rfl) ?_
    refine lv_iload_n hx hb dX7_keyOr_21 rfl (lv_at hl 1 rfl) ?_
    obtain ⟨q7, e6, hf⟩ := pq_bind hf
    refine pq_cV S (c_X7_key l g a q4.2 p1 q7 e6) vv_X7_57 hK hP rfl rfl rfl rfl rfl hl.1 (Nat.le_of_ble_eq_true rfl) dX7_keyOr_22 (by decide) (by decide) ⟨Nat.le_refl _, Nat.le_refl _⟩ ?_
    refine lv_goto (tgt := 29) hx hb dX7_keyOr_25 (by decide) ?_
    obtain ⟨h8, h9⟩ := pq_pair hf
    exact hend _ _ _ _ _ dX7_keyOr_29 rfl h8 (by rw [← h9]; exact hP) hS
def f_X7_lowestKey (T : ModS) : Option (Int32 × (ModS)) :=
    (f_X7_keyOr T 0).bind fun q2 =>
    some (q2.1, q2.2)
set_option maxHeartbeats 4000000 in
set_option maxRecDepth 100000 in
theorem c_X7_lowestKey (l : Launch) (g : pq_g) (a : Nat → Nat) (T : ModS) (r : Int32) (T1 : ModS) (hf : f_X7_lowestKey T = some (r, T1)) : pq_Mi l yX7_lowestKey cX7_lowestKey 1 .int 3 g (modW g a T) [.ref (a 0)] r (modW g a T1) := by
  rw [f_X7_lowestKey] at hf
  refine pq_Mi.of (own := RX7) (by decide) rfl (Nat.le_of_ble_eq_true rfl) rfl ?_
  intro p e s m below meth c ls Q A S hP hK hD hS hA hl hend
  obtain ⟨hx, hb, hml, hown, hts⟩ := id S
  refine lv_aload_n hx hb dX7_lowestKey_0 rfl (lv_at hl 0 rfl) ?_
  refine lv_iconst (v := 0) hx hb dX7_lowestKey_1 (by decide) ?_
  obtain ⟨q2, e1, hf⟩ := pq_bind hf
  refine pq_cVi S (c_X7_keyOr l g a T 0 q2.1 q2.2 e1) vv_X7_162 hK hP hD hS hA rfl rfl rfl rfl rfl hl.1 (Nat.le_of_ble_eq_true rfl) dX7_lowestKey_2 (by decide) (by decide) ⟨Nat.le_refl _, Nat.le_refl _⟩ (fun H9 locs hk hP1 hS => ?_)
  replace hP := hP1
  replace hP : va_P g.1 pq_cl (modW g a q2.2) H9 := hP
  replace hD : va_D A (modW g a q2.2) := pq_adr hD (ad_X7 _ _)
  clear hk
  generalize H9 = H at hP hS ⊢
  obtain ⟨h8, h9⟩ := pq_pair hf
  exact hend _ _ _ _ _ dX7_lowestKey_5 rfl h8 (by rw [← h9]; exact hP) hS
def f_X7_greatestKey (T : ModS) : Option (Int32 × (ModS)) :=
    (f_X7_keyOr T ((T.2.1 (0 : Int32).toNatClampNeg) - 1)).bind fun q2 =>
    some (q2.1, q2.2)
set_option maxHeartbeats 4000000 in
set_option maxRecDepth 100000 in
theorem c_X7_greatestKey (l : Launch) (g : pq_g) (a : Nat → Nat) (T : ModS) (r : Int32) (T1 : ModS) (hf : f_X7_greatestKey T = some (r, T1)) : pq_Mi l yX7_greatestKey cX7_greatestKey 1 .int 3 g (modW g a T) [.ref (a 0)] r (modW g a T1) := by
  rw [f_X7_greatestKey] at hf
  refine pq_Mi.of (own := RX7) (by decide) rfl (Nat.le_of_ble_eq_true rfl) rfl ?_
  intro p e s m below meth c ls Q A S hP hK hD hS hA hl hend
  obtain ⟨hx, hb, hml, hown, hts⟩ := id S
  refine lv_aload_n hx hb dX7_greatestKey_0 rfl (lv_at hl 0 rfl) ?_
  refine lv_aload_n hx hb dX7_greatestKey_1 rfl (lv_at hl 0 rfl) ?_
  refine pq_get S hK hP inX7 0 rfl rfl 1 (by decide) fl_X7_9 rfl (v := .ref (a 1)) rfl dX7_greatestKey_2 ?_
  refine lv_iconst (v := 0) hx hb dX7_greatestKey_5 (by decide) ?_
  refine va_iald hx hb hK.1 hP 1 0 rfl rfl (show ¬ ((0 : Int32) < 0 ∨ 770 ≤ (0 : Int32).toNatClampNeg) by decide) dX7_greatestKey_6 ?_
  refine lv_iconst (v := 1) hx hb dX7_greatestKey_7 (by decide) ?_
  refine lv_isub hx hb dX7_greatestKey_8 ?_
  obtain ⟨q2, e1, hf⟩ := pq_bind hf
  refine pq_cVi S (c_X7_keyOr l g a T ((T.2.1 (0 : Int32).toNatClampNeg) - 1) q2.1 q2.2 e1) vv_X7_162 hK hP hD hS hA rfl rfl rfl rfl rfl hl.1 (Nat.le_of_ble_eq_true rfl) dX7_greatestKey_9 (by decide) (by decide) ⟨Nat.le_refl _, Nat.le_refl _⟩ (fun H9 locs hk hP1 hS => ?_)
  replace hP := hP1
  replace hP : va_P g.1 pq_cl (modW g a q2.2) H9 := hP
  replace hD : va_D A (modW g a q2.2) := pq_adr hD (ad_X7 _ _)
  clear hk
  generalize H9 = H at hP hS ⊢
  obtain ⟨h8, h9⟩ := pq_pair hf
  exact hend _ _ _ _ _ dX7_greatestKey_12 rfl h8 (by rw [← h9]; exact hP) hS
def f_X7_floorAt (T : ModS) (p1 : Int32) : Option (Int32) :=
    (f_X7_below T p1).bind fun q2 =>
    if (T.2.1 (0 : Int32).toNatClampNeg) ≤ q2 then
      some (q2 - 1)
    else
      (f_X7_key T q2).bind fun q5 =>
      if q5 = p1 then
        some q2
      else
        some (q2 - 1)
set_option maxHeartbeats 4000000 in
set_option maxRecDepth 100000 in
theorem c_X7_floorAt (l : Launch) (g : pq_g) (a : Nat → Nat) (T : ModS) (p1 : Int32) (r : Int32) (hf : f_X7_floorAt T p1 = some r) : pq_R l yX7_floorAt cX7_floorAt 3 .int 3 g (modW g a T) [.ref (a 0), .int p1] r := by
  rw [f_X7_floorAt] at hf
  refine pq_R.of (own := RX7) (by decide) rfl (Nat.le_of_ble_eq_true rfl) rfl ?_
  intro p e s m below meth c ls Q S hP hK hl hend
  obtain ⟨hx, hb, hml, hown, hts⟩ := id S
  refine lv_aload_n hx hb dX7_floorAt_0 rfl (lv_at hl 0 rfl) ?_
  refine lv_iload_n hx hb dX7_floorAt_1 rfl (lv_at hl 1 rfl) ?_
  obtain ⟨q2, e1, hf⟩ := pq_bind hf
  refine pq_cV S (c_X7_below l g a T p1 q2 e1) vv_X7_61 hK hP rfl rfl rfl rfl rfl hl.1 (Nat.le_of_ble_eq_true rfl) dX7_floorAt_2 (by decide) (by decide) ⟨Nat.le_refl _, Nat.le_refl _⟩ ?_
  refine lv_istore_n (lv' := [(2, .int q2), (0, .ref (a 0)), (1, .int p1)]) hx hb dX7_floorAt_5 rfl hl (by decide) rfl (fun ls hl => ?_)
  refine lv_iload_n hx hb dX7_floorAt_6 rfl (lv_at hl 0 rfl) ?_
  refine lv_aload_n hx hb dX7_floorAt_7 rfl (lv_at hl 1 rfl) ?_
  refine pq_get S hK hP inX7 0 rfl rfl 1 (by decide) fl_X7_9 rfl (v := .ref (a 1)) rfl dX7_floorAt_8 ?_
  refine lv_iconst (v := 0) hx hb dX7_floorAt_11 (by decide) ?_
  refine va_iald hx hb hK.1 hP 1 0 rfl rfl (show ¬ ((0 : Int32) < 0 ∨ 770 ≤ (0 : Int32).toNatClampNeg) by decide) dX7_floorAt_12 ?_
  refine lv_icmp_ge (tgt := 29) hx hb dX7_floorAt_13 (by decide) (fun h3 => ?_) (fun h3 => ?_)
  · replace hf := pq_ifp h3 hf
    refine lv_iload_n hx hb dX7_floorAt_29 rfl (lv_at hl 0 rfl) ?_
    refine lv_iconst (v := 1) hx hb dX7_floorAt_30 (by decide) ?_
    refine lv_isub hx hb dX7_floorAt_31 ?_
    exact hend _ _ _ dX7_floorAt_32 rfl hf
  · replace hf := pq_ifn h3 hf
    refine lv_aload_n hx hb dX7_floorAt_16 rfl (lv_at hl 1 rfl) ?_
    refine lv_iload_n hx hb dX7_floorAt_17 rfl (lv_at hl 0 rfl) ?_
    obtain ⟨q5, e4, hf⟩ := pq_bind hf
    refine pq_cV S (c_X7_key l g a T q2 q5 e4) vv_X7_57 hK hP rfl rfl rfl rfl rfl hl.1 (Nat.le_of_ble_eq_true rfl) dX7_floorAt_18 (by decide) (by decide) ⟨Nat.le_refl _, Nat.le_refl _⟩ ?_
    refine lv_iload_n hx hb dX7_floorAt_21 rfl (lv_at hl 2 rfl) ?_
    refine lv_icmp_ne (tgt := 29) hx hb dX7_floorAt_22 (by decide) (fun h6 => ?_) (fun h6 => ?_)
    · replace hf := pq_ifn h6 hf
      refine lv_iload_n hx hb dX7_floorAt_29 rfl (lv_at hl 0 rfl) ?_
      refine lv_iconst (v := 1) hx hb dX7_floorAt_30 (by decide) ?_
      refine lv_isub hx hb dX7_floorAt_31 ?_
      exact hend _ _ _ dX7_floorAt_32 rfl hf
    · replace hf := pq_ifp h6 hf
      refine lv_iload_n hx hb dX7_floorAt_25 rfl (lv_at hl 0 rfl) ?_
      refine lv_goto (tgt := 32) hx hb dX7_floorAt_26 (by decide) ?_
      exact hend _ _ _ dX7_floorAt_32 rfl hf
def f_X7_floorKey (T : ModS) (p1 : Int32) : Option (Int32 × (ModS)) :=
    (f_X7_floorAt T p1).bind fun q2 =>
    (f_X7_keyOr T q2).bind fun q4 =>
    some (q4.1, q4.2)
set_option maxHeartbeats 4000000 in
set_option maxRecDepth 100000 in
theorem c_X7_floorKey (l : Launch) (g : pq_g) (a : Nat → Nat) (T : ModS) (p1 : Int32) (r : Int32) (T1 : ModS) (hf : f_X7_floorKey T p1 = some (r, T1)) : pq_Mi l yX7_floorKey cX7_floorKey 2 .int 4 g (modW g a T) [.ref (a 0), .int p1] r (modW g a T1) := by
  rw [f_X7_floorKey] at hf
  refine pq_Mi.of (own := RX7) (by decide) rfl (Nat.le_of_ble_eq_true rfl) rfl ?_
  intro p e s m below meth c ls Q A S hP hK hD hS hA hl hend
  obtain ⟨hx, hb, hml, hown, hts⟩ := id S
  refine lv_aload_n hx hb dX7_floorKey_0 rfl (lv_at hl 0 rfl) ?_
  refine lv_aload_n hx hb dX7_floorKey_1 rfl (lv_at hl 0 rfl) ?_
  refine lv_iload_n hx hb dX7_floorKey_2 rfl (lv_at hl 1 rfl) ?_
  obtain ⟨q2, e1, hf⟩ := pq_bind hf
  refine pq_cV S (c_X7_floorAt l g a T p1 q2 e1) vv_X7_165 hK hP rfl rfl rfl rfl rfl hl.1 (Nat.le_of_ble_eq_true rfl) dX7_floorKey_3 (by decide) (by decide) ⟨Nat.le_refl _, Nat.le_refl _⟩ ?_
  obtain ⟨q4, e3, hf⟩ := pq_bind hf
  refine pq_cVi S (c_X7_keyOr l g a T q2 q4.1 q4.2 e3) vv_X7_162 hK hP hD hS hA rfl rfl rfl rfl rfl hl.1 (Nat.le_of_ble_eq_true rfl) dX7_floorKey_6 (by decide) (by decide) ⟨Nat.le_refl _, Nat.le_refl _⟩ (fun H9 locs hk hP1 hS => ?_)
  replace hP := hP1
  replace hP : va_P g.1 pq_cl (modW g a q4.2) H9 := hP
  replace hD : va_D A (modW g a q4.2) := pq_adr hD (ad_X7 _ _)
  clear hk
  generalize H9 = H at hP hS ⊢
  obtain ⟨h8, h9⟩ := pq_pair hf
  exact hend _ _ _ _ _ dX7_floorKey_9 rfl h8 (by rw [← h9]; exact hP) hS
def f_X7_ceilingKey (T : ModS) (p1 : Int32) : Option (Int32 × (ModS)) :=
    (f_X7_below T p1).bind fun q2 =>
    (f_X7_keyOr T q2).bind fun q4 =>
    some (q4.1, q4.2)
set_option maxHeartbeats 4000000 in
set_option maxRecDepth 100000 in
theorem c_X7_ceilingKey (l : Launch) (g : pq_g) (a : Nat → Nat) (T : ModS) (p1 : Int32) (r : Int32) (T1 : ModS) (hf : f_X7_ceilingKey T p1 = some (r, T1)) : pq_Mi l yX7_ceilingKey cX7_ceilingKey 2 .int 3 g (modW g a T) [.ref (a 0), .int p1] r (modW g a T1) := by
  rw [f_X7_ceilingKey] at hf
  refine pq_Mi.of (own := RX7) (by decide) rfl (Nat.le_of_ble_eq_true rfl) rfl ?_
  intro p e s m below meth c ls Q A S hP hK hD hS hA hl hend
  obtain ⟨hx, hb, hml, hown, hts⟩ := id S
  refine lv_aload_n hx hb dX7_ceilingKey_0 rfl (lv_at hl 0 rfl) ?_
  refine lv_aload_n hx hb dX7_ceilingKey_1 rfl (lv_at hl 0 rfl) ?_
  refine lv_iload_n hx hb dX7_ceilingKey_2 rfl (lv_at hl 1 rfl) ?_
  obtain ⟨q2, e1, hf⟩ := pq_bind hf
  refine pq_cV S (c_X7_below l g a T p1 q2 e1) vv_X7_61 hK hP rfl rfl rfl rfl rfl hl.1 (Nat.le_of_ble_eq_true rfl) dX7_ceilingKey_3 (by decide) (by decide) ⟨Nat.le_refl _, Nat.le_refl _⟩ ?_
  obtain ⟨q4, e3, hf⟩ := pq_bind hf
  refine pq_cVi S (c_X7_keyOr l g a T q2 q4.1 q4.2 e3) vv_X7_162 hK hP hD hS hA rfl rfl rfl rfl rfl hl.1 (Nat.le_of_ble_eq_true rfl) dX7_ceilingKey_6 (by decide) (by decide) ⟨Nat.le_refl _, Nat.le_refl _⟩ (fun H9 locs hk hP1 hS => ?_)
  replace hP := hP1
  replace hP : va_P g.1 pq_cl (modW g a q4.2) H9 := hP
  replace hD : va_D A (modW g a q4.2) := pq_adr hD (ad_X7 _ _)
  clear hk
  generalize H9 = H at hP hS ⊢
  obtain ⟨h8, h9⟩ := pq_pair hf
  exact hend _ _ _ _ _ dX7_ceilingKey_9 rfl h8 (by rw [← h9]; exact hP) hS
def f_X7_nearestKey_c95 (T : ModS) (v2 : Int32) : Option (Int32 × (ModS)) :=
    (f_X7_key T v2).bind fun q2 =>
    some (q2, T)
def f_X7_nearestKey (T : ModS) (p1 : Int32) : Option (Int32 × (ModS)) :=
    (f_X7_isNumber p1).bind fun q4 =>
    if q4 = 0 then
      some (0, (1, T.2.1, T.2.2.1, T.2.2.2.1, T.2.2.2.2.1, T.2.2.2.2.2.1, T.2.2.2.2.2.2.1, T.2.2.2.2.2.2.2.1, T.2.2.2.2.2.2.2.2.1, T.2.2.2.2.2.2.2.2.2.1, T.2.2.2.2.2.2.2.2.2.2.1, T.2.2.2.2.2.2.2.2.2.2.2.1, T.2.2.2.2.2.2.2.2.2.2.2.2.1, T.2.2.2.2.2.2.2.2.2.2.2.2.2.1, T.2.2.2.2.2.2.2.2.2.2.2.2.2.2.1, T.2.2.2.2.2.2.2.2.2.2.2.2.2.2.2.1, T.2.2.2.2.2.2.2.2.2.2.2.2.2.2.2.2))
    else
      if (T.2.1 (0 : Int32).toNatClampNeg) = 0 then
        some (0, (2, T.2.1, T.2.2.1, T.2.2.2.1, T.2.2.2.2.1, T.2.2.2.2.2.1, T.2.2.2.2.2.2.1, T.2.2.2.2.2.2.2.1, T.2.2.2.2.2.2.2.2.1, T.2.2.2.2.2.2.2.2.2.1, T.2.2.2.2.2.2.2.2.2.2.1, T.2.2.2.2.2.2.2.2.2.2.2.1, T.2.2.2.2.2.2.2.2.2.2.2.2.1, T.2.2.2.2.2.2.2.2.2.2.2.2.2.1, T.2.2.2.2.2.2.2.2.2.2.2.2.2.2.1, T.2.2.2.2.2.2.2.2.2.2.2.2.2.2.2.1, T.2.2.2.2.2.2.2.2.2.2.2.2.2.2.2.2))
      else
        (f_X7_floorAt (0, T.2.1, T.2.2.1, T.2.2.2.1, T.2.2.2.2.1, T.2.2.2.2.2.1, T.2.2.2.2.2.2.1, T.2.2.2.2.2.2.2.1, T.2.2.2.2.2.2.2.2.1, T.2.2.2.2.2.2.2.2.2.1, T.2.2.2.2.2.2.2.2.2.2.1, T.2.2.2.2.2.2.2.2.2.2.2.1, T.2.2.2.2.2.2.2.2.2.2.2.2.1, T.2.2.2.2.2.2.2.2.2.2.2.2.2.1, T.2.2.2.2.2.2.2.2.2.2.2.2.2.2.1, T.2.2.2.2.2.2.2.2.2.2.2.2.2.2.2.1, T.2.2.2.2.2.2.2.2.2.2.2.2.2.2.2.2) p1).bind fun q8 =>
        (f_X7_below (0, T.2.1, T.2.2.1, T.2.2.2.1, T.2.2.2.2.1, T.2.2.2.2.2.1, T.2.2.2.2.2.2.1, T.2.2.2.2.2.2.2.1, T.2.2.2.2.2.2.2.2.1, T.2.2.2.2.2.2.2.2.2.1, T.2.2.2.2.2.2.2.2.2.2.1, T.2.2.2.2.2.2.2.2.2.2.2.1, T.2.2.2.2.2.2.2.2.2.2.2.2.1, T.2.2.2.2.2.2.2.2.2.2.2.2.2.1, T.2.2.2.2.2.2.2.2.2.2.2.2.2.2.1, T.2.2.2.2.2.2.2.2.2.2.2.2.2.2.2.1, T.2.2.2.2.2.2.2.2.2.2.2.2.2.2.2.2) p1).bind fun q10 =>
        if 0 ≤ q8 then
          if (T.2.1 (0 : Int32).toNatClampNeg) ≤ q10 then
            f_X7_nearestKey_c95 (0, T.2.1, T.2.2.1, T.2.2.2.1, T.2.2.2.2.1, T.2.2.2.2.2.1, T.2.2.2.2.2.2.1, T.2.2.2.2.2.2.2.1, T.2.2.2.2.2.2.2.2.1, T.2.2.2.2.2.2.2.2.2.1, T.2.2.2.2.2.2.2.2.2.2.1, T.2.2.2.2.2.2.2.2.2.2.2.1, T.2.2.2.2.2.2.2.2.2.2.2.2.1, T.2.2.2.2.2.2.2.2.2.2.2.2.2.1, T.2.2.2.2.2.2.2.2.2.2.2.2.2.2.1, T.2.2.2.2.2.2.2.2.2.2.2.2.2.2.2.1, T.2.2.2.2.2.2.2.2.2.2.2.2.2.2.2.2) q8
          else
            (f_X7_key (0, T.2.1, T.2.2.1, T.2.2.2.1, T.2.2.2.2.1, T.2.2.2.2.2.1, T.2.2.2.2.2.2.1, T.2.2.2.2.2.2.2.1, T.2.2.2.2.2.2.2.2.1, T.2.2.2.2.2.2.2.2.2.1, T.2.2.2.2.2.2.2.2.2.2.1, T.2.2.2.2.2.2.2.2.2.2.2.1, T.2.2.2.2.2.2.2.2.2.2.2.2.1, T.2.2.2.2.2.2.2.2.2.2.2.2.2.1, T.2.2.2.2.2.2.2.2.2.2.2.2.2.2.1, T.2.2.2.2.2.2.2.2.2.2.2.2.2.2.2.1, T.2.2.2.2.2.2.2.2.2.2.2.2.2.2.2.2) q10).bind fun q14 =>
            (f_X7_key (0, T.2.1, T.2.2.1, T.2.2.2.1, T.2.2.2.2.1, T.2.2.2.2.2.1, T.2.2.2.2.2.2.1, T.2.2.2.2.2.2.2.1, T.2.2.2.2.2.2.2.2.1, T.2.2.2.2.2.2.2.2.2.1, T.2.2.2.2.2.2.2.2.2.2.1, T.2.2.2.2.2.2.2.2.2.2.2.1, T.2.2.2.2.2.2.2.2.2.2.2.2.1, T.2.2.2.2.2.2.2.2.2.2.2.2.2.1, T.2.2.2.2.2.2.2.2.2.2.2.2.2.2.1, T.2.2.2.2.2.2.2.2.2.2.2.2.2.2.2.1, T.2.2.2.2.2.2.2.2.2.2.2.2.2.2.2.2) q8).bind fun q16 =>
            if (p1 - q16) ≤ (q14 - p1) then
              f_X7_nearestKey_c95 (0, T.2.1, T.2.2.1, T.2.2.2.1, T.2.2.2.2.1, T.2.2.2.2.2.1, T.2.2.2.2.2.2.1, T.2.2.2.2.2.2.2.1, T.2.2.2.2.2.2.2.2.1, T.2.2.2.2.2.2.2.2.2.1, T.2.2.2.2.2.2.2.2.2.2.1, T.2.2.2.2.2.2.2.2.2.2.2.1, T.2.2.2.2.2.2.2.2.2.2.2.2.1, T.2.2.2.2.2.2.2.2.2.2.2.2.2.1, T.2.2.2.2.2.2.2.2.2.2.2.2.2.2.1, T.2.2.2.2.2.2.2.2.2.2.2.2.2.2.2.1, T.2.2.2.2.2.2.2.2.2.2.2.2.2.2.2.2) q8
            else
              (f_X7_key (0, T.2.1, T.2.2.1, T.2.2.2.1, T.2.2.2.2.1, T.2.2.2.2.2.1, T.2.2.2.2.2.2.1, T.2.2.2.2.2.2.2.1, T.2.2.2.2.2.2.2.2.1, T.2.2.2.2.2.2.2.2.2.1, T.2.2.2.2.2.2.2.2.2.2.1, T.2.2.2.2.2.2.2.2.2.2.2.1, T.2.2.2.2.2.2.2.2.2.2.2.2.1, T.2.2.2.2.2.2.2.2.2.2.2.2.2.1, T.2.2.2.2.2.2.2.2.2.2.2.2.2.2.1, T.2.2.2.2.2.2.2.2.2.2.2.2.2.2.2.1, T.2.2.2.2.2.2.2.2.2.2.2.2.2.2.2.2) q10).bind fun q19 =>
              some (q19, (0, T.2.1, T.2.2.1, T.2.2.2.1, T.2.2.2.2.1, T.2.2.2.2.2.1, T.2.2.2.2.2.2.1, T.2.2.2.2.2.2.2.1, T.2.2.2.2.2.2.2.2.1, T.2.2.2.2.2.2.2.2.2.1, T.2.2.2.2.2.2.2.2.2.2.1, T.2.2.2.2.2.2.2.2.2.2.2.1, T.2.2.2.2.2.2.2.2.2.2.2.2.1, T.2.2.2.2.2.2.2.2.2.2.2.2.2.1, T.2.2.2.2.2.2.2.2.2.2.2.2.2.2.1, T.2.2.2.2.2.2.2.2.2.2.2.2.2.2.2.1, T.2.2.2.2.2.2.2.2.2.2.2.2.2.2.2.2))
        else
          (f_X7_key (0, T.2.1, T.2.2.1, T.2.2.2.1, T.2.2.2.2.1, T.2.2.2.2.2.1, T.2.2.2.2.2.2.1, T.2.2.2.2.2.2.2.1, T.2.2.2.2.2.2.2.2.1, T.2.2.2.2.2.2.2.2.2.1, T.2.2.2.2.2.2.2.2.2.2.1, T.2.2.2.2.2.2.2.2.2.2.2.1, T.2.2.2.2.2.2.2.2.2.2.2.2.1, T.2.2.2.2.2.2.2.2.2.2.2.2.2.1, T.2.2.2.2.2.2.2.2.2.2.2.2.2.2.1, T.2.2.2.2.2.2.2.2.2.2.2.2.2.2.2.1, T.2.2.2.2.2.2.2.2.2.2.2.2.2.2.2.2) q10).bind fun q21 =>
          some (q21, (0, T.2.1, T.2.2.1, T.2.2.2.1, T.2.2.2.2.1, T.2.2.2.2.2.1, T.2.2.2.2.2.2.1, T.2.2.2.2.2.2.2.1, T.2.2.2.2.2.2.2.2.1, T.2.2.2.2.2.2.2.2.2.1, T.2.2.2.2.2.2.2.2.2.2.1, T.2.2.2.2.2.2.2.2.2.2.2.1, T.2.2.2.2.2.2.2.2.2.2.2.2.1, T.2.2.2.2.2.2.2.2.2.2.2.2.2.1, T.2.2.2.2.2.2.2.2.2.2.2.2.2.2.1, T.2.2.2.2.2.2.2.2.2.2.2.2.2.2.2.1, T.2.2.2.2.2.2.2.2.2.2.2.2.2.2.2.2))
set_option maxHeartbeats 4000000 in
set_option maxRecDepth 100000 in
theorem c_X7_nearestKey (l : Launch) (g : pq_g) (a : Nat → Nat) (T : ModS) (p1 : Int32) (r : Int32) (T1 : ModS) (hf : f_X7_nearestKey T p1 = some (r, T1)) : pq_Mi l yX7_nearestKey cX7_nearestKey 4 .int 4 g (modW g a T) [.ref (a 0), .int p1] r (modW g a T1) := by
  rw [f_X7_nearestKey] at hf
  refine pq_Mi.of (own := RX7) (by decide) rfl (Nat.le_of_ble_eq_true rfl) rfl ?_
  intro p e s m below meth c ls Q A S hP hK hD hS hA hl hend
  obtain ⟨hx, hb, hml, hown, hts⟩ := id S
  have B95 : ∀ (T : ModS) (v2 : Int32) (ls : Array Slot) (H : Heap) (locs : List Loc), va_P g.1 pq_cl (modW g a T) H → va_D A (modW g a T) → va_S A s.heap H locs → lv_has ls 4 [(0, .ref (a 0)), (2, .int v2)] → f_X7_nearestKey_c95 T v2 = some (r, T1) → W p l e (pq_rm 4 0 0) s m ([.ref (a 0), .int p1] : List Value).toArray below meth c H locs 0 0 Q (F0 m 95 ls []) := by
    intro T v2 ls H locs hP hD hS hl hf
    rw [f_X7_nearestKey_c95] at hf
    refine lv_aload_n hx hb dX7_nearestKey_95 rfl (lv_at hl 0 rfl) ?_
    refine lv_iload_n hx hb dX7_nearestKey_96 rfl (lv_at hl 1 rfl) ?_
    obtain ⟨q2, e1, hf⟩ := pq_bind hf
    refine pq_cV S (c_X7_key l g a T v2 q2 e1) vv_X7_57 hK hP rfl rfl rfl rfl rfl hl.1 (Nat.le_of_ble_eq_true rfl) dX7_nearestKey_97 (by decide) (by decide) ⟨Nat.le_refl _, Nat.le_refl _⟩ ?_
    obtain ⟨h8, h9⟩ := pq_pair hf
    exact hend _ _ _ _ _ dX7_nearestKey_100 rfl h8 (by rw [← h9]; exact hP) hS
  refine lv_aload_n hx hb dX7_nearestKey_0 rfl (lv_at hl 0 rfl) ?_
  refine lv_iload_n hx hb dX7_nearestKey_1 rfl (lv_at hl 1 rfl) ?_
  obtain ⟨q4, e3, hf⟩ := pq_bind hf
  refine pq_cS S (c_X7_isNumber l g p1 q4 e3) vs_X7_108 hK (hP.sub [] rfl) rfl rfl hl.1 (Nat.le_of_ble_eq_true rfl) dX7_nearestKey_2 (by decide) (by decide) ⟨Nat.le_refl _, Nat.le_refl _⟩ ?_
  refine lv_if_ne (tgt := 12) hx hb dX7_nearestKey_5 (by decide) (fun h5 => ?_) (fun h5 => ?_)
  · replace hf := pq_ifn h5 hf
    refine lv_aload_n hx hb dX7_nearestKey_12 rfl (lv_at hl 0 rfl) ?_
    refine pq_get S hK hP inX7 0 rfl rfl 1 (by decide) fl_X7_9 rfl (v := .ref (a 1)) rfl dX7_nearestKey_13 ?_
    refine lv_iconst (v := 0) hx hb dX7_nearestKey_16 (by decide) ?_
    refine va_iald hx hb hK.1 hP 1 0 rfl rfl (show ¬ ((0 : Int32) < 0 ∨ 770 ≤ (0 : Int32).toNatClampNeg) by decide) dX7_nearestKey_17 ?_
    refine lv_if_ne (tgt := 25) hx hb dX7_nearestKey_18 (by decide) (fun h6 => ?_) (fun h6 => ?_)
    · replace hf := pq_ifn h6 hf
      refine lv_iconst (v := 0) hx hb dX7_nearestKey_25 (by decide) ?_
      refine pq_putf S hK hP hD hS inX7 tyX7_ok nmX7 0 rfl rfl 0 (by decide) fl_X7_27 rfl rfl (ty := .int) rfl rfl rfl (Nat.le_of_ble_eq_true rfl) dX7_nearestKey_26 (fun H locs hP hS => ?_)
      replace hP : va_P g.1 pq_cl (modW g a (0, T.2.1, T.2.2.1, T.2.2.2.1, T.2.2.2.2.1, T.2.2.2.2.2.1, T.2.2.2.2.2.2.1, T.2.2.2.2.2.2.2.1, T.2.2.2.2.2.2.2.2.1, T.2.2.2.2.2.2.2.2.2.1, T.2.2.2.2.2.2.2.2.2.2.1, T.2.2.2.2.2.2.2.2.2.2.2.1, T.2.2.2.2.2.2.2.2.2.2.2.2.1, T.2.2.2.2.2.2.2.2.2.2.2.2.2.1, T.2.2.2.2.2.2.2.2.2.2.2.2.2.2.1, T.2.2.2.2.2.2.2.2.2.2.2.2.2.2.2.1, T.2.2.2.2.2.2.2.2.2.2.2.2.2.2.2.2)) H := hP
      replace hD : va_D A (modW g a (0, T.2.1, T.2.2.1, T.2.2.2.1, T.2.2.2.2.1, T.2.2.2.2.2.1, T.2.2.2.2.2.2.1, T.2.2.2.2.2.2.2.1, T.2.2.2.2.2.2.2.2.1, T.2.2.2.2.2.2.2.2.2.1, T.2.2.2.2.2.2.2.2.2.2.1, T.2.2.2.2.2.2.2.2.2.2.2.1, T.2.2.2.2.2.2.2.2.2.2.2.2.1, T.2.2.2.2.2.2.2.2.2.2.2.2.2.1, T.2.2.2.2.2.2.2.2.2.2.2.2.2.2.1, T.2.2.2.2.2.2.2.2.2.2.2.2.2.2.2.1, T.2.2.2.2.2.2.2.2.2.2.2.2.2.2.2.2)) := pq_adr hD (ad_X7 _ _)
      refine lv_aload_n hx hb dX7_nearestKey_29 rfl (lv_at hl 0 rfl) ?_
      refine pq_get S hK hP inX7 0 rfl rfl 0 (by decide) fl_X7_27 rfl (v := .int 0) rfl dX7_nearestKey_30 ?_
      refine lv_if_eq (tgt := 38) hx hb dX7_nearestKey_33 (by decide) (fun _ => ?_) (fun h9 => absurd h9 (by decide))
      refine lv_aload_n hx hb dX7_nearestKey_38 rfl (lv_at hl 0 rfl) ?_
      refine lv_iload_n hx hb dX7_nearestKey_39 rfl (lv_at hl 1 rfl) ?_
      obtain ⟨q8, e7, hf⟩ := pq_bind hf
      refine pq_cV S (c_X7_floorAt l g a (0, T.2.1, T.2.2.1, T.2.2.2.1, T.2.2.2.2.1, T.2.2.2.2.2.1, T.2.2.2.2.2.2.1, T.2.2.2.2.2.2.2.1, T.2.2.2.2.2.2.2.2.1, T.2.2.2.2.2.2.2.2.2.1, T.2.2.2.2.2.2.2.2.2.2.1, T.2.2.2.2.2.2.2.2.2.2.2.1, T.2.2.2.2.2.2.2.2.2.2.2.2.1, T.2.2.2.2.2.2.2.2.2.2.2.2.2.1, T.2.2.2.2.2.2.2.2.2.2.2.2.2.2.1, T.2.2.2.2.2.2.2.2.2.2.2.2.2.2.2.1, T.2.2.2.2.2.2.2.2.2.2.2.2.2.2.2.2) p1 q8 e7) vv_X7_165 hK hP rfl rfl rfl rfl rfl hl.1 (Nat.le_of_ble_eq_true rfl) dX7_nearestKey_40 (by decide) (by decide) ⟨Nat.le_refl _, Nat.le_refl _⟩ ?_
      refine lv_istore_n (lv' := [(2, .int q8), (0, .ref (a 0)), (1, .int p1)]) hx hb dX7_nearestKey_43 rfl hl (by decide) rfl (fun ls hl => ?_)
      refine lv_aload_n hx hb dX7_nearestKey_44 rfl (lv_at hl 1 rfl) ?_
      refine lv_iload_n hx hb dX7_nearestKey_45 rfl (lv_at hl 2 rfl) ?_
      obtain ⟨q10, e9, hf⟩ := pq_bind hf
      refine pq_cV S (c_X7_below l g a (0, T.2.1, T.2.2.1, T.2.2.2.1, T.2.2.2.2.1, T.2.2.2.2.2.1, T.2.2.2.2.2.2.1, T.2.2.2.2.2.2.2.1, T.2.2.2.2.2.2.2.2.1, T.2.2.2.2.2.2.2.2.2.1, T.2.2.2.2.2.2.2.2.2.2.1, T.2.2.2.2.2.2.2.2.2.2.2.1, T.2.2.2.2.2.2.2.2.2.2.2.2.1, T.2.2.2.2.2.2.2.2.2.2.2.2.2.1, T.2.2.2.2.2.2.2.2.2.2.2.2.2.2.1, T.2.2.2.2.2.2.2.2.2.2.2.2.2.2.2.1, T.2.2.2.2.2.2.2.2.2.2.2.2.2.2.2.2) p1 q10 e9) vv_X7_61 hK hP rfl rfl rfl rfl rfl hl.1 (Nat.le_of_ble_eq_true rfl) dX7_nearestKey_46 (by decide) (by decide) ⟨Nat.le_refl _, Nat.le_refl _⟩ ?_
      refine lv_istore_n (lv' := [(3, .int q10), (2, .int q8), (0, .ref (a 0)), (1, .int p1)]) hx hb dX7_nearestKey_49 rfl hl (by decide) rfl (fun ls hl => ?_)
      refine lv_iload_n hx hb dX7_nearestKey_50 rfl (lv_at hl 1 rfl) ?_
      refine lv_if_ge (tgt := 60) hx hb dX7_nearestKey_51 (by decide) (fun h11 => ?_) (fun h11 => ?_)
      · replace hf := pq_ifp h11 hf
        refine lv_iload_n hx hb dX7_nearestKey_60 rfl (lv_at hl 0 rfl) ?_
        refine lv_aload_n hx hb dX7_nearestKey_61 rfl (lv_at hl 2 rfl) ?_
        refine pq_get S hK hP inX7 0 rfl rfl 1 (by decide) fl_X7_9 rfl (v := .ref (a 1)) rfl dX7_nearestKey_62 ?_
        refine lv_iconst (v := 0) hx hb dX7_nearestKey_65 (by decide) ?_
        refine va_iald hx hb hK.1 hP 1 0 rfl rfl (show ¬ ((0 : Int32) < 0 ∨ 770 ≤ (0 : Int32).toNatClampNeg) by decide) dX7_nearestKey_66 ?_
        refine lv_icmp_ge (tgt := 95) hx hb dX7_nearestKey_67 (by decide) (fun h12 => ?_) (fun h12 => ?_)
        · replace hf := pq_ifp h12 hf
          exact B95 (0, T.2.1, T.2.2.1, T.2.2.2.1, T.2.2.2.2.1, T.2.2.2.2.2.1, T.2.2.2.2.2.2.1, T.2.2.2.2.2.2.2.1, T.2.2.2.2.2.2.2.2.1, T.2.2.2.2.2.2.2.2.2.1, T.2.2.2.2.2.2.2.2.2.2.1, T.2.2.2.2.2.2.2.2.2.2.2.1, T.2.2.2.2.2.2.2.2.2.2.2.2.1, T.2.2.2.2.2.2.2.2.2.2.2.2.2.1, T.2.2.2.2.2.2.2.2.2.2.2.2.2.2.1, T.2.2.2.2.2.2.2.2.2.2.2.2.2.2.2.1, T.2.2.2.2.2.2.2.2.2.2.2.2.2.2.2.2) q8 ls _ _ hP hD hS (lv_sub hl [2, 1] rfl) hf
        · replace hf := pq_ifn h12 hf
          refine lv_aload_n hx hb dX7_nearestKey_70 rfl (lv_at hl 2 rfl) ?_
          refine lv_iload_n hx hb dX7_nearestKey_71 rfl (lv_at hl 0 rfl) ?_
          obtain ⟨q14, e13, hf⟩ := pq_bind hf
          refine pq_cV S (c_X7_key l g a (0, T.2.1, T.2.2.1, T.2.2.2.1, T.2.2.2.2.1, T.2.2.2.2.2.1, T.2.2.2.2.2.2.1, T.2.2.2.2.2.2.2.1, T.2.2.2.2.2.2.2.2.1, T.2.2.2.2.2.2.2.2.2.1, T.2.2.2.2.2.2.2.2.2.2.1, T.2.2.2.2.2.2.2.2.2.2.2.1, T.2.2.2.2.2.2.2.2.2.2.2.2.1, T.2.2.2.2.2.2.2.2.2.2.2.2.2.1, T.2.2.2.2.2.2.2.2.2.2.2.2.2.2.1, T.2.2.2.2.2.2.2.2.2.2.2.2.2.2.2.1, T.2.2.2.2.2.2.2.2.2.2.2.2.2.2.2.2) q10 q14 e13) vv_X7_57 hK hP rfl rfl rfl rfl rfl hl.1 (Nat.le_of_ble_eq_true rfl) dX7_nearestKey_72 (by decide) (by decide) ⟨Nat.le_refl _, Nat.le_refl _⟩ ?_
          refine lv_iload_n hx hb dX7_nearestKey_75 rfl (lv_at hl 3 rfl) ?_
          refine lv_isub hx hb dX7_nearestKey_76 ?_
          refine lv_iload_n hx hb dX7_nearestKey_77 rfl (lv_at hl 3 rfl) ?_
          refine lv_aload_n hx hb dX7_nearestKey_78 rfl (lv_at hl 2 rfl) ?_
          refine lv_iload_n hx hb dX7_nearestKey_79 rfl (lv_at hl 1 rfl) ?_
          obtain ⟨q16, e15, hf⟩ := pq_bind hf
          refine pq_cV S (c_X7_key l g a (0, T.2.1, T.2.2.1, T.2.2.2.1, T.2.2.2.2.1, T.2.2.2.2.2.1, T.2.2.2.2.2.2.1, T.2.2.2.2.2.2.2.1, T.2.2.2.2.2.2.2.2.1, T.2.2.2.2.2.2.2.2.2.1, T.2.2.2.2.2.2.2.2.2.2.1, T.2.2.2.2.2.2.2.2.2.2.2.1, T.2.2.2.2.2.2.2.2.2.2.2.2.1, T.2.2.2.2.2.2.2.2.2.2.2.2.2.1, T.2.2.2.2.2.2.2.2.2.2.2.2.2.2.1, T.2.2.2.2.2.2.2.2.2.2.2.2.2.2.2.1, T.2.2.2.2.2.2.2.2.2.2.2.2.2.2.2.2) q8 q16 e15) vv_X7_57 hK hP rfl rfl rfl rfl rfl hl.1 (Nat.le_of_ble_eq_true rfl) dX7_nearestKey_80 (by decide) (by decide) ⟨Nat.le_refl _, Nat.le_refl _⟩ ?_
          refine lv_isub hx hb dX7_nearestKey_83 ?_
          refine lv_icmp_ge (tgt := 95) hx hb dX7_nearestKey_84 (by decide) (fun h17 => ?_) (fun h17 => ?_)
          · replace hf := pq_ifp h17 hf
            exact B95 (0, T.2.1, T.2.2.1, T.2.2.2.1, T.2.2.2.2.1, T.2.2.2.2.2.1, T.2.2.2.2.2.2.1, T.2.2.2.2.2.2.2.1, T.2.2.2.2.2.2.2.2.1, T.2.2.2.2.2.2.2.2.2.1, T.2.2.2.2.2.2.2.2.2.2.1, T.2.2.2.2.2.2.2.2.2.2.2.1, T.2.2.2.2.2.2.2.2.2.2.2.2.1, T.2.2.2.2.2.2.2.2.2.2.2.2.2.1, T.2.2.2.2.2.2.2.2.2.2.2.2.2.2.1, T.2.2.2.2.2.2.2.2.2.2.2.2.2.2.2.1, T.2.2.2.2.2.2.2.2.2.2.2.2.2.2.2.2) q8 ls _ _ hP hD hS (lv_sub hl [2, 1] rfl) hf
          · replace hf := pq_ifn h17 hf
            refine lv_aload_n hx hb dX7_nearestKey_87 rfl (lv_at hl 2 rfl) ?_
            refine lv_iload_n hx hb dX7_nearestKey_88 rfl (lv_at hl 0 rfl) ?_
            obtain ⟨q19, e18, hf⟩ := pq_bind hf
            refine pq_cV S (c_X7_key l g a (0, T.2.1, T.2.2.1, T.2.2.2.1, T.2.2.2.2.1, T.2.2.2.2.2.1, T.2.2.2.2.2.2.1, T.2.2.2.2.2.2.2.1, T.2.2.2.2.2.2.2.2.1, T.2.2.2.2.2.2.2.2.2.1, T.2.2.2.2.2.2.2.2.2.2.1, T.2.2.2.2.2.2.2.2.2.2.2.1, T.2.2.2.2.2.2.2.2.2.2.2.2.1, T.2.2.2.2.2.2.2.2.2.2.2.2.2.1, T.2.2.2.2.2.2.2.2.2.2.2.2.2.2.1, T.2.2.2.2.2.2.2.2.2.2.2.2.2.2.2.1, T.2.2.2.2.2.2.2.2.2.2.2.2.2.2.2.2) q10 q19 e18) vv_X7_57 hK hP rfl rfl rfl rfl rfl hl.1 (Nat.le_of_ble_eq_true rfl) dX7_nearestKey_89 (by decide) (by decide) ⟨Nat.le_refl _, Nat.le_refl _⟩ ?_
            refine lv_goto (tgt := 100) hx hb dX7_nearestKey_92 (by decide) ?_
            obtain ⟨h8, h9⟩ := pq_pair hf
            exact hend _ _ _ _ _ dX7_nearestKey_100 rfl h8 (by rw [← h9]; exact hP) hS
      · replace hf := pq_ifn h11 hf
        refine lv_aload_n hx hb dX7_nearestKey_54 rfl (lv_at hl 2 rfl) ?_
        refine lv_iload_n hx hb dX7_nearestKey_55 rfl (lv_at hl 0 rfl) ?_
        obtain ⟨q21, e20, hf⟩ := pq_bind hf
        refine pq_cV S (c_X7_key l g a (0, T.2.1, T.2.2.1, T.2.2.2.1, T.2.2.2.2.1, T.2.2.2.2.2.1, T.2.2.2.2.2.2.1, T.2.2.2.2.2.2.2.1, T.2.2.2.2.2.2.2.2.1, T.2.2.2.2.2.2.2.2.2.1, T.2.2.2.2.2.2.2.2.2.2.1, T.2.2.2.2.2.2.2.2.2.2.2.1, T.2.2.2.2.2.2.2.2.2.2.2.2.1, T.2.2.2.2.2.2.2.2.2.2.2.2.2.1, T.2.2.2.2.2.2.2.2.2.2.2.2.2.2.1, T.2.2.2.2.2.2.2.2.2.2.2.2.2.2.2.1, T.2.2.2.2.2.2.2.2.2.2.2.2.2.2.2.2) q10 q21 e20) vv_X7_57 hK hP rfl rfl rfl rfl rfl hl.1 (Nat.le_of_ble_eq_true rfl) dX7_nearestKey_56 (by decide) (by decide) ⟨Nat.le_refl _, Nat.le_refl _⟩ ?_
        obtain ⟨h8, h9⟩ := pq_pair hf
        exact hend _ _ _ _ _ dX7_nearestKey_59 rfl h8 (by rw [← h9]; exact hP) hS
    · replace hf := pq_ifp h6 hf
      refine lv_iconst (v := 2) hx hb dX7_nearestKey_21 (by decide) ?_
      refine lv_goto (tgt := 26) hx hb dX7_nearestKey_22 (by decide) ?_
      refine pq_putf S hK hP hD hS inX7 tyX7_ok nmX7 0 rfl rfl 0 (by decide) fl_X7_27 rfl rfl (ty := .int) rfl rfl rfl (Nat.le_of_ble_eq_true rfl) dX7_nearestKey_26 (fun H locs hP hS => ?_)
      replace hP : va_P g.1 pq_cl (modW g a (2, T.2.1, T.2.2.1, T.2.2.2.1, T.2.2.2.2.1, T.2.2.2.2.2.1, T.2.2.2.2.2.2.1, T.2.2.2.2.2.2.2.1, T.2.2.2.2.2.2.2.2.1, T.2.2.2.2.2.2.2.2.2.1, T.2.2.2.2.2.2.2.2.2.2.1, T.2.2.2.2.2.2.2.2.2.2.2.1, T.2.2.2.2.2.2.2.2.2.2.2.2.1, T.2.2.2.2.2.2.2.2.2.2.2.2.2.1, T.2.2.2.2.2.2.2.2.2.2.2.2.2.2.1, T.2.2.2.2.2.2.2.2.2.2.2.2.2.2.2.1, T.2.2.2.2.2.2.2.2.2.2.2.2.2.2.2.2)) H := hP
      replace hD : va_D A (modW g a (2, T.2.1, T.2.2.1, T.2.2.2.1, T.2.2.2.2.1, T.2.2.2.2.2.1, T.2.2.2.2.2.2.1, T.2.2.2.2.2.2.2.1, T.2.2.2.2.2.2.2.2.1, T.2.2.2.2.2.2.2.2.2.1, T.2.2.2.2.2.2.2.2.2.2.1, T.2.2.2.2.2.2.2.2.2.2.2.1, T.2.2.2.2.2.2.2.2.2.2.2.2.1, T.2.2.2.2.2.2.2.2.2.2.2.2.2.1, T.2.2.2.2.2.2.2.2.2.2.2.2.2.2.1, T.2.2.2.2.2.2.2.2.2.2.2.2.2.2.2.1, T.2.2.2.2.2.2.2.2.2.2.2.2.2.2.2.2)) := pq_adr hD (ad_X7 _ _)
      refine lv_aload_n hx hb dX7_nearestKey_29 rfl (lv_at hl 0 rfl) ?_
      refine pq_get S hK hP inX7 0 rfl rfl 0 (by decide) fl_X7_27 rfl (v := .int 2) rfl dX7_nearestKey_30 ?_
      refine lv_if_eq (tgt := 38) hx hb dX7_nearestKey_33 (by decide) (fun h9 => absurd h9 (by decide)) (fun _ => ?_)
      refine lv_iconst (v := 0) hx hb dX7_nearestKey_36 (by decide) ?_
      obtain ⟨h8, h9⟩ := pq_pair hf
      exact hend _ _ _ _ _ dX7_nearestKey_37 rfl h8 (by rw [← h9]; exact hP) hS
  · replace hf := pq_ifp h5 hf
    refine lv_iconst (v := 1) hx hb dX7_nearestKey_8 (by decide) ?_
    refine lv_goto (tgt := 26) hx hb dX7_nearestKey_9 (by decide) ?_
    refine pq_putf S hK hP hD hS inX7 tyX7_ok nmX7 0 rfl rfl 0 (by decide) fl_X7_27 rfl rfl (ty := .int) rfl rfl rfl (Nat.le_of_ble_eq_true rfl) dX7_nearestKey_26 (fun H locs hP hS => ?_)
    replace hP : va_P g.1 pq_cl (modW g a (1, T.2.1, T.2.2.1, T.2.2.2.1, T.2.2.2.2.1, T.2.2.2.2.2.1, T.2.2.2.2.2.2.1, T.2.2.2.2.2.2.2.1, T.2.2.2.2.2.2.2.2.1, T.2.2.2.2.2.2.2.2.2.1, T.2.2.2.2.2.2.2.2.2.2.1, T.2.2.2.2.2.2.2.2.2.2.2.1, T.2.2.2.2.2.2.2.2.2.2.2.2.1, T.2.2.2.2.2.2.2.2.2.2.2.2.2.1, T.2.2.2.2.2.2.2.2.2.2.2.2.2.2.1, T.2.2.2.2.2.2.2.2.2.2.2.2.2.2.2.1, T.2.2.2.2.2.2.2.2.2.2.2.2.2.2.2.2)) H := hP
    replace hD : va_D A (modW g a (1, T.2.1, T.2.2.1, T.2.2.2.1, T.2.2.2.2.1, T.2.2.2.2.2.1, T.2.2.2.2.2.2.1, T.2.2.2.2.2.2.2.1, T.2.2.2.2.2.2.2.2.1, T.2.2.2.2.2.2.2.2.2.1, T.2.2.2.2.2.2.2.2.2.2.1, T.2.2.2.2.2.2.2.2.2.2.2.1, T.2.2.2.2.2.2.2.2.2.2.2.2.1, T.2.2.2.2.2.2.2.2.2.2.2.2.2.1, T.2.2.2.2.2.2.2.2.2.2.2.2.2.2.1, T.2.2.2.2.2.2.2.2.2.2.2.2.2.2.2.1, T.2.2.2.2.2.2.2.2.2.2.2.2.2.2.2.2)) := pq_adr hD (ad_X7 _ _)
    refine lv_aload_n hx hb dX7_nearestKey_29 rfl (lv_at hl 0 rfl) ?_
    refine pq_get S hK hP inX7 0 rfl rfl 0 (by decide) fl_X7_27 rfl (v := .int 1) rfl dX7_nearestKey_30 ?_
    refine lv_if_eq (tgt := 38) hx hb dX7_nearestKey_33 (by decide) (fun h9 => absurd h9 (by decide)) (fun _ => ?_)
    refine lv_iconst (v := 0) hx hb dX7_nearestKey_36 (by decide) ?_
    obtain ⟨h8, h9⟩ := pq_pair hf
    exact hend _ _ _ _ _ dX7_nearestKey_37 rfl h8 (by rw [← h9]; exact hP) hS
def f_X7_rankOf (T : ModS) (p1 : Int32) : Option (Int32 × (ModS)) :=
    (f_X7_below (0, T.2.1, T.2.2.1, T.2.2.2.1, T.2.2.2.2.1, T.2.2.2.2.2.1, T.2.2.2.2.2.2.1, T.2.2.2.2.2.2.2.1, T.2.2.2.2.2.2.2.2.1, T.2.2.2.2.2.2.2.2.2.1, T.2.2.2.2.2.2.2.2.2.2.1, T.2.2.2.2.2.2.2.2.2.2.2.1, T.2.2.2.2.2.2.2.2.2.2.2.2.1, T.2.2.2.2.2.2.2.2.2.2.2.2.2.1, T.2.2.2.2.2.2.2.2.2.2.2.2.2.2.1, T.2.2.2.2.2.2.2.2.2.2.2.2.2.2.2.1, T.2.2.2.2.2.2.2.2.2.2.2.2.2.2.2.2) p1).bind fun q2 =>
    some (q2, (0, T.2.1, T.2.2.1, T.2.2.2.1, T.2.2.2.2.1, T.2.2.2.2.2.1, T.2.2.2.2.2.2.1, T.2.2.2.2.2.2.2.1, T.2.2.2.2.2.2.2.2.1, T.2.2.2.2.2.2.2.2.2.1, T.2.2.2.2.2.2.2.2.2.2.1, T.2.2.2.2.2.2.2.2.2.2.2.1, T.2.2.2.2.2.2.2.2.2.2.2.2.1, T.2.2.2.2.2.2.2.2.2.2.2.2.2.1, T.2.2.2.2.2.2.2.2.2.2.2.2.2.2.1, T.2.2.2.2.2.2.2.2.2.2.2.2.2.2.2.1, T.2.2.2.2.2.2.2.2.2.2.2.2.2.2.2.2))
set_option maxHeartbeats 4000000 in
set_option maxRecDepth 100000 in
theorem c_X7_rankOf (l : Launch) (g : pq_g) (a : Nat → Nat) (T : ModS) (p1 : Int32) (r : Int32) (T1 : ModS) (hf : f_X7_rankOf T p1 = some (r, T1)) : pq_Mi l yX7_rankOf cX7_rankOf 2 .int 3 g (modW g a T) [.ref (a 0), .int p1] r (modW g a T1) := by
  rw [f_X7_rankOf] at hf
  refine pq_Mi.of (own := RX7) (by decide) rfl (Nat.le_of_ble_eq_true rfl) rfl ?_
  intro p e s m below meth c ls Q A S hP hK hD hS hA hl hend
  obtain ⟨hx, hb, hml, hown, hts⟩ := id S
  refine lv_aload_n hx hb dX7_rankOf_0 rfl (lv_at hl 0 rfl) ?_
  refine lv_iconst (v := 0) hx hb dX7_rankOf_1 (by decide) ?_
  refine pq_putf S hK hP hD hS inX7 tyX7_ok nmX7 0 rfl rfl 0 (by decide) fl_X7_27 rfl rfl (ty := .int) rfl rfl rfl (Nat.le_of_ble_eq_true rfl) dX7_rankOf_2 (fun H locs hP hS => ?_)
  replace hP : va_P g.1 pq_cl (modW g a (0, T.2.1, T.2.2.1, T.2.2.2.1, T.2.2.2.2.1, T.2.2.2.2.2.1, T.2.2.2.2.2.2.1, T.2.2.2.2.2.2.2.1, T.2.2.2.2.2.2.2.2.1, T.2.2.2.2.2.2.2.2.2.1, T.2.2.2.2.2.2.2.2.2.2.1, T.2.2.2.2.2.2.2.2.2.2.2.1, T.2.2.2.2.2.2.2.2.2.2.2.2.1, T.2.2.2.2.2.2.2.2.2.2.2.2.2.1, T.2.2.2.2.2.2.2.2.2.2.2.2.2.2.1, T.2.2.2.2.2.2.2.2.2.2.2.2.2.2.2.1, T.2.2.2.2.2.2.2.2.2.2.2.2.2.2.2.2)) H := hP
  replace hD : va_D A (modW g a (0, T.2.1, T.2.2.1, T.2.2.2.1, T.2.2.2.2.1, T.2.2.2.2.2.1, T.2.2.2.2.2.2.1, T.2.2.2.2.2.2.2.1, T.2.2.2.2.2.2.2.2.1, T.2.2.2.2.2.2.2.2.2.1, T.2.2.2.2.2.2.2.2.2.2.1, T.2.2.2.2.2.2.2.2.2.2.2.1, T.2.2.2.2.2.2.2.2.2.2.2.2.1, T.2.2.2.2.2.2.2.2.2.2.2.2.2.1, T.2.2.2.2.2.2.2.2.2.2.2.2.2.2.1, T.2.2.2.2.2.2.2.2.2.2.2.2.2.2.2.1, T.2.2.2.2.2.2.2.2.2.2.2.2.2.2.2.2)) := pq_adr hD (ad_X7 _ _)
  refine lv_aload_n hx hb dX7_rankOf_5 rfl (lv_at hl 0 rfl) ?_
  refine lv_iload_n hx hb dX7_rankOf_6 rfl (lv_at hl 1 rfl) ?_
  obtain ⟨q2, e1, hf⟩ := pq_bind hf
  refine pq_cV S (c_X7_below l g a (0, T.2.1, T.2.2.1, T.2.2.2.1, T.2.2.2.2.1, T.2.2.2.2.2.1, T.2.2.2.2.2.2.1, T.2.2.2.2.2.2.2.1, T.2.2.2.2.2.2.2.2.1, T.2.2.2.2.2.2.2.2.2.1, T.2.2.2.2.2.2.2.2.2.2.1, T.2.2.2.2.2.2.2.2.2.2.2.1, T.2.2.2.2.2.2.2.2.2.2.2.2.1, T.2.2.2.2.2.2.2.2.2.2.2.2.2.1, T.2.2.2.2.2.2.2.2.2.2.2.2.2.2.1, T.2.2.2.2.2.2.2.2.2.2.2.2.2.2.2.1, T.2.2.2.2.2.2.2.2.2.2.2.2.2.2.2.2) p1 q2 e1) vv_X7_61 hK hP rfl rfl rfl rfl rfl hl.1 (Nat.le_of_ble_eq_true rfl) dX7_rankOf_7 (by decide) (by decide) ⟨Nat.le_refl _, Nat.le_refl _⟩ ?_
  obtain ⟨h8, h9⟩ := pq_pair hf
  exact hend _ _ _ _ _ dX7_rankOf_10 rfl h8 (by rw [← h9]; exact hP) hS
def f_X7_keyAt (T : ModS) (p1 : Int32) : Option (Int32 × (ModS)) :=
    (f_X7_keyOr T p1).bind fun q2 =>
    some (q2.1, q2.2)
set_option maxHeartbeats 4000000 in
set_option maxRecDepth 100000 in
theorem c_X7_keyAt (l : Launch) (g : pq_g) (a : Nat → Nat) (T : ModS) (p1 : Int32) (r : Int32) (T1 : ModS) (hf : f_X7_keyAt T p1 = some (r, T1)) : pq_Mi l yX7_keyAt cX7_keyAt 2 .int 3 g (modW g a T) [.ref (a 0), .int p1] r (modW g a T1) := by
  rw [f_X7_keyAt] at hf
  refine pq_Mi.of (own := RX7) (by decide) rfl (Nat.le_of_ble_eq_true rfl) rfl ?_
  intro p e s m below meth c ls Q A S hP hK hD hS hA hl hend
  obtain ⟨hx, hb, hml, hown, hts⟩ := id S
  refine lv_aload_n hx hb dX7_keyAt_0 rfl (lv_at hl 0 rfl) ?_
  refine lv_iload_n hx hb dX7_keyAt_1 rfl (lv_at hl 1 rfl) ?_
  obtain ⟨q2, e1, hf⟩ := pq_bind hf
  refine pq_cVi S (c_X7_keyOr l g a T p1 q2.1 q2.2 e1) vv_X7_162 hK hP hD hS hA rfl rfl rfl rfl rfl hl.1 (Nat.le_of_ble_eq_true rfl) dX7_keyAt_2 (by decide) (by decide) ⟨Nat.le_refl _, Nat.le_refl _⟩ (fun H9 locs hk hP1 hS => ?_)
  replace hP := hP1
  replace hP : va_P g.1 pq_cl (modW g a q2.2) H9 := hP
  replace hD : va_D A (modW g a q2.2) := pq_adr hD (ad_X7 _ _)
  clear hk
  generalize H9 = H at hP hS ⊢
  obtain ⟨h8, h9⟩ := pq_pair hf
  exact hend _ _ _ _ _ dX7_keyAt_5 rfl h8 (by rw [← h9]; exact hP) hS
def f_X7_keyByPriority_c17 (k2 : ModS → Int32 → Int32 → Option (Int32 × (ModS))) : Nat → ModS → Int32 → Int32 → Int32 → Int32 → Option (Int32 × (ModS))
  | 0, _, _, _, _, _ => none
  | n + 1, T, v1, v2, v3, v4 =>
    if (T.2.1 (0 : Int32).toNatClampNeg) ≤ v4 then
      if v3 = v1 then
        (f_X7_isFine T 1).bind fun q9 =>
        if q9.1 = 0 then
          k2 q9.2 v1 (v2 + 1)
        else
          (f_X7_key q9.2 v2).bind fun q12 =>
          some (q12, q9.2)
      else
        (f_X7_isFine T 0).bind fun q4 =>
        if q4.1 = 0 then
          k2 q4.2 v1 (v2 + 1)
        else
          (f_X7_key q4.2 v2).bind fun q7 =>
          some (q7, q4.2)
    else
      if v4 = v2 then
        f_X7_keyByPriority_c17 k2 n T v1 v2 (v3 + 0) (v4 + 1)
      else
        (f_X7_isAbove T v4 v2).bind fun q15 =>
        if q15 = 0 then
          f_X7_keyByPriority_c17 k2 n T v1 v2 (v3 + 0) (v4 + 1)
        else
          f_X7_keyByPriority_c17 k2 n T v1 v2 (v3 + 1) (v4 + 1)
def f_X7_keyByPriority_c2 : Nat → ModS → Int32 → Int32 → Option (Int32 × (ModS))
  | 0, _, _, _ => none
  | n + 1, T, v1, v2 =>
    if (T.2.1 (0 : Int32).toNatClampNeg) ≤ v2 then
      some (0, (1, T.2.1, T.2.2.1, T.2.2.2.1, T.2.2.2.2.1, T.2.2.2.2.2.1, T.2.2.2.2.2.2.1, T.2.2.2.2.2.2.2.1, T.2.2.2.2.2.2.2.2.1, T.2.2.2.2.2.2.2.2.2.1, T.2.2.2.2.2.2.2.2.2.2.1, T.2.2.2.2.2.2.2.2.2.2.2.1, T.2.2.2.2.2.2.2.2.2.2.2.2.1, T.2.2.2.2.2.2.2.2.2.2.2.2.2.1, T.2.2.2.2.2.2.2.2.2.2.2.2.2.2.1, T.2.2.2.2.2.2.2.2.2.2.2.2.2.2.2.1, T.2.2.2.2.2.2.2.2.2.2.2.2.2.2.2.2))
    else
      f_X7_keyByPriority_c17 (f_X7_keyByPriority_c2 n) 200 T v1 v2 0 0
def f_X7_keyByPriority (T : ModS) (p1 : Int32) : Option (Int32 × (ModS)) :=
    f_X7_keyByPriority_c2 200 T p1 0
set_option maxHeartbeats 4000000 in
set_option maxRecDepth 100000 in
theorem c_X7_keyByPriority (l : Launch) (g : pq_g) (a : Nat → Nat) (T : ModS) (p1 : Int32) (r : Int32) (T1 : ModS) (hf : f_X7_keyByPriority T p1 = some (r, T1)) : pq_Mi l yX7_keyByPriority cX7_keyByPriority 5 .int 3 g (modW g a T) [.ref (a 0), .int p1] r (modW g a T1) := by
  rw [f_X7_keyByPriority] at hf
  refine pq_Mi.of (own := RX7) (by decide) rfl (Nat.le_of_ble_eq_true rfl) rfl ?_
  intro p e s m below meth c ls Q A S hP hK hD hS hA hl hend
  obtain ⟨hx, hb, hml, hown, hts⟩ := id S
  have B2 : ∀ (n2 : Nat) (T : ModS) (v1 : Int32) (v2 : Int32) (ls : Array Slot) (H : Heap) (locs : List Loc), va_P g.1 pq_cl (modW g a T) H → va_D A (modW g a T) → va_S A s.heap H locs → lv_has ls 5 [(0, .ref (a 0)), (1, .int v1), (2, .int v2)] → f_X7_keyByPriority_c2 n2 T v1 v2 = some (r, T1) → W p l e (pq_rm 3 0 0) s m ([.ref (a 0), .int p1] : List Value).toArray below meth c H locs 0 0 Q (F0 m 2 ls []) := by
    intro n2
    induction n2 with
    | zero =>
      intro T v1 v2 ls H locs hP hD hS hl hf
      exact absurd hf (by simp [f_X7_keyByPriority_c2])
    | succ n2 ih2 =>
      have B17 : ∀ (n17 : Nat) (T : ModS) (v1 : Int32) (v2 : Int32) (v3 : Int32) (v4 : Int32) (ls : Array Slot) (H : Heap) (locs : List Loc), va_P g.1 pq_cl (modW g a T) H → va_D A (modW g a T) → va_S A s.heap H locs → lv_has ls 5 [(0, .ref (a 0)), (1, .int v1), (2, .int v2), (3, .int v3), (4, .int v4)] → f_X7_keyByPriority_c17 (f_X7_keyByPriority_c2 n2) n17 T v1 v2 v3 v4 = some (r, T1) → W p l e (pq_rm 3 0 0) s m ([.ref (a 0), .int p1] : List Value).toArray below meth c H locs 0 0 Q (F0 m 17 ls []) := by
        intro n17
        induction n17 with
        | zero =>
          intro T v1 v2 v3 v4 ls H locs hP hD hS hl hf
          exact absurd hf (by simp [f_X7_keyByPriority_c17])
        | succ n17 ih17 =>
          intro T v1 v2 v3 v4 ls H locs hP hD hS hl hf
          rw [f_X7_keyByPriority_c17] at hf
          refine lv_iload hx hb dX7_keyByPriority_17 (lv_at hl 4 rfl) ?_
          refine lv_aload_n hx hb dX7_keyByPriority_19 rfl (lv_at hl 0 rfl) ?_
          refine pq_get S hK hP inX7 0 rfl rfl 1 (by decide) fl_X7_9 rfl (v := .ref (a 1)) rfl dX7_keyByPriority_20 ?_
          refine lv_iconst (v := 0) hx hb dX7_keyByPriority_23 (by decide) ?_
          refine va_iald hx hb hK.1 hP 1 0 rfl rfl (show ¬ ((0 : Int32) < 0 ∨ 770 ≤ (0 : Int32).toNatClampNeg) by decide) dX7_keyByPriority_24 ?_
          refine lv_icmp_ge (tgt := 58) hx hb dX7_keyByPriority_25 (by decide) (fun h1 => ?_) (fun h1 => ?_)
          · replace hf := pq_ifp h1 hf
            refine lv_aload_n hx hb dX7_keyByPriority_58 rfl (lv_at hl 0 rfl) ?_
            refine lv_iload_n hx hb dX7_keyByPriority_59 rfl (lv_at hl 3 rfl) ?_
            refine lv_iload_n hx hb dX7_keyByPriority_60 rfl (lv_at hl 1 rfl) ?_
            refine lv_icmp_ne (tgt := 68) hx hb dX7_keyByPriority_61 (by decide) (fun h2 => ?_) (fun h2 => ?_)
            · replace hf := pq_ifn h2 hf
              refine lv_iconst (v := 0) hx hb dX7_keyByPriority_68 (by decide) ?_
              obtain ⟨q4, e3, hf⟩ := pq_bind hf
              refine pq_cVi S (c_X7_isFine l g a T 0 q4.1 q4.2 e3) vv_X7_53 hK hP hD hS hA rfl rfl rfl rfl rfl hl.1 (Nat.le_of_ble_eq_true rfl) dX7_keyByPriority_69 (by decide) (by decide) ⟨Nat.le_refl _, Nat.le_refl _⟩ (fun H9 locs hk hP1 hS => ?_)
              replace hP := hP1
              replace hP : va_P g.1 pq_cl (modW g a q4.2) H9 := hP
              replace hD : va_D A (modW g a q4.2) := pq_adr hD (ad_X7 _ _)
              clear hk
              generalize H9 = H at hP hS ⊢
              refine lv_if_eq (tgt := 81) hx hb dX7_keyByPriority_72 (by decide) (fun h5 => ?_) (fun h5 => ?_)
              · replace hf := pq_ifp h5 hf
                refine lv_iinc (v := (v2 + 1)) (lv' := [(2, .int (v2 + 1)), (0, .ref (a 0)), (1, .int v1), (3, .int v3), (4, .int v4)]) hx hb dX7_keyByPriority_81 hl (k := 2) rfl rfl (by decide) rfl (fun ls hl => ?_)
                refine lv_goto (tgt := 2) hx hb dX7_keyByPriority_84 (by decide) ?_
                exact ih2 q4.2 v1 (v2 + 1) ls _ _ hP hD hS (lv_sub hl [1, 2, 0] rfl) hf
              · replace hf := pq_ifn h5 hf
                refine lv_aload_n hx hb dX7_keyByPriority_75 rfl (lv_at hl 0 rfl) ?_
                refine lv_iload_n hx hb dX7_keyByPriority_76 rfl (lv_at hl 2 rfl) ?_
                obtain ⟨q7, e6, hf⟩ := pq_bind hf
                refine pq_cV S (c_X7_key l g a q4.2 v2 q7 e6) vv_X7_57 hK hP rfl rfl rfl rfl rfl hl.1 (Nat.le_of_ble_eq_true rfl) dX7_keyByPriority_77 (by decide) (by decide) ⟨Nat.le_refl _, Nat.le_refl _⟩ ?_
                obtain ⟨h8, h9⟩ := pq_pair hf
                exact hend _ _ _ _ _ dX7_keyByPriority_80 rfl h8 (by rw [← h9]; exact hP) hS
            · replace hf := pq_ifp h2 hf
              refine lv_iconst (v := 1) hx hb dX7_keyByPriority_64 (by decide) ?_
              refine lv_goto (tgt := 69) hx hb dX7_keyByPriority_65 (by decide) ?_
              obtain ⟨q9, e8, hf⟩ := pq_bind hf
              refine pq_cVi S (c_X7_isFine l g a T 1 q9.1 q9.2 e8) vv_X7_53 hK hP hD hS hA rfl rfl rfl rfl rfl hl.1 (Nat.le_of_ble_eq_true rfl) dX7_keyByPriority_69 (by decide) (by decide) ⟨Nat.le_refl _, Nat.le_refl _⟩ (fun H9 locs hk hP1 hS => ?_)
              replace hP := hP1
              replace hP : va_P g.1 pq_cl (modW g a q9.2) H9 := hP
              replace hD : va_D A (modW g a q9.2) := pq_adr hD (ad_X7 _ _)
              clear hk
              generalize H9 = H at hP hS ⊢
              refine lv_if_eq (tgt := 81) hx hb dX7_keyByPriority_72 (by decide) (fun h10 => ?_) (fun h10 => ?_)
              · replace hf := pq_ifp h10 hf
                refine lv_iinc (v := (v2 + 1)) (lv' := [(2, .int (v2 + 1)), (0, .ref (a 0)), (1, .int v1), (3, .int v3), (4, .int v4)]) hx hb dX7_keyByPriority_81 hl (k := 2) rfl rfl (by decide) rfl (fun ls hl => ?_)
                refine lv_goto (tgt := 2) hx hb dX7_keyByPriority_84 (by decide) ?_
                exact ih2 q9.2 v1 (v2 + 1) ls _ _ hP hD hS (lv_sub hl [1, 2, 0] rfl) hf
              · replace hf := pq_ifn h10 hf
                refine lv_aload_n hx hb dX7_keyByPriority_75 rfl (lv_at hl 0 rfl) ?_
                refine lv_iload_n hx hb dX7_keyByPriority_76 rfl (lv_at hl 2 rfl) ?_
                obtain ⟨q12, e11, hf⟩ := pq_bind hf
                refine pq_cV S (c_X7_key l g a q9.2 v2 q12 e11) vv_X7_57 hK hP rfl rfl rfl rfl rfl hl.1 (Nat.le_of_ble_eq_true rfl) dX7_keyByPriority_77 (by decide) (by decide) ⟨Nat.le_refl _, Nat.le_refl _⟩ ?_
                obtain ⟨h8, h9⟩ := pq_pair hf
                exact hend _ _ _ _ _ dX7_keyByPriority_80 rfl h8 (by rw [← h9]; exact hP) hS
          · replace hf := pq_ifn h1 hf
            refine lv_iload_n hx hb dX7_keyByPriority_28 rfl (lv_at hl 3 rfl) ?_
            refine lv_iload hx hb dX7_keyByPriority_29 (lv_at hl 4 rfl) ?_
            refine lv_iload_n hx hb dX7_keyByPriority_31 rfl (lv_at hl 2 rfl) ?_
            refine lv_icmp_eq (tgt := 49) hx hb dX7_keyByPriority_32 (by decide) (fun h13 => ?_) (fun h13 => ?_)
            · replace hf := pq_ifp h13 hf
              refine lv_iconst (v := 0) hx hb dX7_keyByPriority_49 (by decide) ?_
              refine lv_iadd hx hb dX7_keyByPriority_50 ?_
              refine lv_istore_n (lv' := [(3, .int (v3 + 0)), (0, .ref (a 0)), (1, .int v1), (2, .int v2), (4, .int v4)]) hx hb dX7_keyByPriority_51 rfl hl (by decide) rfl (fun ls hl => ?_)
              refine lv_iinc (v := (v4 + 1)) (lv' := [(4, .int (v4 + 1)), (3, .int (v3 + 0)), (0, .ref (a 0)), (1, .int v1), (2, .int v2)]) hx hb dX7_keyByPriority_52 hl (k := 4) rfl rfl (by decide) rfl (fun ls hl => ?_)
              refine lv_goto (tgt := 17) hx hb dX7_keyByPriority_55 (by decide) ?_
              exact ih17 T v1 v2 (v3 + 0) (v4 + 1) ls _ _ hP hD hS (lv_sub hl [2, 3, 4, 1, 0] rfl) hf
            · replace hf := pq_ifn h13 hf
              refine lv_aload_n hx hb dX7_keyByPriority_35 rfl (lv_at hl 0 rfl) ?_
              refine lv_iload hx hb dX7_keyByPriority_36 (lv_at hl 4 rfl) ?_
              refine lv_iload_n hx hb dX7_keyByPriority_38 rfl (lv_at hl 2 rfl) ?_
              obtain ⟨q15, e14, hf⟩ := pq_bind hf
              refine pq_cV S (c_X7_isAbove l g a T v4 v2 q15 e14) vv_X7_67 hK hP rfl rfl rfl rfl rfl hl.1 (Nat.le_of_ble_eq_true rfl) dX7_keyByPriority_39 (by decide) (by decide) ⟨Nat.le_refl _, Nat.le_refl _⟩ ?_
              refine lv_if_eq (tgt := 49) hx hb dX7_keyByPriority_42 (by decide) (fun h16 => ?_) (fun h16 => ?_)
              · replace hf := pq_ifp h16 hf
                refine lv_iconst (v := 0) hx hb dX7_keyByPriority_49 (by decide) ?_
                refine lv_iadd hx hb dX7_keyByPriority_50 ?_
                refine lv_istore_n (lv' := [(3, .int (v3 + 0)), (0, .ref (a 0)), (1, .int v1), (2, .int v2), (4, .int v4)]) hx hb dX7_keyByPriority_51 rfl hl (by decide) rfl (fun ls hl => ?_)
                refine lv_iinc (v := (v4 + 1)) (lv' := [(4, .int (v4 + 1)), (3, .int (v3 + 0)), (0, .ref (a 0)), (1, .int v1), (2, .int v2)]) hx hb dX7_keyByPriority_52 hl (k := 4) rfl rfl (by decide) rfl (fun ls hl => ?_)
                refine lv_goto (tgt := 17) hx hb dX7_keyByPriority_55 (by decide) ?_
                exact ih17 T v1 v2 (v3 + 0) (v4 + 1) ls _ _ hP hD hS (lv_sub hl [2, 3, 4, 1, 0] rfl) hf
              · replace hf := pq_ifn h16 hf
                refine lv_iconst (v := 1) hx hb dX7_keyByPriority_45 (by decide) ?_
                refine lv_goto (tgt := 50) hx hb dX7_keyByPriority_46 (by decide) ?_
                refine lv_iadd hx hb dX7_keyByPriority_50 ?_
                refine lv_istore_n (lv' := [(3, .int (v3 + 1)), (0, .ref (a 0)), (1, .int v1), (2, .int v2), (4, .int v4)]) hx hb dX7_keyByPriority_51 rfl hl (by decide) rfl (fun ls hl => ?_)
                refine lv_iinc (v := (v4 + 1)) (lv' := [(4, .int (v4 + 1)), (3, .int (v3 + 1)), (0, .ref (a 0)), (1, .int v1), (2, .int v2)]) hx hb dX7_keyByPriority_52 hl (k := 4) rfl rfl (by decide) rfl (fun ls hl => ?_)
                refine lv_goto (tgt := 17) hx hb dX7_keyByPriority_55 (by decide) ?_
                exact ih17 T v1 v2 (v3 + 1) (v4 + 1) ls _ _ hP hD hS (lv_sub hl [2, 3, 4, 1, 0] rfl) hf
      intro T v1 v2 ls H locs hP hD hS hl hf
      rw [f_X7_keyByPriority_c2] at hf
      refine lv_iload_n hx hb dX7_keyByPriority_2 rfl (lv_at hl 2 rfl) ?_
      refine lv_aload_n hx hb dX7_keyByPriority_3 rfl (lv_at hl 0 rfl) ?_
      refine pq_get S hK hP inX7 0 rfl rfl 1 (by decide) fl_X7_9 rfl (v := .ref (a 1)) rfl dX7_keyByPriority_4 ?_
      refine lv_iconst (v := 0) hx hb dX7_keyByPriority_7 (by decide) ?_
      refine va_iald hx hb hK.1 hP 1 0 rfl rfl (show ¬ ((0 : Int32) < 0 ∨ 770 ≤ (0 : Int32).toNatClampNeg) by decide) dX7_keyByPriority_8 ?_
      refine lv_icmp_ge (tgt := 87) hx hb dX7_keyByPriority_9 (by decide) (fun h17 => ?_) (fun h17 => ?_)
      · replace hf := pq_ifp h17 hf
        refine lv_aload_n hx hb dX7_keyByPriority_87 rfl (lv_at hl 0 rfl) ?_
        refine lv_iconst (v := 1) hx hb dX7_keyByPriority_88 (by decide) ?_
        refine pq_putf S hK hP hD hS inX7 tyX7_ok nmX7 0 rfl rfl 0 (by decide) fl_X7_27 rfl rfl (ty := .int) rfl rfl rfl (Nat.le_of_ble_eq_true rfl) dX7_keyByPriority_89 (fun H locs hP hS => ?_)
        replace hP : va_P g.1 pq_cl (modW g a (1, T.2.1, T.2.2.1, T.2.2.2.1, T.2.2.2.2.1, T.2.2.2.2.2.1, T.2.2.2.2.2.2.1, T.2.2.2.2.2.2.2.1, T.2.2.2.2.2.2.2.2.1, T.2.2.2.2.2.2.2.2.2.1, T.2.2.2.2.2.2.2.2.2.2.1, T.2.2.2.2.2.2.2.2.2.2.2.1, T.2.2.2.2.2.2.2.2.2.2.2.2.1, T.2.2.2.2.2.2.2.2.2.2.2.2.2.1, T.2.2.2.2.2.2.2.2.2.2.2.2.2.2.1, T.2.2.2.2.2.2.2.2.2.2.2.2.2.2.2.1, T.2.2.2.2.2.2.2.2.2.2.2.2.2.2.2.2)) H := hP
        replace hD : va_D A (modW g a (1, T.2.1, T.2.2.1, T.2.2.2.1, T.2.2.2.2.1, T.2.2.2.2.2.1, T.2.2.2.2.2.2.1, T.2.2.2.2.2.2.2.1, T.2.2.2.2.2.2.2.2.1, T.2.2.2.2.2.2.2.2.2.1, T.2.2.2.2.2.2.2.2.2.2.1, T.2.2.2.2.2.2.2.2.2.2.2.1, T.2.2.2.2.2.2.2.2.2.2.2.2.1, T.2.2.2.2.2.2.2.2.2.2.2.2.2.1, T.2.2.2.2.2.2.2.2.2.2.2.2.2.2.1, T.2.2.2.2.2.2.2.2.2.2.2.2.2.2.2.1, T.2.2.2.2.2.2.2.2.2.2.2.2.2.2.2.2)) := pq_adr hD (ad_X7 _ _)
        refine lv_iconst (v := 0) hx hb dX7_keyByPriority_92 (by decide) ?_
        obtain ⟨h8, h9⟩ := pq_pair hf
        exact hend _ _ _ _ _ dX7_keyByPriority_93 rfl h8 (by rw [← h9]; exact hP) hS
      · replace hf := pq_ifn h17 hf
        refine lv_iconst (v := 0) hx hb dX7_keyByPriority_12 (by decide) ?_
        refine lv_istore_n (lv' := [(3, .int 0), (0, .ref (a 0)), (1, .int v1), (2, .int v2)]) hx hb dX7_keyByPriority_13 rfl hl (by decide) rfl (fun ls hl => ?_)
        refine lv_iconst (v := 0) hx hb dX7_keyByPriority_14 (by decide) ?_
        refine lv_istore (lv' := [(4, .int 0), (3, .int 0), (0, .ref (a 0)), (1, .int v1), (2, .int v2)]) hx hb dX7_keyByPriority_15 hl (by decide) rfl (fun ls hl => ?_)
        exact B17 200 T v1 v2 0 0 ls _ _ hP hD hS (lv_sub hl [2, 3, 4, 1, 0] rfl) hf
  refine lv_iconst (v := 0) hx hb dX7_keyByPriority_0 (by decide) ?_
  refine lv_istore_n (lv' := [(2, .int 0), (0, .ref (a 0)), (1, .int p1)]) hx hb dX7_keyByPriority_1 rfl hl (by decide) rfl (fun ls hl => ?_)
  exact B2 200 T p1 0 ls _ _ hP hD hS (lv_sub hl [1, 2, 0] rfl) hf
def f_X7_root (T : ModS) : Option (Int32 × (ModS)) :=
    (f_X7_top T 0 ((T.2.1 (0 : Int32).toNatClampNeg) - 1)).bind fun q2 =>
    (f_X7_keyOr T q2).bind fun q4 =>
    some (q4.1, q4.2)
set_option maxHeartbeats 4000000 in
set_option maxRecDepth 100000 in
theorem c_X7_root (l : Launch) (g : pq_g) (a : Nat → Nat) (T : ModS) (r : Int32) (T1 : ModS) (hf : f_X7_root T = some (r, T1)) : pq_Mi l yX7_root cX7_root 1 .int 4 g (modW g a T) [.ref (a 0)] r (modW g a T1) := by
  rw [f_X7_root] at hf
  refine pq_Mi.of (own := RX7) (by decide) rfl (Nat.le_of_ble_eq_true rfl) rfl ?_
  intro p e s m below meth c ls Q A S hP hK hD hS hA hl hend
  obtain ⟨hx, hb, hml, hown, hts⟩ := id S
  refine lv_aload_n hx hb dX7_root_0 rfl (lv_at hl 0 rfl) ?_
  refine lv_aload_n hx hb dX7_root_1 rfl (lv_at hl 0 rfl) ?_
  refine lv_iconst (v := 0) hx hb dX7_root_2 (by decide) ?_
  refine lv_aload_n hx hb dX7_root_3 rfl (lv_at hl 0 rfl) ?_
  refine pq_get S hK hP inX7 0 rfl rfl 1 (by decide) fl_X7_9 rfl (v := .ref (a 1)) rfl dX7_root_4 ?_
  refine lv_iconst (v := 0) hx hb dX7_root_7 (by decide) ?_
  refine va_iald hx hb hK.1 hP 1 0 rfl rfl (show ¬ ((0 : Int32) < 0 ∨ 770 ≤ (0 : Int32).toNatClampNeg) by decide) dX7_root_8 ?_
  refine lv_iconst (v := 1) hx hb dX7_root_9 (by decide) ?_
  refine lv_isub hx hb dX7_root_10 ?_
  obtain ⟨q2, e1, hf⟩ := pq_bind hf
  refine pq_cV S (c_X7_top l g a T 0 ((T.2.1 (0 : Int32).toNatClampNeg) - 1) q2 e1) vv_X7_168 hK hP rfl rfl rfl rfl rfl hl.1 (Nat.le_of_ble_eq_true rfl) dX7_root_11 (by decide) (by decide) ⟨Nat.le_refl _, Nat.le_refl _⟩ ?_
  obtain ⟨q4, e3, hf⟩ := pq_bind hf
  refine pq_cVi S (c_X7_keyOr l g a T q2 q4.1 q4.2 e3) vv_X7_162 hK hP hD hS hA rfl rfl rfl rfl rfl hl.1 (Nat.le_of_ble_eq_true rfl) dX7_root_14 (by decide) (by decide) ⟨Nat.le_refl _, Nat.le_refl _⟩ (fun H9 locs hk hP1 hS => ?_)
  replace hP := hP1
  replace hP : va_P g.1 pq_cl (modW g a q4.2) H9 := hP
  replace hD : va_D A (modW g a q4.2) := pq_adr hD (ad_X7 _ _)
  clear hk
  generalize H9 = H at hP hS ⊢
  obtain ⟨h8, h9⟩ := pq_pair hf
  exact hend _ _ _ _ _ dX7_root_17 rfl h8 (by rw [← h9]; exact hP) hS
def f_X7_leftAt (T : ModS) (p1 : Int32) : Option (Int32) :=
    if 0 ≤ p1 then
      (f_X7_first T p1).bind fun q3 =>
      (f_X7_top T q3 (p1 - 1)).bind fun q5 =>
      some q5
    else
      some (-1)
set_option maxHeartbeats 4000000 in
set_option maxRecDepth 100000 in
theorem c_X7_leftAt (l : Launch) (g : pq_g) (a : Nat → Nat) (T : ModS) (p1 : Int32) (r : Int32) (hf : f_X7_leftAt T p1 = some r) : pq_R l yX7_leftAt cX7_leftAt 2 .int 4 g (modW g a T) [.ref (a 0), .int p1] r := by
  rw [f_X7_leftAt] at hf
  refine pq_R.of (own := RX7) (by decide) rfl (Nat.le_of_ble_eq_true rfl) rfl ?_
  intro p e s m below meth c ls Q S hP hK hl hend
  obtain ⟨hx, hb, hml, hown, hts⟩ := id S
  refine lv_iload_n hx hb dX7_leftAt_0 rfl (lv_at hl 1 rfl) ?_
  refine lv_if_ge (tgt := 8) hx hb dX7_leftAt_1 (by decide) (fun h1 => ?_) (fun h1 => ?_)
  · replace hf := pq_ifp h1 hf
    refine lv_aload_n hx hb dX7_leftAt_8 rfl (lv_at hl 0 rfl) ?_
    refine lv_aload_n hx hb dX7_leftAt_9 rfl (lv_at hl 0 rfl) ?_
    refine lv_iload_n hx hb dX7_leftAt_10 rfl (lv_at hl 1 rfl) ?_
    obtain ⟨q3, e2, hf⟩ := pq_bind hf
    refine pq_cV S (c_X7_first l g a T p1 q3 e2) vv_X7_71 hK hP rfl rfl rfl rfl rfl hl.1 (Nat.le_of_ble_eq_true rfl) dX7_leftAt_11 (by decide) (by decide) ⟨Nat.le_refl _, Nat.le_refl _⟩ ?_
    refine lv_iload_n hx hb dX7_leftAt_14 rfl (lv_at hl 1 rfl) ?_
    refine lv_iconst (v := 1) hx hb dX7_leftAt_15 (by decide) ?_
    refine lv_isub hx hb dX7_leftAt_16 ?_
    obtain ⟨q5, e4, hf⟩ := pq_bind hf
    refine pq_cV S (c_X7_top l g a T q3 (p1 - 1) q5 e4) vv_X7_168 hK hP rfl rfl rfl rfl rfl hl.1 (Nat.le_of_ble_eq_true rfl) dX7_leftAt_17 (by decide) (by decide) ⟨Nat.le_refl _, Nat.le_refl _⟩ ?_
    exact hend _ _ _ dX7_leftAt_20 rfl hf
  · replace hf := pq_ifn h1 hf
    refine lv_iconst (v := (-1)) hx hb dX7_leftAt_4 (by decide) ?_
    refine lv_goto (tgt := 20) hx hb dX7_leftAt_5 (by decide) ?_
    exact hend _ _ _ dX7_leftAt_20 rfl hf
def f_X7_rightAt (T : ModS) (p1 : Int32) : Option (Int32) :=
    if 0 ≤ p1 then
      (f_X7_last T p1).bind fun q3 =>
      (f_X7_top T (p1 + 1) q3).bind fun q5 =>
      some q5
    else
      some (-1)
set_option maxHeartbeats 4000000 in
set_option maxRecDepth 100000 in
theorem c_X7_rightAt (l : Launch) (g : pq_g) (a : Nat → Nat) (T : ModS) (p1 : Int32) (r : Int32) (hf : f_X7_rightAt T p1 = some r) : pq_R l yX7_rightAt cX7_rightAt 2 .int 4 g (modW g a T) [.ref (a 0), .int p1] r := by
  rw [f_X7_rightAt] at hf
  refine pq_R.of (own := RX7) (by decide) rfl (Nat.le_of_ble_eq_true rfl) rfl ?_
  intro p e s m below meth c ls Q S hP hK hl hend
  obtain ⟨hx, hb, hml, hown, hts⟩ := id S
  refine lv_iload_n hx hb dX7_rightAt_0 rfl (lv_at hl 1 rfl) ?_
  refine lv_if_ge (tgt := 8) hx hb dX7_rightAt_1 (by decide) (fun h1 => ?_) (fun h1 => ?_)
  · replace hf := pq_ifp h1 hf
    refine lv_aload_n hx hb dX7_rightAt_8 rfl (lv_at hl 0 rfl) ?_
    refine lv_iload_n hx hb dX7_rightAt_9 rfl (lv_at hl 1 rfl) ?_
    refine lv_iconst (v := 1) hx hb dX7_rightAt_10 (by decide) ?_
    refine lv_iadd hx hb dX7_rightAt_11 ?_
    refine lv_aload_n hx hb dX7_rightAt_12 rfl (lv_at hl 0 rfl) ?_
    refine lv_iload_n hx hb dX7_rightAt_13 rfl (lv_at hl 1 rfl) ?_
    obtain ⟨q3, e2, hf⟩ := pq_bind hf
    refine pq_cV S (c_X7_last l g a T p1 q3 e2) vv_X7_74 hK hP rfl rfl rfl rfl rfl hl.1 (Nat.le_of_ble_eq_true rfl) dX7_rightAt_14 (by decide) (by decide) ⟨Nat.le_refl _, Nat.le_refl _⟩ ?_
    obtain ⟨q5, e4, hf⟩ := pq_bind hf
    refine pq_cV S (c_X7_top l g a T (p1 + 1) q3 q5 e4) vv_X7_168 hK hP rfl rfl rfl rfl rfl hl.1 (Nat.le_of_ble_eq_true rfl) dX7_rightAt_17 (by decide) (by decide) ⟨Nat.le_refl _, Nat.le_refl _⟩ ?_
    exact hend _ _ _ dX7_rightAt_20 rfl hf
  · replace hf := pq_ifn h1 hf
    refine lv_iconst (v := (-1)) hx hb dX7_rightAt_4 (by decide) ?_
    refine lv_goto (tgt := 20) hx hb dX7_rightAt_5 (by decide) ?_
    exact hend _ _ _ dX7_rightAt_20 rfl hf
def f_X7_hasLeft (T : ModS) (p1 : Int32) : Option (Int32 × (ModS)) :=
    (f_X7_find T p1).bind fun q2 =>
    if q2 < 0 then
      (f_X7_isFine T 0).bind fun q5 =>
      if q5.1 = 0 then
        some (0, q5.2)
      else
        (f_X7_find q5.2 p1).bind fun q8 =>
        (f_X7_leftAt q5.2 q8).bind fun q10 =>
        if q10 < 0 then
          some (0, q5.2)
        else
          some (1, q5.2)
    else
      (f_X7_isFine T 1).bind fun q13 =>
      if q13.1 = 0 then
        some (0, q13.2)
      else
        (f_X7_find q13.2 p1).bind fun q16 =>
        (f_X7_leftAt q13.2 q16).bind fun q18 =>
        if q18 < 0 then
          some (0, q13.2)
        else
          some (1, q13.2)
set_option maxHeartbeats 4000000 in
set_option maxRecDepth 100000 in
theorem c_X7_hasLeft (l : Launch) (g : pq_g) (a : Nat → Nat) (T : ModS) (p1 : Int32) (r : Int32) (T1 : ModS) (hf : f_X7_hasLeft T p1 = some (r, T1)) : pq_Mi l yX7_hasLeft cX7_hasLeft 2 .boolean 5 g (modW g a T) [.ref (a 0), .int p1] r (modW g a T1) := by
  rw [f_X7_hasLeft] at hf
  refine pq_Mi.of (own := RX7) (by decide) rfl (Nat.le_of_ble_eq_true rfl) rfl ?_
  intro p e s m below meth c ls Q A S hP hK hD hS hA hl hend
  obtain ⟨hx, hb, hml, hown, hts⟩ := id S
  refine lv_aload_n hx hb dX7_hasLeft_0 rfl (lv_at hl 0 rfl) ?_
  refine lv_aload_n hx hb dX7_hasLeft_1 rfl (lv_at hl 0 rfl) ?_
  refine lv_iload_n hx hb dX7_hasLeft_2 rfl (lv_at hl 1 rfl) ?_
  obtain ⟨q2, e1, hf⟩ := pq_bind hf
  refine pq_cV S (c_X7_find l g a T p1 q2 e1) vv_X7_112 hK hP rfl rfl rfl rfl rfl hl.1 (Nat.le_of_ble_eq_true rfl) dX7_hasLeft_3 (by decide) (by decide) ⟨Nat.le_refl _, Nat.le_refl _⟩ ?_
  refine lv_if_lt (tgt := 13) hx hb dX7_hasLeft_6 (by decide) (fun h3 => ?_) (fun h3 => ?_)
  · replace hf := pq_ifp h3 hf
    refine lv_iconst (v := 0) hx hb dX7_hasLeft_13 (by decide) ?_
    obtain ⟨q5, e4, hf⟩ := pq_bind hf
    refine pq_cVi S (c_X7_isFine l g a T 0 q5.1 q5.2 e4) vv_X7_53 hK hP hD hS hA rfl rfl rfl rfl rfl hl.1 (Nat.le_of_ble_eq_true rfl) dX7_hasLeft_14 (by decide) (by decide) ⟨Nat.le_refl _, Nat.le_refl _⟩ (fun H9 locs hk hP1 hS => ?_)
    replace hP := hP1
    replace hP : va_P g.1 pq_cl (modW g a q5.2) H9 := hP
    replace hD : va_D A (modW g a q5.2) := pq_adr hD (ad_X7 _ _)
    clear hk
    generalize H9 = H at hP hS ⊢
    refine lv_if_eq (tgt := 36) hx hb dX7_hasLeft_17 (by decide) (fun h6 => ?_) (fun h6 => ?_)
    · replace hf := pq_ifp h6 hf
      refine lv_iconst (v := 0) hx hb dX7_hasLeft_36 (by decide) ?_
      obtain ⟨h8, h9⟩ := pq_pair hf
      exact hend _ _ _ _ _ dX7_hasLeft_37 rfl h8 (by rw [← h9]; exact hP) hS
    · replace hf := pq_ifn h6 hf
      refine lv_aload_n hx hb dX7_hasLeft_20 rfl (lv_at hl 0 rfl) ?_
      refine lv_aload_n hx hb dX7_hasLeft_21 rfl (lv_at hl 0 rfl) ?_
      refine lv_iload_n hx hb dX7_hasLeft_22 rfl (lv_at hl 1 rfl) ?_
      obtain ⟨q8, e7, hf⟩ := pq_bind hf
      refine pq_cV S (c_X7_find l g a q5.2 p1 q8 e7) vv_X7_112 hK hP rfl rfl rfl rfl rfl hl.1 (Nat.le_of_ble_eq_true rfl) dX7_hasLeft_23 (by decide) (by decide) ⟨Nat.le_refl _, Nat.le_refl _⟩ ?_
      obtain ⟨q10, e9, hf⟩ := pq_bind hf
      refine pq_cV S (c_X7_leftAt l g a q5.2 q8 q10 e9) vv_X7_171 hK hP rfl rfl rfl rfl rfl hl.1 (Nat.le_of_ble_eq_true rfl) dX7_hasLeft_26 (by decide) (by decide) ⟨Nat.le_refl _, Nat.le_refl _⟩ ?_
      refine lv_if_lt (tgt := 36) hx hb dX7_hasLeft_29 (by decide) (fun h11 => ?_) (fun h11 => ?_)
      · replace hf := pq_ifp h11 hf
        refine lv_iconst (v := 0) hx hb dX7_hasLeft_36 (by decide) ?_
        obtain ⟨h8, h9⟩ := pq_pair hf
        exact hend _ _ _ _ _ dX7_hasLeft_37 rfl h8 (by rw [← h9]; exact hP) hS
      · replace hf := pq_ifn h11 hf
        refine lv_iconst (v := 1) hx hb dX7_hasLeft_32 (by decide) ?_
        refine lv_goto (tgt := 37) hx hb dX7_hasLeft_33 (by decide) ?_
        obtain ⟨h8, h9⟩ := pq_pair hf
        exact hend _ _ _ _ _ dX7_hasLeft_37 rfl h8 (by rw [← h9]; exact hP) hS
  · replace hf := pq_ifn h3 hf
    refine lv_iconst (v := 1) hx hb dX7_hasLeft_9 (by decide) ?_
    refine lv_goto (tgt := 14) hx hb dX7_hasLeft_10 (by decide) ?_
    obtain ⟨q13, e12, hf⟩ := pq_bind hf
    refine pq_cVi S (c_X7_isFine l g a T 1 q13.1 q13.2 e12) vv_X7_53 hK hP hD hS hA rfl rfl rfl rfl rfl hl.1 (Nat.le_of_ble_eq_true rfl) dX7_hasLeft_14 (by decide) (by decide) ⟨Nat.le_refl _, Nat.le_refl _⟩ (fun H9 locs hk hP1 hS => ?_)
    replace hP := hP1
    replace hP : va_P g.1 pq_cl (modW g a q13.2) H9 := hP
    replace hD : va_D A (modW g a q13.2) := pq_adr hD (ad_X7 _ _)
    clear hk
    generalize H9 = H at hP hS ⊢
    refine lv_if_eq (tgt := 36) hx hb dX7_hasLeft_17 (by decide) (fun h14 => ?_) (fun h14 => ?_)
    · replace hf := pq_ifp h14 hf
      refine lv_iconst (v := 0) hx hb dX7_hasLeft_36 (by decide) ?_
      obtain ⟨h8, h9⟩ := pq_pair hf
      exact hend _ _ _ _ _ dX7_hasLeft_37 rfl h8 (by rw [← h9]; exact hP) hS
    · replace hf := pq_ifn h14 hf
      refine lv_aload_n hx hb dX7_hasLeft_20 rfl (lv_at hl 0 rfl) ?_
      refine lv_aload_n hx hb dX7_hasLeft_21 rfl (lv_at hl 0 rfl) ?_
      refine lv_iload_n hx hb dX7_hasLeft_22 rfl (lv_at hl 1 rfl) ?_
      obtain ⟨q16, e15, hf⟩ := pq_bind hf
      refine pq_cV S (c_X7_find l g a q13.2 p1 q16 e15) vv_X7_112 hK hP rfl rfl rfl rfl rfl hl.1 (Nat.le_of_ble_eq_true rfl) dX7_hasLeft_23 (by decide) (by decide) ⟨Nat.le_refl _, Nat.le_refl _⟩ ?_
      obtain ⟨q18, e17, hf⟩ := pq_bind hf
      refine pq_cV S (c_X7_leftAt l g a q13.2 q16 q18 e17) vv_X7_171 hK hP rfl rfl rfl rfl rfl hl.1 (Nat.le_of_ble_eq_true rfl) dX7_hasLeft_26 (by decide) (by decide) ⟨Nat.le_refl _, Nat.le_refl _⟩ ?_
      refine lv_if_lt (tgt := 36) hx hb dX7_hasLeft_29 (by decide) (fun h19 => ?_) (fun h19 => ?_)
      · replace hf := pq_ifp h19 hf
        refine lv_iconst (v := 0) hx hb dX7_hasLeft_36 (by decide) ?_
        obtain ⟨h8, h9⟩ := pq_pair hf
        exact hend _ _ _ _ _ dX7_hasLeft_37 rfl h8 (by rw [← h9]; exact hP) hS
      · replace hf := pq_ifn h19 hf
        refine lv_iconst (v := 1) hx hb dX7_hasLeft_32 (by decide) ?_
        refine lv_goto (tgt := 37) hx hb dX7_hasLeft_33 (by decide) ?_
        obtain ⟨h8, h9⟩ := pq_pair hf
        exact hend _ _ _ _ _ dX7_hasLeft_37 rfl h8 (by rw [← h9]; exact hP) hS
def f_X7_hasRight (T : ModS) (p1 : Int32) : Option (Int32 × (ModS)) :=
    (f_X7_find T p1).bind fun q2 =>
    if q2 < 0 then
      (f_X7_isFine T 0).bind fun q5 =>
      if q5.1 = 0 then
        some (0, q5.2)
      else
        (f_X7_find q5.2 p1).bind fun q8 =>
        (f_X7_rightAt q5.2 q8).bind fun q10 =>
        if q10 < 0 then
          some (0, q5.2)
        else
          some (1, q5.2)
    else
      (f_X7_isFine T 1).bind fun q13 =>
      if q13.1 = 0 then
        some (0, q13.2)
      else
        (f_X7_find q13.2 p1).bind fun q16 =>
        (f_X7_rightAt q13.2 q16).bind fun q18 =>
        if q18 < 0 then
          some (0, q13.2)
        else
          some (1, q13.2)
set_option maxHeartbeats 4000000 in
set_option maxRecDepth 100000 in
theorem c_X7_hasRight (l : Launch) (g : pq_g) (a : Nat → Nat) (T : ModS) (p1 : Int32) (r : Int32) (T1 : ModS) (hf : f_X7_hasRight T p1 = some (r, T1)) : pq_Mi l yX7_hasRight cX7_hasRight 2 .boolean 5 g (modW g a T) [.ref (a 0), .int p1] r (modW g a T1) := by
  rw [f_X7_hasRight] at hf
  refine pq_Mi.of (own := RX7) (by decide) rfl (Nat.le_of_ble_eq_true rfl) rfl ?_
  intro p e s m below meth c ls Q A S hP hK hD hS hA hl hend
  obtain ⟨hx, hb, hml, hown, hts⟩ := id S
  refine lv_aload_n hx hb dX7_hasRight_0 rfl (lv_at hl 0 rfl) ?_
  refine lv_aload_n hx hb dX7_hasRight_1 rfl (lv_at hl 0 rfl) ?_
  refine lv_iload_n hx hb dX7_hasRight_2 rfl (lv_at hl 1 rfl) ?_
  obtain ⟨q2, e1, hf⟩ := pq_bind hf
  refine pq_cV S (c_X7_find l g a T p1 q2 e1) vv_X7_112 hK hP rfl rfl rfl rfl rfl hl.1 (Nat.le_of_ble_eq_true rfl) dX7_hasRight_3 (by decide) (by decide) ⟨Nat.le_refl _, Nat.le_refl _⟩ ?_
  refine lv_if_lt (tgt := 13) hx hb dX7_hasRight_6 (by decide) (fun h3 => ?_) (fun h3 => ?_)
  · replace hf := pq_ifp h3 hf
    refine lv_iconst (v := 0) hx hb dX7_hasRight_13 (by decide) ?_
    obtain ⟨q5, e4, hf⟩ := pq_bind hf
    refine pq_cVi S (c_X7_isFine l g a T 0 q5.1 q5.2 e4) vv_X7_53 hK hP hD hS hA rfl rfl rfl rfl rfl hl.1 (Nat.le_of_ble_eq_true rfl) dX7_hasRight_14 (by decide) (by decide) ⟨Nat.le_refl _, Nat.le_refl _⟩ (fun H9 locs hk hP1 hS => ?_)
    replace hP := hP1
    replace hP : va_P g.1 pq_cl (modW g a q5.2) H9 := hP
    replace hD : va_D A (modW g a q5.2) := pq_adr hD (ad_X7 _ _)
    clear hk
    generalize H9 = H at hP hS ⊢
    refine lv_if_eq (tgt := 36) hx hb dX7_hasRight_17 (by decide) (fun h6 => ?_) (fun h6 => ?_)
    · replace hf := pq_ifp h6 hf
      refine lv_iconst (v := 0) hx hb dX7_hasRight_36 (by decide) ?_
      obtain ⟨h8, h9⟩ := pq_pair hf
      exact hend _ _ _ _ _ dX7_hasRight_37 rfl h8 (by rw [← h9]; exact hP) hS
    · replace hf := pq_ifn h6 hf
      refine lv_aload_n hx hb dX7_hasRight_20 rfl (lv_at hl 0 rfl) ?_
      refine lv_aload_n hx hb dX7_hasRight_21 rfl (lv_at hl 0 rfl) ?_
      refine lv_iload_n hx hb dX7_hasRight_22 rfl (lv_at hl 1 rfl) ?_
      obtain ⟨q8, e7, hf⟩ := pq_bind hf
      refine pq_cV S (c_X7_find l g a q5.2 p1 q8 e7) vv_X7_112 hK hP rfl rfl rfl rfl rfl hl.1 (Nat.le_of_ble_eq_true rfl) dX7_hasRight_23 (by decide) (by decide) ⟨Nat.le_refl _, Nat.le_refl _⟩ ?_
      obtain ⟨q10, e9, hf⟩ := pq_bind hf
      refine pq_cV S (c_X7_rightAt l g a q5.2 q8 q10 e9) vv_X7_174 hK hP rfl rfl rfl rfl rfl hl.1 (Nat.le_of_ble_eq_true rfl) dX7_hasRight_26 (by decide) (by decide) ⟨Nat.le_refl _, Nat.le_refl _⟩ ?_
      refine lv_if_lt (tgt := 36) hx hb dX7_hasRight_29 (by decide) (fun h11 => ?_) (fun h11 => ?_)
      · replace hf := pq_ifp h11 hf
        refine lv_iconst (v := 0) hx hb dX7_hasRight_36 (by decide) ?_
        obtain ⟨h8, h9⟩ := pq_pair hf
        exact hend _ _ _ _ _ dX7_hasRight_37 rfl h8 (by rw [← h9]; exact hP) hS
      · replace hf := pq_ifn h11 hf
        refine lv_iconst (v := 1) hx hb dX7_hasRight_32 (by decide) ?_
        refine lv_goto (tgt := 37) hx hb dX7_hasRight_33 (by decide) ?_
        obtain ⟨h8, h9⟩ := pq_pair hf
        exact hend _ _ _ _ _ dX7_hasRight_37 rfl h8 (by rw [← h9]; exact hP) hS
  · replace hf := pq_ifn h3 hf
    refine lv_iconst (v := 1) hx hb dX7_hasRight_9 (by decide) ?_
    refine lv_goto (tgt := 14) hx hb dX7_hasRight_10 (by decide) ?_
    obtain ⟨q13, e12, hf⟩ := pq_bind hf
    refine pq_cVi S (c_X7_isFine l g a T 1 q13.1 q13.2 e12) vv_X7_53 hK hP hD hS hA rfl rfl rfl rfl rfl hl.1 (Nat.le_of_ble_eq_true rfl) dX7_hasRight_14 (by decide) (by decide) ⟨Nat.le_refl _, Nat.le_refl _⟩ (fun H9 locs hk hP1 hS => ?_)
    replace hP := hP1
    replace hP : va_P g.1 pq_cl (modW g a q13.2) H9 := hP
    replace hD : va_D A (modW g a q13.2) := pq_adr hD (ad_X7 _ _)
    clear hk
    generalize H9 = H at hP hS ⊢
    refine lv_if_eq (tgt := 36) hx hb dX7_hasRight_17 (by decide) (fun h14 => ?_) (fun h14 => ?_)
    · replace hf := pq_ifp h14 hf
      refine lv_iconst (v := 0) hx hb dX7_hasRight_36 (by decide) ?_
      obtain ⟨h8, h9⟩ := pq_pair hf
      exact hend _ _ _ _ _ dX7_hasRight_37 rfl h8 (by rw [← h9]; exact hP) hS
    · replace hf := pq_ifn h14 hf
      refine lv_aload_n hx hb dX7_hasRight_20 rfl (lv_at hl 0 rfl) ?_
      refine lv_aload_n hx hb dX7_hasRight_21 rfl (lv_at hl 0 rfl) ?_
      refine lv_iload_n hx hb dX7_hasRight_22 rfl (lv_at hl 1 rfl) ?_
      obtain ⟨q16, e15, hf⟩ := pq_bind hf
      refine pq_cV S (c_X7_find l g a q13.2 p1 q16 e15) vv_X7_112 hK hP rfl rfl rfl rfl rfl hl.1 (Nat.le_of_ble_eq_true rfl) dX7_hasRight_23 (by decide) (by decide) ⟨Nat.le_refl _, Nat.le_refl _⟩ ?_
      obtain ⟨q18, e17, hf⟩ := pq_bind hf
      refine pq_cV S (c_X7_rightAt l g a q13.2 q16 q18 e17) vv_X7_174 hK hP rfl rfl rfl rfl rfl hl.1 (Nat.le_of_ble_eq_true rfl) dX7_hasRight_26 (by decide) (by decide) ⟨Nat.le_refl _, Nat.le_refl _⟩ ?_
      refine lv_if_lt (tgt := 36) hx hb dX7_hasRight_29 (by decide) (fun h19 => ?_) (fun h19 => ?_)
      · replace hf := pq_ifp h19 hf
        refine lv_iconst (v := 0) hx hb dX7_hasRight_36 (by decide) ?_
        obtain ⟨h8, h9⟩ := pq_pair hf
        exact hend _ _ _ _ _ dX7_hasRight_37 rfl h8 (by rw [← h9]; exact hP) hS
      · replace hf := pq_ifn h19 hf
        refine lv_iconst (v := 1) hx hb dX7_hasRight_32 (by decide) ?_
        refine lv_goto (tgt := 37) hx hb dX7_hasRight_33 (by decide) ?_
        obtain ⟨h8, h9⟩ := pq_pair hf
        exact hend _ _ _ _ _ dX7_hasRight_37 rfl h8 (by rw [← h9]; exact hP) hS
def f_X7_leftOf (T : ModS) (p1 : Int32) : Option (Int32 × (ModS)) :=
    (f_X7_find T p1).bind fun q2 =>
    (f_X7_leftAt T q2).bind fun q4 =>
    (f_X7_keyOr T q4).bind fun q6 =>
    some (q6.1, q6.2)
set_option maxHeartbeats 4000000 in
set_option maxRecDepth 100000 in
theorem c_X7_leftOf (l : Launch) (g : pq_g) (a : Nat → Nat) (T : ModS) (p1 : Int32) (r : Int32) (T1 : ModS) (hf : f_X7_leftOf T p1 = some (r, T1)) : pq_Mi l yX7_leftOf cX7_leftOf 2 .int 5 g (modW g a T) [.ref (a 0), .int p1] r (modW g a T1) := by
  rw [f_X7_leftOf] at hf
  refine pq_Mi.of (own := RX7) (by decide) rfl (Nat.le_of_ble_eq_true rfl) rfl ?_
  intro p e s m below meth c ls Q A S hP hK hD hS hA hl hend
  obtain ⟨hx, hb, hml, hown, hts⟩ := id S
  refine lv_aload_n hx hb dX7_leftOf_0 rfl (lv_at hl 0 rfl) ?_
  refine lv_aload_n hx hb dX7_leftOf_1 rfl (lv_at hl 0 rfl) ?_
  refine lv_aload_n hx hb dX7_leftOf_2 rfl (lv_at hl 0 rfl) ?_
  refine lv_iload_n hx hb dX7_leftOf_3 rfl (lv_at hl 1 rfl) ?_
  obtain ⟨q2, e1, hf⟩ := pq_bind hf
  refine pq_cV S (c_X7_find l g a T p1 q2 e1) vv_X7_112 hK hP rfl rfl rfl rfl rfl hl.1 (Nat.le_of_ble_eq_true rfl) dX7_leftOf_4 (by decide) (by decide) ⟨Nat.le_refl _, Nat.le_refl _⟩ ?_
  obtain ⟨q4, e3, hf⟩ := pq_bind hf
  refine pq_cV S (c_X7_leftAt l g a T q2 q4 e3) vv_X7_171 hK hP rfl rfl rfl rfl rfl hl.1 (Nat.le_of_ble_eq_true rfl) dX7_leftOf_7 (by decide) (by decide) ⟨Nat.le_refl _, Nat.le_refl _⟩ ?_
  obtain ⟨q6, e5, hf⟩ := pq_bind hf
  refine pq_cVi S (c_X7_keyOr l g a T q4 q6.1 q6.2 e5) vv_X7_162 hK hP hD hS hA rfl rfl rfl rfl rfl hl.1 (Nat.le_of_ble_eq_true rfl) dX7_leftOf_10 (by decide) (by decide) ⟨Nat.le_refl _, Nat.le_refl _⟩ (fun H9 locs hk hP1 hS => ?_)
  replace hP := hP1
  replace hP : va_P g.1 pq_cl (modW g a q6.2) H9 := hP
  replace hD : va_D A (modW g a q6.2) := pq_adr hD (ad_X7 _ _)
  clear hk
  generalize H9 = H at hP hS ⊢
  obtain ⟨h8, h9⟩ := pq_pair hf
  exact hend _ _ _ _ _ dX7_leftOf_13 rfl h8 (by rw [← h9]; exact hP) hS
def f_X7_rightOf (T : ModS) (p1 : Int32) : Option (Int32 × (ModS)) :=
    (f_X7_find T p1).bind fun q2 =>
    (f_X7_rightAt T q2).bind fun q4 =>
    (f_X7_keyOr T q4).bind fun q6 =>
    some (q6.1, q6.2)
set_option maxHeartbeats 4000000 in
set_option maxRecDepth 100000 in
theorem c_X7_rightOf (l : Launch) (g : pq_g) (a : Nat → Nat) (T : ModS) (p1 : Int32) (r : Int32) (T1 : ModS) (hf : f_X7_rightOf T p1 = some (r, T1)) : pq_Mi l yX7_rightOf cX7_rightOf 2 .int 5 g (modW g a T) [.ref (a 0), .int p1] r (modW g a T1) := by
  rw [f_X7_rightOf] at hf
  refine pq_Mi.of (own := RX7) (by decide) rfl (Nat.le_of_ble_eq_true rfl) rfl ?_
  intro p e s m below meth c ls Q A S hP hK hD hS hA hl hend
  obtain ⟨hx, hb, hml, hown, hts⟩ := id S
  refine lv_aload_n hx hb dX7_rightOf_0 rfl (lv_at hl 0 rfl) ?_
  refine lv_aload_n hx hb dX7_rightOf_1 rfl (lv_at hl 0 rfl) ?_
  refine lv_aload_n hx hb dX7_rightOf_2 rfl (lv_at hl 0 rfl) ?_
  refine lv_iload_n hx hb dX7_rightOf_3 rfl (lv_at hl 1 rfl) ?_
  obtain ⟨q2, e1, hf⟩ := pq_bind hf
  refine pq_cV S (c_X7_find l g a T p1 q2 e1) vv_X7_112 hK hP rfl rfl rfl rfl rfl hl.1 (Nat.le_of_ble_eq_true rfl) dX7_rightOf_4 (by decide) (by decide) ⟨Nat.le_refl _, Nat.le_refl _⟩ ?_
  obtain ⟨q4, e3, hf⟩ := pq_bind hf
  refine pq_cV S (c_X7_rightAt l g a T q2 q4 e3) vv_X7_174 hK hP rfl rfl rfl rfl rfl hl.1 (Nat.le_of_ble_eq_true rfl) dX7_rightOf_7 (by decide) (by decide) ⟨Nat.le_refl _, Nat.le_refl _⟩ ?_
  obtain ⟨q6, e5, hf⟩ := pq_bind hf
  refine pq_cVi S (c_X7_keyOr l g a T q4 q6.1 q6.2 e5) vv_X7_162 hK hP hD hS hA rfl rfl rfl rfl rfl hl.1 (Nat.le_of_ble_eq_true rfl) dX7_rightOf_10 (by decide) (by decide) ⟨Nat.le_refl _, Nat.le_refl _⟩ (fun H9 locs hk hP1 hS => ?_)
  replace hP := hP1
  replace hP : va_P g.1 pq_cl (modW g a q6.2) H9 := hP
  replace hD : va_D A (modW g a q6.2) := pq_adr hD (ad_X7 _ _)
  clear hk
  generalize H9 = H at hP hS ⊢
  obtain ⟨h8, h9⟩ := pq_pair hf
  exact hend _ _ _ _ _ dX7_rightOf_13 rfl h8 (by rw [← h9]; exact hP) hS
def f_X7_parentAt (T : ModS) (p1 : Int32) : Option (Int32) :=
    if 0 ≤ p1 then
      (f_X7_first T p1).bind fun q3 =>
      (f_X7_last T p1).bind fun q5 =>
      if 0 ≤ (q3 - 1) then
        if (T.2.1 (0 : Int32).toNatClampNeg) ≤ (q5 + 1) then
          some (q3 - 1)
        else
          (f_X7_isAbove T (q3 - 1) (q5 + 1)).bind fun q9 =>
          if q9 = 0 then
            some (q3 - 1)
          else
            some (q5 + 1)
      else
        if (T.2.1 (0 : Int32).toNatClampNeg) ≤ (q5 + 1) then
          some (-1)
        else
          some (q5 + 1)
    else
      some (-1)
set_option maxHeartbeats 4000000 in
set_option maxRecDepth 100000 in
theorem c_X7_parentAt (l : Launch) (g : pq_g) (a : Nat → Nat) (T : ModS) (p1 : Int32) (r : Int32) (hf : f_X7_parentAt T p1 = some r) : pq_R l yX7_parentAt cX7_parentAt 4 .int 4 g (modW g a T) [.ref (a 0), .int p1] r := by
  rw [f_X7_parentAt] at hf
  refine pq_R.of (own := RX7) (by decide) rfl (Nat.le_of_ble_eq_true rfl) rfl ?_
  intro p e s m below meth c ls Q S hP hK hl hend
  obtain ⟨hx, hb, hml, hown, hts⟩ := id S
  refine lv_iload_n hx hb dX7_parentAt_0 rfl (lv_at hl 1 rfl) ?_
  refine lv_if_ge (tgt := 6) hx hb dX7_parentAt_1 (by decide) (fun h1 => ?_) (fun h1 => ?_)
  · replace hf := pq_ifp h1 hf
    refine lv_aload_n hx hb dX7_parentAt_6 rfl (lv_at hl 0 rfl) ?_
    refine lv_iload_n hx hb dX7_parentAt_7 rfl (lv_at hl 1 rfl) ?_
    obtain ⟨q3, e2, hf⟩ := pq_bind hf
    refine pq_cV S (c_X7_first l g a T p1 q3 e2) vv_X7_71 hK hP rfl rfl rfl rfl rfl hl.1 (Nat.le_of_ble_eq_true rfl) dX7_parentAt_8 (by decide) (by decide) ⟨Nat.le_refl _, Nat.le_refl _⟩ ?_
    refine lv_iconst (v := 1) hx hb dX7_parentAt_11 (by decide) ?_
    refine lv_isub hx hb dX7_parentAt_12 ?_
    refine lv_istore_n (lv' := [(2, .int (q3 - 1)), (0, .ref (a 0)), (1, .int p1)]) hx hb dX7_parentAt_13 rfl hl (by decide) rfl (fun ls hl => ?_)
    refine lv_aload_n hx hb dX7_parentAt_14 rfl (lv_at hl 1 rfl) ?_
    refine lv_iload_n hx hb dX7_parentAt_15 rfl (lv_at hl 2 rfl) ?_
    obtain ⟨q5, e4, hf⟩ := pq_bind hf
    refine pq_cV S (c_X7_last l g a T p1 q5 e4) vv_X7_74 hK hP rfl rfl rfl rfl rfl hl.1 (Nat.le_of_ble_eq_true rfl) dX7_parentAt_16 (by decide) (by decide) ⟨Nat.le_refl _, Nat.le_refl _⟩ ?_
    refine lv_iconst (v := 1) hx hb dX7_parentAt_19 (by decide) ?_
    refine lv_iadd hx hb dX7_parentAt_20 ?_
    refine lv_istore_n (lv' := [(3, .int (q5 + 1)), (2, .int (q3 - 1)), (0, .ref (a 0)), (1, .int p1)]) hx hb dX7_parentAt_21 rfl hl (by decide) rfl (fun ls hl => ?_)
    refine lv_iload_n hx hb dX7_parentAt_22 rfl (lv_at hl 1 rfl) ?_
    refine lv_if_ge (tgt := 42) hx hb dX7_parentAt_23 (by decide) (fun h6 => ?_) (fun h6 => ?_)
    · replace hf := pq_ifp h6 hf
      refine lv_iload_n hx hb dX7_parentAt_42 rfl (lv_at hl 0 rfl) ?_
      refine lv_aload_n hx hb dX7_parentAt_43 rfl (lv_at hl 2 rfl) ?_
      refine pq_get S hK hP inX7 0 rfl rfl 1 (by decide) fl_X7_9 rfl (v := .ref (a 1)) rfl dX7_parentAt_44 ?_
      refine lv_iconst (v := 0) hx hb dX7_parentAt_47 (by decide) ?_
      refine va_iald hx hb hK.1 hP 1 0 rfl rfl (show ¬ ((0 : Int32) < 0 ∨ 770 ≤ (0 : Int32).toNatClampNeg) by decide) dX7_parentAt_48 ?_
      refine lv_icmp_ge (tgt := 65) hx hb dX7_parentAt_49 (by decide) (fun h7 => ?_) (fun h7 => ?_)
      · replace hf := pq_ifp h7 hf
        refine lv_iload_n hx hb dX7_parentAt_65 rfl (lv_at hl 1 rfl) ?_
        exact hend _ _ _ dX7_parentAt_66 rfl hf
      · replace hf := pq_ifn h7 hf
        refine lv_aload_n hx hb dX7_parentAt_52 rfl (lv_at hl 2 rfl) ?_
        refine lv_iload_n hx hb dX7_parentAt_53 rfl (lv_at hl 1 rfl) ?_
        refine lv_iload_n hx hb dX7_parentAt_54 rfl (lv_at hl 0 rfl) ?_
        obtain ⟨q9, e8, hf⟩ := pq_bind hf
        refine pq_cV S (c_X7_isAbove l g a T (q3 - 1) (q5 + 1) q9 e8) vv_X7_67 hK hP rfl rfl rfl rfl rfl hl.1 (Nat.le_of_ble_eq_true rfl) dX7_parentAt_55 (by decide) (by decide) ⟨Nat.le_refl _, Nat.le_refl _⟩ ?_
        refine lv_if_eq (tgt := 65) hx hb dX7_parentAt_58 (by decide) (fun h10 => ?_) (fun h10 => ?_)
        · replace hf := pq_ifp h10 hf
          refine lv_iload_n hx hb dX7_parentAt_65 rfl (lv_at hl 1 rfl) ?_
          exact hend _ _ _ dX7_parentAt_66 rfl hf
        · replace hf := pq_ifn h10 hf
          refine lv_iload_n hx hb dX7_parentAt_61 rfl (lv_at hl 0 rfl) ?_
          refine lv_goto (tgt := 66) hx hb dX7_parentAt_62 (by decide) ?_
          exact hend _ _ _ dX7_parentAt_66 rfl hf
    · replace hf := pq_ifn h6 hf
      refine lv_iload_n hx hb dX7_parentAt_26 rfl (lv_at hl 0 rfl) ?_
      refine lv_aload_n hx hb dX7_parentAt_27 rfl (lv_at hl 2 rfl) ?_
      refine pq_get S hK hP inX7 0 rfl rfl 1 (by decide) fl_X7_9 rfl (v := .ref (a 1)) rfl dX7_parentAt_28 ?_
      refine lv_iconst (v := 0) hx hb dX7_parentAt_31 (by decide) ?_
      refine va_iald hx hb hK.1 hP 1 0 rfl rfl (show ¬ ((0 : Int32) < 0 ∨ 770 ≤ (0 : Int32).toNatClampNeg) by decide) dX7_parentAt_32 ?_
      refine lv_icmp_ge (tgt := 40) hx hb dX7_parentAt_33 (by decide) (fun h11 => ?_) (fun h11 => ?_)
      · replace hf := pq_ifp h11 hf
        refine lv_iconst (v := (-1)) hx hb dX7_parentAt_40 (by decide) ?_
        exact hend _ _ _ dX7_parentAt_41 rfl hf
      · replace hf := pq_ifn h11 hf
        refine lv_iload_n hx hb dX7_parentAt_36 rfl (lv_at hl 0 rfl) ?_
        refine lv_goto (tgt := 41) hx hb dX7_parentAt_37 (by decide) ?_
        exact hend _ _ _ dX7_parentAt_41 rfl hf
  · replace hf := pq_ifn h1 hf
    refine lv_iconst (v := (-1)) hx hb dX7_parentAt_4 (by decide) ?_
    exact hend _ _ _ dX7_parentAt_5 rfl hf
def f_X7_parentOf (T : ModS) (p1 : Int32) : Option (Int32 × (ModS)) :=
    (f_X7_find T p1).bind fun q2 =>
    (f_X7_parentAt T q2).bind fun q4 =>
    (f_X7_keyOr T q4).bind fun q6 =>
    some (q6.1, q6.2)
set_option maxHeartbeats 4000000 in
set_option maxRecDepth 100000 in
theorem c_X7_parentOf (l : Launch) (g : pq_g) (a : Nat → Nat) (T : ModS) (p1 : Int32) (r : Int32) (T1 : ModS) (hf : f_X7_parentOf T p1 = some (r, T1)) : pq_Mi l yX7_parentOf cX7_parentOf 2 .int 5 g (modW g a T) [.ref (a 0), .int p1] r (modW g a T1) := by
  rw [f_X7_parentOf] at hf
  refine pq_Mi.of (own := RX7) (by decide) rfl (Nat.le_of_ble_eq_true rfl) rfl ?_
  intro p e s m below meth c ls Q A S hP hK hD hS hA hl hend
  obtain ⟨hx, hb, hml, hown, hts⟩ := id S
  refine lv_aload_n hx hb dX7_parentOf_0 rfl (lv_at hl 0 rfl) ?_
  refine lv_aload_n hx hb dX7_parentOf_1 rfl (lv_at hl 0 rfl) ?_
  refine lv_aload_n hx hb dX7_parentOf_2 rfl (lv_at hl 0 rfl) ?_
  refine lv_iload_n hx hb dX7_parentOf_3 rfl (lv_at hl 1 rfl) ?_
  obtain ⟨q2, e1, hf⟩ := pq_bind hf
  refine pq_cV S (c_X7_find l g a T p1 q2 e1) vv_X7_112 hK hP rfl rfl rfl rfl rfl hl.1 (Nat.le_of_ble_eq_true rfl) dX7_parentOf_4 (by decide) (by decide) ⟨Nat.le_refl _, Nat.le_refl _⟩ ?_
  obtain ⟨q4, e3, hf⟩ := pq_bind hf
  refine pq_cV S (c_X7_parentAt l g a T q2 q4 e3) vv_X7_177 hK hP rfl rfl rfl rfl rfl hl.1 (Nat.le_of_ble_eq_true rfl) dX7_parentOf_7 (by decide) (by decide) ⟨Nat.le_refl _, Nat.le_refl _⟩ ?_
  obtain ⟨q6, e5, hf⟩ := pq_bind hf
  refine pq_cVi S (c_X7_keyOr l g a T q4 q6.1 q6.2 e5) vv_X7_162 hK hP hD hS hA rfl rfl rfl rfl rfl hl.1 (Nat.le_of_ble_eq_true rfl) dX7_parentOf_10 (by decide) (by decide) ⟨Nat.le_refl _, Nat.le_refl _⟩ (fun H9 locs hk hP1 hS => ?_)
  replace hP := hP1
  replace hP : va_P g.1 pq_cl (modW g a q6.2) H9 := hP
  replace hD : va_D A (modW g a q6.2) := pq_adr hD (ad_X7 _ _)
  clear hk
  generalize H9 = H at hP hS ⊢
  obtain ⟨h8, h9⟩ := pq_pair hf
  exact hend _ _ _ _ _ dX7_parentOf_13 rfl h8 (by rw [← h9]; exact hP) hS
def f_X7_depthOf (T : ModS) (p1 : Int32) : Option (Int32 × (ModS)) :=
    (f_X7_find T p1).bind fun q2 =>
    if q2 < 0 then
      (f_X7_isFine T 0).bind fun q5 =>
      if q5.1 = 0 then
        some (0, q5.2)
      else
        (f_X7_depth q5.2 q2).bind fun q8 =>
        some (q8, q5.2)
    else
      (f_X7_isFine T 1).bind fun q10 =>
      if q10.1 = 0 then
        some (0, q10.2)
      else
        (f_X7_depth q10.2 q2).bind fun q13 =>
        some (q13, q10.2)
set_option maxHeartbeats 4000000 in
set_option maxRecDepth 100000 in
theorem c_X7_depthOf (l : Launch) (g : pq_g) (a : Nat → Nat) (T : ModS) (p1 : Int32) (r : Int32) (T1 : ModS) (hf : f_X7_depthOf T p1 = some (r, T1)) : pq_Mi l yX7_depthOf cX7_depthOf 3 .int 5 g (modW g a T) [.ref (a 0), .int p1] r (modW g a T1) := by
  rw [f_X7_depthOf] at hf
  refine pq_Mi.of (own := RX7) (by decide) rfl (Nat.le_of_ble_eq_true rfl) rfl ?_
  intro p e s m below meth c ls Q A S hP hK hD hS hA hl hend
  obtain ⟨hx, hb, hml, hown, hts⟩ := id S
  refine lv_aload_n hx hb dX7_depthOf_0 rfl (lv_at hl 0 rfl) ?_
  refine lv_iload_n hx hb dX7_depthOf_1 rfl (lv_at hl 1 rfl) ?_
  obtain ⟨q2, e1, hf⟩ := pq_bind hf
  refine pq_cV S (c_X7_find l g a T p1 q2 e1) vv_X7_112 hK hP rfl rfl rfl rfl rfl hl.1 (Nat.le_of_ble_eq_true rfl) dX7_depthOf_2 (by decide) (by decide) ⟨Nat.le_refl _, Nat.le_refl _⟩ ?_
  refine lv_istore_n (lv' := [(2, .int q2), (0, .ref (a 0)), (1, .int p1)]) hx hb dX7_depthOf_5 rfl hl (by decide) rfl (fun ls hl => ?_)
  refine lv_aload_n hx hb dX7_depthOf_6 rfl (lv_at hl 1 rfl) ?_
  refine lv_iload_n hx hb dX7_depthOf_7 rfl (lv_at hl 0 rfl) ?_
  refine lv_if_lt (tgt := 15) hx hb dX7_depthOf_8 (by decide) (fun h3 => ?_) (fun h3 => ?_)
  · replace hf := pq_ifp h3 hf
    refine lv_iconst (v := 0) hx hb dX7_depthOf_15 (by decide) ?_
    obtain ⟨q5, e4, hf⟩ := pq_bind hf
    refine pq_cVi S (c_X7_isFine l g a T 0 q5.1 q5.2 e4) vv_X7_53 hK hP hD hS hA rfl rfl rfl rfl rfl hl.1 (Nat.le_of_ble_eq_true rfl) dX7_depthOf_16 (by decide) (by decide) ⟨Nat.le_refl _, Nat.le_refl _⟩ (fun H9 locs hk hP1 hS => ?_)
    replace hP := hP1
    replace hP : va_P g.1 pq_cl (modW g a q5.2) H9 := hP
    replace hD : va_D A (modW g a q5.2) := pq_adr hD (ad_X7 _ _)
    clear hk
    generalize H9 = H at hP hS ⊢
    refine lv_if_eq (tgt := 30) hx hb dX7_depthOf_19 (by decide) (fun h6 => ?_) (fun h6 => ?_)
    · replace hf := pq_ifp h6 hf
      refine lv_iconst (v := 0) hx hb dX7_depthOf_30 (by decide) ?_
      obtain ⟨h8, h9⟩ := pq_pair hf
      exact hend _ _ _ _ _ dX7_depthOf_31 rfl h8 (by rw [← h9]; exact hP) hS
    · replace hf := pq_ifn h6 hf
      refine lv_aload_n hx hb dX7_depthOf_22 rfl (lv_at hl 1 rfl) ?_
      refine lv_iload_n hx hb dX7_depthOf_23 rfl (lv_at hl 0 rfl) ?_
      obtain ⟨q8, e7, hf⟩ := pq_bind hf
      refine pq_cV S (c_X7_depth l g a q5.2 q2 q8 e7) vv_X7_83 hK hP rfl rfl rfl rfl rfl hl.1 (Nat.le_of_ble_eq_true rfl) dX7_depthOf_24 (by decide) (by decide) ⟨Nat.le_refl _, Nat.le_refl _⟩ ?_
      refine lv_goto (tgt := 31) hx hb dX7_depthOf_27 (by decide) ?_
      obtain ⟨h8, h9⟩ := pq_pair hf
      exact hend _ _ _ _ _ dX7_depthOf_31 rfl h8 (by rw [← h9]; exact hP) hS
  · replace hf := pq_ifn h3 hf
    refine lv_iconst (v := 1) hx hb dX7_depthOf_11 (by decide) ?_
    refine lv_goto (tgt := 16) hx hb dX7_depthOf_12 (by decide) ?_
    obtain ⟨q10, e9, hf⟩ := pq_bind hf
    refine pq_cVi S (c_X7_isFine l g a T 1 q10.1 q10.2 e9) vv_X7_53 hK hP hD hS hA rfl rfl rfl rfl rfl hl.1 (Nat.le_of_ble_eq_true rfl) dX7_depthOf_16 (by decide) (by decide) ⟨Nat.le_refl _, Nat.le_refl _⟩ (fun H9 locs hk hP1 hS => ?_)
    replace hP := hP1
    replace hP : va_P g.1 pq_cl (modW g a q10.2) H9 := hP
    replace hD : va_D A (modW g a q10.2) := pq_adr hD (ad_X7 _ _)
    clear hk
    generalize H9 = H at hP hS ⊢
    refine lv_if_eq (tgt := 30) hx hb dX7_depthOf_19 (by decide) (fun h11 => ?_) (fun h11 => ?_)
    · replace hf := pq_ifp h11 hf
      refine lv_iconst (v := 0) hx hb dX7_depthOf_30 (by decide) ?_
      obtain ⟨h8, h9⟩ := pq_pair hf
      exact hend _ _ _ _ _ dX7_depthOf_31 rfl h8 (by rw [← h9]; exact hP) hS
    · replace hf := pq_ifn h11 hf
      refine lv_aload_n hx hb dX7_depthOf_22 rfl (lv_at hl 1 rfl) ?_
      refine lv_iload_n hx hb dX7_depthOf_23 rfl (lv_at hl 0 rfl) ?_
      obtain ⟨q13, e12, hf⟩ := pq_bind hf
      refine pq_cV S (c_X7_depth l g a q10.2 q2 q13 e12) vv_X7_83 hK hP rfl rfl rfl rfl rfl hl.1 (Nat.le_of_ble_eq_true rfl) dX7_depthOf_24 (by decide) (by decide) ⟨Nat.le_refl _, Nat.le_refl _⟩ ?_
      refine lv_goto (tgt := 31) hx hb dX7_depthOf_27 (by decide) ?_
      obtain ⟨h8, h9⟩ := pq_pair hf
      exact hend _ _ _ _ _ dX7_depthOf_31 rfl h8 (by rw [← h9]; exact hP) hS
def f_X7_sizeAt (T : ModS) (p1 : Int32) : Option (Int32) :=
    if 0 ≤ p1 then
      (f_X7_last T p1).bind fun q3 =>
      (f_X7_first T p1).bind fun q5 =>
      some ((q3 - q5) + 1)
    else
      some 0
set_option maxHeartbeats 4000000 in
set_option maxRecDepth 100000 in
theorem c_X7_sizeAt (l : Launch) (g : pq_g) (a : Nat → Nat) (T : ModS) (p1 : Int32) (r : Int32) (hf : f_X7_sizeAt T p1 = some r) : pq_R l yX7_sizeAt cX7_sizeAt 2 .int 4 g (modW g a T) [.ref (a 0), .int p1] r := by
  rw [f_X7_sizeAt] at hf
  refine pq_R.of (own := RX7) (by decide) rfl (Nat.le_of_ble_eq_true rfl) rfl ?_
  intro p e s m below meth c ls Q S hP hK hl hend
  obtain ⟨hx, hb, hml, hown, hts⟩ := id S
  refine lv_iload_n hx hb dX7_sizeAt_0 rfl (lv_at hl 1 rfl) ?_
  refine lv_if_ge (tgt := 8) hx hb dX7_sizeAt_1 (by decide) (fun h1 => ?_) (fun h1 => ?_)
  · replace hf := pq_ifp h1 hf
    refine lv_aload_n hx hb dX7_sizeAt_8 rfl (lv_at hl 0 rfl) ?_
    refine lv_iload_n hx hb dX7_sizeAt_9 rfl (lv_at hl 1 rfl) ?_
    obtain ⟨q3, e2, hf⟩ := pq_bind hf
    refine pq_cV S (c_X7_last l g a T p1 q3 e2) vv_X7_74 hK hP rfl rfl rfl rfl rfl hl.1 (Nat.le_of_ble_eq_true rfl) dX7_sizeAt_10 (by decide) (by decide) ⟨Nat.le_refl _, Nat.le_refl _⟩ ?_
    refine lv_aload_n hx hb dX7_sizeAt_13 rfl (lv_at hl 0 rfl) ?_
    refine lv_iload_n hx hb dX7_sizeAt_14 rfl (lv_at hl 1 rfl) ?_
    obtain ⟨q5, e4, hf⟩ := pq_bind hf
    refine pq_cV S (c_X7_first l g a T p1 q5 e4) vv_X7_71 hK hP rfl rfl rfl rfl rfl hl.1 (Nat.le_of_ble_eq_true rfl) dX7_sizeAt_15 (by decide) (by decide) ⟨Nat.le_refl _, Nat.le_refl _⟩ ?_
    refine lv_isub hx hb dX7_sizeAt_18 ?_
    refine lv_iconst (v := 1) hx hb dX7_sizeAt_19 (by decide) ?_
    refine lv_iadd hx hb dX7_sizeAt_20 ?_
    exact hend _ _ _ dX7_sizeAt_21 rfl hf
  · replace hf := pq_ifn h1 hf
    refine lv_iconst (v := 0) hx hb dX7_sizeAt_4 (by decide) ?_
    refine lv_goto (tgt := 21) hx hb dX7_sizeAt_5 (by decide) ?_
    exact hend _ _ _ dX7_sizeAt_21 rfl hf
def f_X7_subtreeSize (T : ModS) (p1 : Int32) : Option (Int32 × (ModS)) :=
    (f_X7_find T p1).bind fun q2 =>
    if q2 < 0 then
      (f_X7_isFine T 0).bind fun q5 =>
      if q5.1 = 0 then
        some (0, q5.2)
      else
        (f_X7_find q5.2 p1).bind fun q8 =>
        (f_X7_sizeAt q5.2 q8).bind fun q10 =>
        some (q10, q5.2)
    else
      (f_X7_isFine T 1).bind fun q12 =>
      if q12.1 = 0 then
        some (0, q12.2)
      else
        (f_X7_find q12.2 p1).bind fun q15 =>
        (f_X7_sizeAt q12.2 q15).bind fun q17 =>
        some (q17, q12.2)
set_option maxHeartbeats 4000000 in
set_option maxRecDepth 100000 in
theorem c_X7_subtreeSize (l : Launch) (g : pq_g) (a : Nat → Nat) (T : ModS) (p1 : Int32) (r : Int32) (T1 : ModS) (hf : f_X7_subtreeSize T p1 = some (r, T1)) : pq_Mi l yX7_subtreeSize cX7_subtreeSize 2 .int 5 g (modW g a T) [.ref (a 0), .int p1] r (modW g a T1) := by
  rw [f_X7_subtreeSize] at hf
  refine pq_Mi.of (own := RX7) (by decide) rfl (Nat.le_of_ble_eq_true rfl) rfl ?_
  intro p e s m below meth c ls Q A S hP hK hD hS hA hl hend
  obtain ⟨hx, hb, hml, hown, hts⟩ := id S
  refine lv_aload_n hx hb dX7_subtreeSize_0 rfl (lv_at hl 0 rfl) ?_
  refine lv_aload_n hx hb dX7_subtreeSize_1 rfl (lv_at hl 0 rfl) ?_
  refine lv_iload_n hx hb dX7_subtreeSize_2 rfl (lv_at hl 1 rfl) ?_
  obtain ⟨q2, e1, hf⟩ := pq_bind hf
  refine pq_cV S (c_X7_find l g a T p1 q2 e1) vv_X7_112 hK hP rfl rfl rfl rfl rfl hl.1 (Nat.le_of_ble_eq_true rfl) dX7_subtreeSize_3 (by decide) (by decide) ⟨Nat.le_refl _, Nat.le_refl _⟩ ?_
  refine lv_if_lt (tgt := 13) hx hb dX7_subtreeSize_6 (by decide) (fun h3 => ?_) (fun h3 => ?_)
  · replace hf := pq_ifp h3 hf
    refine lv_iconst (v := 0) hx hb dX7_subtreeSize_13 (by decide) ?_
    obtain ⟨q5, e4, hf⟩ := pq_bind hf
    refine pq_cVi S (c_X7_isFine l g a T 0 q5.1 q5.2 e4) vv_X7_53 hK hP hD hS hA rfl rfl rfl rfl rfl hl.1 (Nat.le_of_ble_eq_true rfl) dX7_subtreeSize_14 (by decide) (by decide) ⟨Nat.le_refl _, Nat.le_refl _⟩ (fun H9 locs hk hP1 hS => ?_)
    replace hP := hP1
    replace hP : va_P g.1 pq_cl (modW g a q5.2) H9 := hP
    replace hD : va_D A (modW g a q5.2) := pq_adr hD (ad_X7 _ _)
    clear hk
    generalize H9 = H at hP hS ⊢
    refine lv_if_eq (tgt := 32) hx hb dX7_subtreeSize_17 (by decide) (fun h6 => ?_) (fun h6 => ?_)
    · replace hf := pq_ifp h6 hf
      refine lv_iconst (v := 0) hx hb dX7_subtreeSize_32 (by decide) ?_
      obtain ⟨h8, h9⟩ := pq_pair hf
      exact hend _ _ _ _ _ dX7_subtreeSize_33 rfl h8 (by rw [← h9]; exact hP) hS
    · replace hf := pq_ifn h6 hf
      refine lv_aload_n hx hb dX7_subtreeSize_20 rfl (lv_at hl 0 rfl) ?_
      refine lv_aload_n hx hb dX7_subtreeSize_21 rfl (lv_at hl 0 rfl) ?_
      refine lv_iload_n hx hb dX7_subtreeSize_22 rfl (lv_at hl 1 rfl) ?_
      obtain ⟨q8, e7, hf⟩ := pq_bind hf
      refine pq_cV S (c_X7_find l g a q5.2 p1 q8 e7) vv_X7_112 hK hP rfl rfl rfl rfl rfl hl.1 (Nat.le_of_ble_eq_true rfl) dX7_subtreeSize_23 (by decide) (by decide) ⟨Nat.le_refl _, Nat.le_refl _⟩ ?_
      obtain ⟨q10, e9, hf⟩ := pq_bind hf
      refine pq_cV S (c_X7_sizeAt l g a q5.2 q8 q10 e9) vv_X7_180 hK hP rfl rfl rfl rfl rfl hl.1 (Nat.le_of_ble_eq_true rfl) dX7_subtreeSize_26 (by decide) (by decide) ⟨Nat.le_refl _, Nat.le_refl _⟩ ?_
      refine lv_goto (tgt := 33) hx hb dX7_subtreeSize_29 (by decide) ?_
      obtain ⟨h8, h9⟩ := pq_pair hf
      exact hend _ _ _ _ _ dX7_subtreeSize_33 rfl h8 (by rw [← h9]; exact hP) hS
  · replace hf := pq_ifn h3 hf
    refine lv_iconst (v := 1) hx hb dX7_subtreeSize_9 (by decide) ?_
    refine lv_goto (tgt := 14) hx hb dX7_subtreeSize_10 (by decide) ?_
    obtain ⟨q12, e11, hf⟩ := pq_bind hf
    refine pq_cVi S (c_X7_isFine l g a T 1 q12.1 q12.2 e11) vv_X7_53 hK hP hD hS hA rfl rfl rfl rfl rfl hl.1 (Nat.le_of_ble_eq_true rfl) dX7_subtreeSize_14 (by decide) (by decide) ⟨Nat.le_refl _, Nat.le_refl _⟩ (fun H9 locs hk hP1 hS => ?_)
    replace hP := hP1
    replace hP : va_P g.1 pq_cl (modW g a q12.2) H9 := hP
    replace hD : va_D A (modW g a q12.2) := pq_adr hD (ad_X7 _ _)
    clear hk
    generalize H9 = H at hP hS ⊢
    refine lv_if_eq (tgt := 32) hx hb dX7_subtreeSize_17 (by decide) (fun h13 => ?_) (fun h13 => ?_)
    · replace hf := pq_ifp h13 hf
      refine lv_iconst (v := 0) hx hb dX7_subtreeSize_32 (by decide) ?_
      obtain ⟨h8, h9⟩ := pq_pair hf
      exact hend _ _ _ _ _ dX7_subtreeSize_33 rfl h8 (by rw [← h9]; exact hP) hS
    · replace hf := pq_ifn h13 hf
      refine lv_aload_n hx hb dX7_subtreeSize_20 rfl (lv_at hl 0 rfl) ?_
      refine lv_aload_n hx hb dX7_subtreeSize_21 rfl (lv_at hl 0 rfl) ?_
      refine lv_iload_n hx hb dX7_subtreeSize_22 rfl (lv_at hl 1 rfl) ?_
      obtain ⟨q15, e14, hf⟩ := pq_bind hf
      refine pq_cV S (c_X7_find l g a q12.2 p1 q15 e14) vv_X7_112 hK hP rfl rfl rfl rfl rfl hl.1 (Nat.le_of_ble_eq_true rfl) dX7_subtreeSize_23 (by decide) (by decide) ⟨Nat.le_refl _, Nat.le_refl _⟩ ?_
      obtain ⟨q17, e16, hf⟩ := pq_bind hf
      refine pq_cV S (c_X7_sizeAt l g a q12.2 q15 q17 e16) vv_X7_180 hK hP rfl rfl rfl rfl rfl hl.1 (Nat.le_of_ble_eq_true rfl) dX7_subtreeSize_26 (by decide) (by decide) ⟨Nat.le_refl _, Nat.le_refl _⟩ ?_
      refine lv_goto (tgt := 33) hx hb dX7_subtreeSize_29 (by decide) ?_
      obtain ⟨h8, h9⟩ := pq_pair hf
      exact hend _ _ _ _ _ dX7_subtreeSize_33 rfl h8 (by rw [← h9]; exact hP) hS
def f_X7_imbalanceOf (T : ModS) (p1 : Int32) : Option (Int32 × (ModS)) :=
    (f_X7_find T p1).bind fun q2 =>
    if q2 < 0 then
      (f_X7_isFine T 0).bind fun q5 =>
      if q5.1 = 0 then
        some (0, q5.2)
      else
        (f_X7_leftAt q5.2 q2).bind fun q8 =>
        (f_X7_sizeAt q5.2 q8).bind fun q10 =>
        (f_X7_rightAt q5.2 q2).bind fun q12 =>
        (f_X7_sizeAt q5.2 q12).bind fun q14 =>
        some ((q10 - q14), q5.2)
    else
      (f_X7_isFine T 1).bind fun q16 =>
      if q16.1 = 0 then
        some (0, q16.2)
      else
        (f_X7_leftAt q16.2 q2).bind fun q19 =>
        (f_X7_sizeAt q16.2 q19).bind fun q21 =>
        (f_X7_rightAt q16.2 q2).bind fun q23 =>
        (f_X7_sizeAt q16.2 q23).bind fun q25 =>
        some ((q21 - q25), q16.2)
set_option maxHeartbeats 4000000 in
set_option maxRecDepth 100000 in
theorem c_X7_imbalanceOf (l : Launch) (g : pq_g) (a : Nat → Nat) (T : ModS) (p1 : Int32) (r : Int32) (T1 : ModS) (hf : f_X7_imbalanceOf T p1 = some (r, T1)) : pq_Mi l yX7_imbalanceOf cX7_imbalanceOf 3 .int 5 g (modW g a T) [.ref (a 0), .int p1] r (modW g a T1) := by
  rw [f_X7_imbalanceOf] at hf
  refine pq_Mi.of (own := RX7) (by decide) rfl (Nat.le_of_ble_eq_true rfl) rfl ?_
  intro p e s m below meth c ls Q A S hP hK hD hS hA hl hend
  obtain ⟨hx, hb, hml, hown, hts⟩ := id S
  refine lv_aload_n hx hb dX7_imbalanceOf_0 rfl (lv_at hl 0 rfl) ?_
  refine lv_iload_n hx hb dX7_imbalanceOf_1 rfl (lv_at hl 1 rfl) ?_
  obtain ⟨q2, e1, hf⟩ := pq_bind hf
  refine pq_cV S (c_X7_find l g a T p1 q2 e1) vv_X7_112 hK hP rfl rfl rfl rfl rfl hl.1 (Nat.le_of_ble_eq_true rfl) dX7_imbalanceOf_2 (by decide) (by decide) ⟨Nat.le_refl _, Nat.le_refl _⟩ ?_
  refine lv_istore_n (lv' := [(2, .int q2), (0, .ref (a 0)), (1, .int p1)]) hx hb dX7_imbalanceOf_5 rfl hl (by decide) rfl (fun ls hl => ?_)
  refine lv_aload_n hx hb dX7_imbalanceOf_6 rfl (lv_at hl 1 rfl) ?_
  refine lv_iload_n hx hb dX7_imbalanceOf_7 rfl (lv_at hl 0 rfl) ?_
  refine lv_if_lt (tgt := 15) hx hb dX7_imbalanceOf_8 (by decide) (fun h3 => ?_) (fun h3 => ?_)
  · replace hf := pq_ifp h3 hf
    refine lv_iconst (v := 0) hx hb dX7_imbalanceOf_15 (by decide) ?_
    obtain ⟨q5, e4, hf⟩ := pq_bind hf
    refine pq_cVi S (c_X7_isFine l g a T 0 q5.1 q5.2 e4) vv_X7_53 hK hP hD hS hA rfl rfl rfl rfl rfl hl.1 (Nat.le_of_ble_eq_true rfl) dX7_imbalanceOf_16 (by decide) (by decide) ⟨Nat.le_refl _, Nat.le_refl _⟩ (fun H9 locs hk hP1 hS => ?_)
    replace hP := hP1
    replace hP : va_P g.1 pq_cl (modW g a q5.2) H9 := hP
    replace hD : va_D A (modW g a q5.2) := pq_adr hD (ad_X7 _ _)
    clear hk
    generalize H9 = H at hP hS ⊢
    refine lv_if_eq (tgt := 44) hx hb dX7_imbalanceOf_19 (by decide) (fun h6 => ?_) (fun h6 => ?_)
    · replace hf := pq_ifp h6 hf
      refine lv_iconst (v := 0) hx hb dX7_imbalanceOf_44 (by decide) ?_
      obtain ⟨h8, h9⟩ := pq_pair hf
      exact hend _ _ _ _ _ dX7_imbalanceOf_45 rfl h8 (by rw [← h9]; exact hP) hS
    · replace hf := pq_ifn h6 hf
      refine lv_aload_n hx hb dX7_imbalanceOf_22 rfl (lv_at hl 1 rfl) ?_
      refine lv_aload_n hx hb dX7_imbalanceOf_23 rfl (lv_at hl 1 rfl) ?_
      refine lv_iload_n hx hb dX7_imbalanceOf_24 rfl (lv_at hl 0 rfl) ?_
      obtain ⟨q8, e7, hf⟩ := pq_bind hf
      refine pq_cV S (c_X7_leftAt l g a q5.2 q2 q8 e7) vv_X7_171 hK hP rfl rfl rfl rfl rfl hl.1 (Nat.le_of_ble_eq_true rfl) dX7_imbalanceOf_25 (by decide) (by decide) ⟨Nat.le_refl _, Nat.le_refl _⟩ ?_
      obtain ⟨q10, e9, hf⟩ := pq_bind hf
      refine pq_cV S (c_X7_sizeAt l g a q5.2 q8 q10 e9) vv_X7_180 hK hP rfl rfl rfl rfl rfl hl.1 (Nat.le_of_ble_eq_true rfl) dX7_imbalanceOf_28 (by decide) (by decide) ⟨Nat.le_refl _, Nat.le_refl _⟩ ?_
      refine lv_aload_n hx hb dX7_imbalanceOf_31 rfl (lv_at hl 1 rfl) ?_
      refine lv_aload_n hx hb dX7_imbalanceOf_32 rfl (lv_at hl 1 rfl) ?_
      refine lv_iload_n hx hb dX7_imbalanceOf_33 rfl (lv_at hl 0 rfl) ?_
      obtain ⟨q12, e11, hf⟩ := pq_bind hf
      refine pq_cV S (c_X7_rightAt l g a q5.2 q2 q12 e11) vv_X7_174 hK hP rfl rfl rfl rfl rfl hl.1 (Nat.le_of_ble_eq_true rfl) dX7_imbalanceOf_34 (by decide) (by decide) ⟨Nat.le_refl _, Nat.le_refl _⟩ ?_
      obtain ⟨q14, e13, hf⟩ := pq_bind hf
      refine pq_cV S (c_X7_sizeAt l g a q5.2 q12 q14 e13) vv_X7_180 hK hP rfl rfl rfl rfl rfl hl.1 (Nat.le_of_ble_eq_true rfl) dX7_imbalanceOf_37 (by decide) (by decide) ⟨Nat.le_refl _, Nat.le_refl _⟩ ?_
      refine lv_isub hx hb dX7_imbalanceOf_40 ?_
      refine lv_goto (tgt := 45) hx hb dX7_imbalanceOf_41 (by decide) ?_
      obtain ⟨h8, h9⟩ := pq_pair hf
      exact hend _ _ _ _ _ dX7_imbalanceOf_45 rfl h8 (by rw [← h9]; exact hP) hS
  · replace hf := pq_ifn h3 hf
    refine lv_iconst (v := 1) hx hb dX7_imbalanceOf_11 (by decide) ?_
    refine lv_goto (tgt := 16) hx hb dX7_imbalanceOf_12 (by decide) ?_
    obtain ⟨q16, e15, hf⟩ := pq_bind hf
    refine pq_cVi S (c_X7_isFine l g a T 1 q16.1 q16.2 e15) vv_X7_53 hK hP hD hS hA rfl rfl rfl rfl rfl hl.1 (Nat.le_of_ble_eq_true rfl) dX7_imbalanceOf_16 (by decide) (by decide) ⟨Nat.le_refl _, Nat.le_refl _⟩ (fun H9 locs hk hP1 hS => ?_)
    replace hP := hP1
    replace hP : va_P g.1 pq_cl (modW g a q16.2) H9 := hP
    replace hD : va_D A (modW g a q16.2) := pq_adr hD (ad_X7 _ _)
    clear hk
    generalize H9 = H at hP hS ⊢
    refine lv_if_eq (tgt := 44) hx hb dX7_imbalanceOf_19 (by decide) (fun h17 => ?_) (fun h17 => ?_)
    · replace hf := pq_ifp h17 hf
      refine lv_iconst (v := 0) hx hb dX7_imbalanceOf_44 (by decide) ?_
      obtain ⟨h8, h9⟩ := pq_pair hf
      exact hend _ _ _ _ _ dX7_imbalanceOf_45 rfl h8 (by rw [← h9]; exact hP) hS
    · replace hf := pq_ifn h17 hf
      refine lv_aload_n hx hb dX7_imbalanceOf_22 rfl (lv_at hl 1 rfl) ?_
      refine lv_aload_n hx hb dX7_imbalanceOf_23 rfl (lv_at hl 1 rfl) ?_
      refine lv_iload_n hx hb dX7_imbalanceOf_24 rfl (lv_at hl 0 rfl) ?_
      obtain ⟨q19, e18, hf⟩ := pq_bind hf
      refine pq_cV S (c_X7_leftAt l g a q16.2 q2 q19 e18) vv_X7_171 hK hP rfl rfl rfl rfl rfl hl.1 (Nat.le_of_ble_eq_true rfl) dX7_imbalanceOf_25 (by decide) (by decide) ⟨Nat.le_refl _, Nat.le_refl _⟩ ?_
      obtain ⟨q21, e20, hf⟩ := pq_bind hf
      refine pq_cV S (c_X7_sizeAt l g a q16.2 q19 q21 e20) vv_X7_180 hK hP rfl rfl rfl rfl rfl hl.1 (Nat.le_of_ble_eq_true rfl) dX7_imbalanceOf_28 (by decide) (by decide) ⟨Nat.le_refl _, Nat.le_refl _⟩ ?_
      refine lv_aload_n hx hb dX7_imbalanceOf_31 rfl (lv_at hl 1 rfl) ?_
      refine lv_aload_n hx hb dX7_imbalanceOf_32 rfl (lv_at hl 1 rfl) ?_
      refine lv_iload_n hx hb dX7_imbalanceOf_33 rfl (lv_at hl 0 rfl) ?_
      obtain ⟨q23, e22, hf⟩ := pq_bind hf
      refine pq_cV S (c_X7_rightAt l g a q16.2 q2 q23 e22) vv_X7_174 hK hP rfl rfl rfl rfl rfl hl.1 (Nat.le_of_ble_eq_true rfl) dX7_imbalanceOf_34 (by decide) (by decide) ⟨Nat.le_refl _, Nat.le_refl _⟩ ?_
      obtain ⟨q25, e24, hf⟩ := pq_bind hf
      refine pq_cV S (c_X7_sizeAt l g a q16.2 q23 q25 e24) vv_X7_180 hK hP rfl rfl rfl rfl rfl hl.1 (Nat.le_of_ble_eq_true rfl) dX7_imbalanceOf_37 (by decide) (by decide) ⟨Nat.le_refl _, Nat.le_refl _⟩ ?_
      refine lv_isub hx hb dX7_imbalanceOf_40 ?_
      refine lv_goto (tgt := 45) hx hb dX7_imbalanceOf_41 (by decide) ?_
      obtain ⟨h8, h9⟩ := pq_pair hf
      exact hend _ _ _ _ _ dX7_imbalanceOf_45 rfl h8 (by rw [← h9]; exact hP) hS
def f_X7_height_c9 : Nat → ModS → Int32 → Int32 → Option (Int32 × (ModS))
  | 0, _, _, _ => none
  | n + 1, T, v1, v2 =>
    if (T.2.1 (0 : Int32).toNatClampNeg) ≤ v2 then
      some (v1, T)
    else
      (f_X7_depth T v2).bind fun q3 =>
      if q3 ≤ v1 then
        f_X7_height_c9 n T v1 (v2 + 1)
      else
        (f_X7_depth T v2).bind fun q6 =>
        f_X7_height_c9 n T q6 (v2 + 1)
def f_X7_height (T : ModS) : Option (Int32 × (ModS)) :=
    f_X7_height_c9 200 (0, T.2.1, T.2.2.1, T.2.2.2.1, T.2.2.2.2.1, T.2.2.2.2.2.1, T.2.2.2.2.2.2.1, T.2.2.2.2.2.2.2.1, T.2.2.2.2.2.2.2.2.1, T.2.2.2.2.2.2.2.2.2.1, T.2.2.2.2.2.2.2.2.2.2.1, T.2.2.2.2.2.2.2.2.2.2.2.1, T.2.2.2.2.2.2.2.2.2.2.2.2.1, T.2.2.2.2.2.2.2.2.2.2.2.2.2.1, T.2.2.2.2.2.2.2.2.2.2.2.2.2.2.1, T.2.2.2.2.2.2.2.2.2.2.2.2.2.2.2.1, T.2.2.2.2.2.2.2.2.2.2.2.2.2.2.2.2) (-1) 0
set_option maxHeartbeats 4000000 in
set_option maxRecDepth 100000 in
theorem c_X7_height (l : Launch) (g : pq_g) (a : Nat → Nat) (T : ModS) (r : Int32) (T1 : ModS) (hf : f_X7_height T = some (r, T1)) : pq_Mi l yX7_height cX7_height 3 .int 5 g (modW g a T) [.ref (a 0)] r (modW g a T1) := by
  rw [f_X7_height] at hf
  refine pq_Mi.of (own := RX7) (by decide) rfl (Nat.le_of_ble_eq_true rfl) rfl ?_
  intro p e s m below meth c ls Q A S hP hK hD hS hA hl hend
  obtain ⟨hx, hb, hml, hown, hts⟩ := id S
  have B9 : ∀ (n9 : Nat) (T : ModS) (v1 : Int32) (v2 : Int32) (ls : Array Slot) (H : Heap) (locs : List Loc), va_P g.1 pq_cl (modW g a T) H → va_D A (modW g a T) → va_S A s.heap H locs → lv_has ls 3 [(0, .ref (a 0)), (1, .int v1), (2, .int v2)] → f_X7_height_c9 n9 T v1 v2 = some (r, T1) → W p l e (pq_rm 5 0 0) s m ([.ref (a 0)] : List Value).toArray below meth c H locs 0 0 Q (F0 m 9 ls []) := by
    intro n9
    induction n9 with
    | zero =>
      intro T v1 v2 ls H locs hP hD hS hl hf
      exact absurd hf (by simp [f_X7_height_c9])
    | succ n9 ih9 =>
      intro T v1 v2 ls H locs hP hD hS hl hf
      rw [f_X7_height_c9] at hf
      refine lv_iload_n hx hb dX7_height_9 rfl (lv_at hl 2 rfl) ?_
      refine lv_aload_n hx hb dX7_height_10 rfl (lv_at hl 0 rfl) ?_
      refine pq_get S hK hP inX7 0 rfl rfl 1 (by decide) fl_X7_9 rfl (v := .ref (a 1)) rfl dX7_height_11 ?_
      refine lv_iconst (v := 0) hx hb dX7_height_14 (by decide) ?_
      refine va_iald hx hb hK.1 hP 1 0 rfl rfl (show ¬ ((0 : Int32) < 0 ∨ 770 ≤ (0 : Int32).toNatClampNeg) by decide) dX7_height_15 ?_
      refine lv_icmp_ge (tgt := 44) hx hb dX7_height_16 (by decide) (fun h1 => ?_) (fun h1 => ?_)
      · replace hf := pq_ifp h1 hf
        refine lv_iload_n hx hb dX7_height_44 rfl (lv_at hl 1 rfl) ?_
        obtain ⟨h8, h9⟩ := pq_pair hf
        exact hend _ _ _ _ _ dX7_height_45 rfl h8 (by rw [← h9]; exact hP) hS
      · replace hf := pq_ifn h1 hf
        refine lv_aload_n hx hb dX7_height_19 rfl (lv_at hl 0 rfl) ?_
        refine lv_iload_n hx hb dX7_height_20 rfl (lv_at hl 2 rfl) ?_
        obtain ⟨q3, e2, hf⟩ := pq_bind hf
        refine pq_cV S (c_X7_depth l g a T v2 q3 e2) vv_X7_83 hK hP rfl rfl rfl rfl rfl hl.1 (Nat.le_of_ble_eq_true rfl) dX7_height_21 (by decide) (by decide) ⟨Nat.le_refl _, Nat.le_refl _⟩ ?_
        refine lv_iload_n hx hb dX7_height_24 rfl (lv_at hl 1 rfl) ?_
        refine lv_icmp_le (tgt := 36) hx hb dX7_height_25 (by decide) (fun h4 => ?_) (fun h4 => ?_)
        · replace hf := pq_ifp h4 hf
          refine lv_iload_n hx hb dX7_height_36 rfl (lv_at hl 1 rfl) ?_
          refine lv_istore_n (lv' := [(1, .int v1), (0, .ref (a 0)), (2, .int v2)]) hx hb dX7_height_37 rfl hl (by decide) rfl (fun ls hl => ?_)
          refine lv_iinc (v := (v2 + 1)) (lv' := [(2, .int (v2 + 1)), (1, .int v1), (0, .ref (a 0))]) hx hb dX7_height_38 hl (k := 2) rfl rfl (by decide) rfl (fun ls hl => ?_)
          refine lv_goto (tgt := 9) hx hb dX7_height_41 (by decide) ?_
          exact ih9 T v1 (v2 + 1) ls _ _ hP hD hS (lv_sub hl [2, 1, 0] rfl) hf
        · replace hf := pq_ifn h4 hf
          refine lv_aload_n hx hb dX7_height_28 rfl (lv_at hl 0 rfl) ?_
          refine lv_iload_n hx hb dX7_height_29 rfl (lv_at hl 2 rfl) ?_
          obtain ⟨q6, e5, hf⟩ := pq_bind hf
          refine pq_cV S (c_X7_depth l g a T v2 q6 e5) vv_X7_83 hK hP rfl rfl rfl rfl rfl hl.1 (Nat.le_of_ble_eq_true rfl) dX7_height_30 (by decide) (by decide) ⟨Nat.le_refl _, Nat.le_refl _⟩ ?_
          refine lv_goto (tgt := 37) hx hb dX7_height_33 (by decide) ?_
          refine lv_istore_n (lv' := [(1, .int q6), (0, .ref (a 0)), (2, .int v2)]) hx hb dX7_height_37 rfl hl (by decide) rfl (fun ls hl => ?_)
          refine lv_iinc (v := (v2 + 1)) (lv' := [(2, .int (v2 + 1)), (1, .int q6), (0, .ref (a 0))]) hx hb dX7_height_38 hl (k := 2) rfl rfl (by decide) rfl (fun ls hl => ?_)
          refine lv_goto (tgt := 9) hx hb dX7_height_41 (by decide) ?_
          exact ih9 T q6 (v2 + 1) ls _ _ hP hD hS (lv_sub hl [2, 1, 0] rfl) hf
  refine lv_aload_n hx hb dX7_height_0 rfl (lv_at hl 0 rfl) ?_
  refine lv_iconst (v := 0) hx hb dX7_height_1 (by decide) ?_
  refine pq_putf S hK hP hD hS inX7 tyX7_ok nmX7 0 rfl rfl 0 (by decide) fl_X7_27 rfl rfl (ty := .int) rfl rfl rfl (Nat.le_of_ble_eq_true rfl) dX7_height_2 (fun H locs hP hS => ?_)
  replace hP : va_P g.1 pq_cl (modW g a (0, T.2.1, T.2.2.1, T.2.2.2.1, T.2.2.2.2.1, T.2.2.2.2.2.1, T.2.2.2.2.2.2.1, T.2.2.2.2.2.2.2.1, T.2.2.2.2.2.2.2.2.1, T.2.2.2.2.2.2.2.2.2.1, T.2.2.2.2.2.2.2.2.2.2.1, T.2.2.2.2.2.2.2.2.2.2.2.1, T.2.2.2.2.2.2.2.2.2.2.2.2.1, T.2.2.2.2.2.2.2.2.2.2.2.2.2.1, T.2.2.2.2.2.2.2.2.2.2.2.2.2.2.1, T.2.2.2.2.2.2.2.2.2.2.2.2.2.2.2.1, T.2.2.2.2.2.2.2.2.2.2.2.2.2.2.2.2)) H := hP
  replace hD : va_D A (modW g a (0, T.2.1, T.2.2.1, T.2.2.2.1, T.2.2.2.2.1, T.2.2.2.2.2.1, T.2.2.2.2.2.2.1, T.2.2.2.2.2.2.2.1, T.2.2.2.2.2.2.2.2.1, T.2.2.2.2.2.2.2.2.2.1, T.2.2.2.2.2.2.2.2.2.2.1, T.2.2.2.2.2.2.2.2.2.2.2.1, T.2.2.2.2.2.2.2.2.2.2.2.2.1, T.2.2.2.2.2.2.2.2.2.2.2.2.2.1, T.2.2.2.2.2.2.2.2.2.2.2.2.2.2.1, T.2.2.2.2.2.2.2.2.2.2.2.2.2.2.2.1, T.2.2.2.2.2.2.2.2.2.2.2.2.2.2.2.2)) := pq_adr hD (ad_X7 _ _)
  refine lv_iconst (v := (-1)) hx hb dX7_height_5 (by decide) ?_
  refine lv_istore_n (lv' := [(1, .int (-1)), (0, .ref (a 0))]) hx hb dX7_height_6 rfl hl (by decide) rfl (fun ls hl => ?_)
  refine lv_iconst (v := 0) hx hb dX7_height_7 (by decide) ?_
  refine lv_istore_n (lv' := [(2, .int 0), (1, .int (-1)), (0, .ref (a 0))]) hx hb dX7_height_8 rfl hl (by decide) rfl (fun ls hl => ?_)
  exact B9 200 (0, T.2.1, T.2.2.1, T.2.2.2.1, T.2.2.2.2.1, T.2.2.2.2.2.1, T.2.2.2.2.2.2.1, T.2.2.2.2.2.2.2.1, T.2.2.2.2.2.2.2.2.1, T.2.2.2.2.2.2.2.2.2.1, T.2.2.2.2.2.2.2.2.2.2.1, T.2.2.2.2.2.2.2.2.2.2.2.1, T.2.2.2.2.2.2.2.2.2.2.2.2.1, T.2.2.2.2.2.2.2.2.2.2.2.2.2.1, T.2.2.2.2.2.2.2.2.2.2.2.2.2.2.1, T.2.2.2.2.2.2.2.2.2.2.2.2.2.2.2.1, T.2.2.2.2.2.2.2.2.2.2.2.2.2.2.2.2) (-1) 0 ls _ _ hP hD hS (lv_sub hl [2, 1, 0] rfl) hf
def f_X7_leaves_c4 : Nat → ModS → Int32 → Int32 → Option (Int32)
  | 0, _, _, _ => none
  | n + 1, T, v1, v2 =>
    if (T.2.1 (0 : Int32).toNatClampNeg) ≤ v2 then
      some v1
    else
      (f_X7_sizeAt T v2).bind fun q3 =>
      if q3 = 1 then
        f_X7_leaves_c4 n T (v1 + 1) (v2 + 1)
      else
        f_X7_leaves_c4 n T (v1 + 0) (v2 + 1)
def f_X7_leaves (T : ModS) : Option (Int32) :=
    f_X7_leaves_c4 200 T 0 0
set_option maxHeartbeats 4000000 in
set_option maxRecDepth 100000 in
theorem c_X7_leaves (l : Launch) (g : pq_g) (a : Nat → Nat) (T : ModS) (r : Int32) (hf : f_X7_leaves T = some r) : pq_R l yX7_leaves cX7_leaves 3 .int 5 g (modW g a T) [.ref (a 0)] r := by
  rw [f_X7_leaves] at hf
  refine pq_R.of (own := RX7) (by decide) rfl (Nat.le_of_ble_eq_true rfl) rfl ?_
  intro p e s m below meth c ls Q S hP hK hl hend
  obtain ⟨hx, hb, hml, hown, hts⟩ := id S
  have B4 : ∀ (n4 : Nat) (v1 : Int32) (v2 : Int32) (ls : Array Slot), lv_has ls 3 [(0, .ref (a 0)), (1, .int v1), (2, .int v2)] → f_X7_leaves_c4 n4 T v1 v2 = some r → W p l e (pq_rm 5 0 0) s m ([.ref (a 0)] : List Value).toArray below meth c s.heap [] 0 0 Q (F0 m 4 ls []) := by
    intro n4
    induction n4 with
    | zero =>
      intro v1 v2 ls hl hf
      exact absurd hf (by simp [f_X7_leaves_c4])
    | succ n4 ih4 =>
      intro v1 v2 ls hl hf
      rw [f_X7_leaves_c4] at hf
      refine lv_iload_n hx hb dX7_leaves_4 rfl (lv_at hl 2 rfl) ?_
      refine lv_aload_n hx hb dX7_leaves_5 rfl (lv_at hl 0 rfl) ?_
      refine pq_get S hK hP inX7 0 rfl rfl 1 (by decide) fl_X7_9 rfl (v := .ref (a 1)) rfl dX7_leaves_6 ?_
      refine lv_iconst (v := 0) hx hb dX7_leaves_9 (by decide) ?_
      refine va_iald hx hb hK.1 hP 1 0 rfl rfl (show ¬ ((0 : Int32) < 0 ∨ 770 ≤ (0 : Int32).toNatClampNeg) by decide) dX7_leaves_10 ?_
      refine lv_icmp_ge (tgt := 37) hx hb dX7_leaves_11 (by decide) (fun h1 => ?_) (fun h1 => ?_)
      · replace hf := pq_ifp h1 hf
        refine lv_iload_n hx hb dX7_leaves_37 rfl (lv_at hl 1 rfl) ?_
        exact hend _ _ _ dX7_leaves_38 rfl hf
      · replace hf := pq_ifn h1 hf
        refine lv_iload_n hx hb dX7_leaves_14 rfl (lv_at hl 1 rfl) ?_
        refine lv_aload_n hx hb dX7_leaves_15 rfl (lv_at hl 0 rfl) ?_
        refine lv_iload_n hx hb dX7_leaves_16 rfl (lv_at hl 2 rfl) ?_
        obtain ⟨q3, e2, hf⟩ := pq_bind hf
        refine pq_cV S (c_X7_sizeAt l g a T v2 q3 e2) vv_X7_180 hK hP rfl rfl rfl rfl rfl hl.1 (Nat.le_of_ble_eq_true rfl) dX7_leaves_17 (by decide) (by decide) ⟨Nat.le_refl _, Nat.le_refl _⟩ ?_
        refine lv_iconst (v := 1) hx hb dX7_leaves_20 (by decide) ?_
        refine lv_icmp_ne (tgt := 28) hx hb dX7_leaves_21 (by decide) (fun h4 => ?_) (fun h4 => ?_)
        · replace hf := pq_ifn h4 hf
          refine lv_iconst (v := 0) hx hb dX7_leaves_28 (by decide) ?_
          refine lv_iadd hx hb dX7_leaves_29 ?_
          refine lv_istore_n (lv' := [(1, .int (v1 + 0)), (0, .ref (a 0)), (2, .int v2)]) hx hb dX7_leaves_30 rfl hl (by decide) rfl (fun ls hl => ?_)
          refine lv_iinc (v := (v2 + 1)) (lv' := [(2, .int (v2 + 1)), (1, .int (v1 + 0)), (0, .ref (a 0))]) hx hb dX7_leaves_31 hl (k := 2) rfl rfl (by decide) rfl (fun ls hl => ?_)
          refine lv_goto (tgt := 4) hx hb dX7_leaves_34 (by decide) ?_
          exact ih4 (v1 + 0) (v2 + 1) ls (lv_sub hl [2, 1, 0] rfl) hf
        · replace hf := pq_ifp h4 hf
          refine lv_iconst (v := 1) hx hb dX7_leaves_24 (by decide) ?_
          refine lv_goto (tgt := 29) hx hb dX7_leaves_25 (by decide) ?_
          refine lv_iadd hx hb dX7_leaves_29 ?_
          refine lv_istore_n (lv' := [(1, .int (v1 + 1)), (0, .ref (a 0)), (2, .int v2)]) hx hb dX7_leaves_30 rfl hl (by decide) rfl (fun ls hl => ?_)
          refine lv_iinc (v := (v2 + 1)) (lv' := [(2, .int (v2 + 1)), (1, .int (v1 + 1)), (0, .ref (a 0))]) hx hb dX7_leaves_31 hl (k := 2) rfl rfl (by decide) rfl (fun ls hl => ?_)
          refine lv_goto (tgt := 4) hx hb dX7_leaves_34 (by decide) ?_
          exact ih4 (v1 + 1) (v2 + 1) ls (lv_sub hl [2, 1, 0] rfl) hf
  refine lv_iconst (v := 0) hx hb dX7_leaves_0 (by decide) ?_
  refine lv_istore_n (lv' := [(1, .int 0), (0, .ref (a 0))]) hx hb dX7_leaves_1 rfl hl (by decide) rfl (fun ls hl => ?_)
  refine lv_iconst (v := 0) hx hb dX7_leaves_2 (by decide) ?_
  refine lv_istore_n (lv' := [(2, .int 0), (1, .int 0), (0, .ref (a 0))]) hx hb dX7_leaves_3 rfl hl (by decide) rfl (fun ls hl => ?_)
  exact B4 200 0 0 ls (lv_sub hl [2, 1, 0] rfl) hf
def f_X7_leafCount (T : ModS) : Option (Int32 × (ModS)) :=
    (f_X7_leaves (0, T.2.1, T.2.2.1, T.2.2.2.1, T.2.2.2.2.1, T.2.2.2.2.2.1, T.2.2.2.2.2.2.1, T.2.2.2.2.2.2.2.1, T.2.2.2.2.2.2.2.2.1, T.2.2.2.2.2.2.2.2.2.1, T.2.2.2.2.2.2.2.2.2.2.1, T.2.2.2.2.2.2.2.2.2.2.2.1, T.2.2.2.2.2.2.2.2.2.2.2.2.1, T.2.2.2.2.2.2.2.2.2.2.2.2.2.1, T.2.2.2.2.2.2.2.2.2.2.2.2.2.2.1, T.2.2.2.2.2.2.2.2.2.2.2.2.2.2.2.1, T.2.2.2.2.2.2.2.2.2.2.2.2.2.2.2.2)).bind fun q2 =>
    some (q2, (0, T.2.1, T.2.2.1, T.2.2.2.1, T.2.2.2.2.1, T.2.2.2.2.2.1, T.2.2.2.2.2.2.1, T.2.2.2.2.2.2.2.1, T.2.2.2.2.2.2.2.2.1, T.2.2.2.2.2.2.2.2.2.1, T.2.2.2.2.2.2.2.2.2.2.1, T.2.2.2.2.2.2.2.2.2.2.2.1, T.2.2.2.2.2.2.2.2.2.2.2.2.1, T.2.2.2.2.2.2.2.2.2.2.2.2.2.1, T.2.2.2.2.2.2.2.2.2.2.2.2.2.2.1, T.2.2.2.2.2.2.2.2.2.2.2.2.2.2.2.1, T.2.2.2.2.2.2.2.2.2.2.2.2.2.2.2.2))
set_option maxHeartbeats 4000000 in
set_option maxRecDepth 100000 in
theorem c_X7_leafCount (l : Launch) (g : pq_g) (a : Nat → Nat) (T : ModS) (r : Int32) (T1 : ModS) (hf : f_X7_leafCount T = some (r, T1)) : pq_Mi l yX7_leafCount cX7_leafCount 1 .int 6 g (modW g a T) [.ref (a 0)] r (modW g a T1) := by
  rw [f_X7_leafCount] at hf
  refine pq_Mi.of (own := RX7) (by decide) rfl (Nat.le_of_ble_eq_true rfl) rfl ?_
  intro p e s m below meth c ls Q A S hP hK hD hS hA hl hend
  obtain ⟨hx, hb, hml, hown, hts⟩ := id S
  refine lv_aload_n hx hb dX7_leafCount_0 rfl (lv_at hl 0 rfl) ?_
  refine lv_iconst (v := 0) hx hb dX7_leafCount_1 (by decide) ?_
  refine pq_putf S hK hP hD hS inX7 tyX7_ok nmX7 0 rfl rfl 0 (by decide) fl_X7_27 rfl rfl (ty := .int) rfl rfl rfl (Nat.le_of_ble_eq_true rfl) dX7_leafCount_2 (fun H locs hP hS => ?_)
  replace hP : va_P g.1 pq_cl (modW g a (0, T.2.1, T.2.2.1, T.2.2.2.1, T.2.2.2.2.1, T.2.2.2.2.2.1, T.2.2.2.2.2.2.1, T.2.2.2.2.2.2.2.1, T.2.2.2.2.2.2.2.2.1, T.2.2.2.2.2.2.2.2.2.1, T.2.2.2.2.2.2.2.2.2.2.1, T.2.2.2.2.2.2.2.2.2.2.2.1, T.2.2.2.2.2.2.2.2.2.2.2.2.1, T.2.2.2.2.2.2.2.2.2.2.2.2.2.1, T.2.2.2.2.2.2.2.2.2.2.2.2.2.2.1, T.2.2.2.2.2.2.2.2.2.2.2.2.2.2.2.1, T.2.2.2.2.2.2.2.2.2.2.2.2.2.2.2.2)) H := hP
  replace hD : va_D A (modW g a (0, T.2.1, T.2.2.1, T.2.2.2.1, T.2.2.2.2.1, T.2.2.2.2.2.1, T.2.2.2.2.2.2.1, T.2.2.2.2.2.2.2.1, T.2.2.2.2.2.2.2.2.1, T.2.2.2.2.2.2.2.2.2.1, T.2.2.2.2.2.2.2.2.2.2.1, T.2.2.2.2.2.2.2.2.2.2.2.1, T.2.2.2.2.2.2.2.2.2.2.2.2.1, T.2.2.2.2.2.2.2.2.2.2.2.2.2.1, T.2.2.2.2.2.2.2.2.2.2.2.2.2.2.1, T.2.2.2.2.2.2.2.2.2.2.2.2.2.2.2.1, T.2.2.2.2.2.2.2.2.2.2.2.2.2.2.2.2)) := pq_adr hD (ad_X7 _ _)
  refine lv_aload_n hx hb dX7_leafCount_5 rfl (lv_at hl 0 rfl) ?_
  obtain ⟨q2, e1, hf⟩ := pq_bind hf
  refine pq_cV S (c_X7_leaves l g a (0, T.2.1, T.2.2.1, T.2.2.2.1, T.2.2.2.2.1, T.2.2.2.2.2.1, T.2.2.2.2.2.2.1, T.2.2.2.2.2.2.2.1, T.2.2.2.2.2.2.2.2.1, T.2.2.2.2.2.2.2.2.2.1, T.2.2.2.2.2.2.2.2.2.2.1, T.2.2.2.2.2.2.2.2.2.2.2.1, T.2.2.2.2.2.2.2.2.2.2.2.2.1, T.2.2.2.2.2.2.2.2.2.2.2.2.2.1, T.2.2.2.2.2.2.2.2.2.2.2.2.2.2.1, T.2.2.2.2.2.2.2.2.2.2.2.2.2.2.2.1, T.2.2.2.2.2.2.2.2.2.2.2.2.2.2.2.2) q2 e1) vv_X7_183 hK hP rfl rfl rfl rfl rfl hl.1 (Nat.le_of_ble_eq_true rfl) dX7_leafCount_6 (by decide) (by decide) ⟨Nat.le_refl _, Nat.le_refl _⟩ ?_
  obtain ⟨h8, h9⟩ := pq_pair hf
  exact hend _ _ _ _ _ dX7_leafCount_9 rfl h8 (by rw [← h9]; exact hP) hS
def f_X7_common (T : ModS) (p1 : Int32) (p2 : Int32) : Option (Int32) :=
    if p2 ≤ p1 then
      (f_X7_top T p2 p1).bind fun q3 =>
      some q3
    else
      (f_X7_top T p1 p2).bind fun q5 =>
      some q5
set_option maxHeartbeats 4000000 in
set_option maxRecDepth 100000 in
theorem c_X7_common (l : Launch) (g : pq_g) (a : Nat → Nat) (T : ModS) (p1 : Int32) (p2 : Int32) (r : Int32) (hf : f_X7_common T p1 p2 = some r) : pq_R l yX7_common cX7_common 3 .int 4 g (modW g a T) [.ref (a 0), .int p1, .int p2] r := by
  rw [f_X7_common] at hf
  refine pq_R.of (own := RX7) (by decide) rfl (Nat.le_of_ble_eq_true rfl) rfl ?_
  intro p e s m below meth c ls Q S hP hK hl hend
  obtain ⟨hx, hb, hml, hown, hts⟩ := id S
  refine lv_iload_n hx hb dX7_common_0 rfl (lv_at hl 1 rfl) ?_
  refine lv_iload_n hx hb dX7_common_1 rfl (lv_at hl 2 rfl) ?_
  refine lv_icmp_ge (tgt := 14) hx hb dX7_common_2 (by decide) (fun h1 => ?_) (fun h1 => ?_)
  · replace hf := pq_ifp h1 hf
    refine lv_aload_n hx hb dX7_common_14 rfl (lv_at hl 0 rfl) ?_
    refine lv_iload_n hx hb dX7_common_15 rfl (lv_at hl 2 rfl) ?_
    refine lv_iload_n hx hb dX7_common_16 rfl (lv_at hl 1 rfl) ?_
    obtain ⟨q3, e2, hf⟩ := pq_bind hf
    refine pq_cV S (c_X7_top l g a T p2 p1 q3 e2) vv_X7_168 hK hP rfl rfl rfl rfl rfl hl.1 (Nat.le_of_ble_eq_true rfl) dX7_common_17 (by decide) (by decide) ⟨Nat.le_refl _, Nat.le_refl _⟩ ?_
    exact hend _ _ _ dX7_common_20 rfl hf
  · replace hf := pq_ifn h1 hf
    refine lv_aload_n hx hb dX7_common_5 rfl (lv_at hl 0 rfl) ?_
    refine lv_iload_n hx hb dX7_common_6 rfl (lv_at hl 1 rfl) ?_
    refine lv_iload_n hx hb dX7_common_7 rfl (lv_at hl 2 rfl) ?_
    obtain ⟨q5, e4, hf⟩ := pq_bind hf
    refine pq_cV S (c_X7_top l g a T p1 p2 q5 e4) vv_X7_168 hK hP rfl rfl rfl rfl rfl hl.1 (Nat.le_of_ble_eq_true rfl) dX7_common_8 (by decide) (by decide) ⟨Nat.le_refl _, Nat.le_refl _⟩ ?_
    refine lv_goto (tgt := 20) hx hb dX7_common_11 (by decide) ?_
    exact hend _ _ _ dX7_common_20 rfl hf
def f_X7_commonAncestor (T : ModS) (p1 : Int32) (p2 : Int32) : Option (Int32 × (ModS)) :=
    (f_X7_find T p1).bind fun q2 =>
    (f_X7_find T p2).bind fun q4 =>
    if q2 < 0 then
      (f_X7_isFine T 0).bind fun q7 =>
      if q7.1 = 0 then
        some (0, q7.2)
      else
        (f_X7_common q7.2 q2 q4).bind fun q10 =>
        (f_X7_key q7.2 q10).bind fun q12 =>
        some (q12, q7.2)
    else
      if q4 < 0 then
        (f_X7_isFine T 0).bind fun q15 =>
        if q15.1 = 0 then
          some (0, q15.2)
        else
          (f_X7_common q15.2 q2 q4).bind fun q18 =>
          (f_X7_key q15.2 q18).bind fun q20 =>
          some (q20, q15.2)
      else
        (f_X7_isFine T 1).bind fun q22 =>
        if q22.1 = 0 then
          some (0, q22.2)
        else
          (f_X7_common q22.2 q2 q4).bind fun q25 =>
          (f_X7_key q22.2 q25).bind fun q27 =>
          some (q27, q22.2)
set_option maxHeartbeats 4000000 in
set_option maxRecDepth 100000 in
theorem c_X7_commonAncestor (l : Launch) (g : pq_g) (a : Nat → Nat) (T : ModS) (p1 : Int32) (p2 : Int32) (r : Int32) (T1 : ModS) (hf : f_X7_commonAncestor T p1 p2 = some (r, T1)) : pq_Mi l yX7_commonAncestor cX7_commonAncestor 5 .int 5 g (modW g a T) [.ref (a 0), .int p1, .int p2] r (modW g a T1) := by
  rw [f_X7_commonAncestor] at hf
  refine pq_Mi.of (own := RX7) (by decide) rfl (Nat.le_of_ble_eq_true rfl) rfl ?_
  intro p e s m below meth c ls Q A S hP hK hD hS hA hl hend
  obtain ⟨hx, hb, hml, hown, hts⟩ := id S
  refine lv_aload_n hx hb dX7_commonAncestor_0 rfl (lv_at hl 0 rfl) ?_
  refine lv_iload_n hx hb dX7_commonAncestor_1 rfl (lv_at hl 1 rfl) ?_
  obtain ⟨q2, e1, hf⟩ := pq_bind hf
  refine pq_cV S (c_X7_find l g a T p1 q2 e1) vv_X7_112 hK hP rfl rfl rfl rfl rfl hl.1 (Nat.le_of_ble_eq_true rfl) dX7_commonAncestor_2 (by decide) (by decide) ⟨Nat.le_refl _, Nat.le_refl _⟩ ?_
  refine lv_istore_n (lv' := [(3, .int q2), (0, .ref (a 0)), (1, .int p1), (2, .int p2)]) hx hb dX7_commonAncestor_5 rfl hl (by decide) rfl (fun ls hl => ?_)
  refine lv_aload_n hx hb dX7_commonAncestor_6 rfl (lv_at hl 1 rfl) ?_
  refine lv_iload_n hx hb dX7_commonAncestor_7 rfl (lv_at hl 3 rfl) ?_
  obtain ⟨q4, e3, hf⟩ := pq_bind hf
  refine pq_cV S (c_X7_find l g a T p2 q4 e3) vv_X7_112 hK hP rfl rfl rfl rfl rfl hl.1 (Nat.le_of_ble_eq_true rfl) dX7_commonAncestor_8 (by decide) (by decide) ⟨Nat.le_refl _, Nat.le_refl _⟩ ?_
  refine lv_istore (lv' := [(4, .int q4), (3, .int q2), (0, .ref (a 0)), (1, .int p1), (2, .int p2)]) hx hb dX7_commonAncestor_11 hl (by decide) rfl (fun ls hl => ?_)
  refine lv_aload_n hx hb dX7_commonAncestor_13 rfl (lv_at hl 2 rfl) ?_
  refine lv_iload_n hx hb dX7_commonAncestor_14 rfl (lv_at hl 1 rfl) ?_
  refine lv_if_lt (tgt := 27) hx hb dX7_commonAncestor_15 (by decide) (fun h5 => ?_) (fun h5 => ?_)
  · replace hf := pq_ifp h5 hf
    refine lv_iconst (v := 0) hx hb dX7_commonAncestor_27 (by decide) ?_
    obtain ⟨q7, e6, hf⟩ := pq_bind hf
    refine pq_cVi S (c_X7_isFine l g a T 0 q7.1 q7.2 e6) vv_X7_53 hK hP hD hS hA rfl rfl rfl rfl rfl hl.1 (Nat.le_of_ble_eq_true rfl) dX7_commonAncestor_28 (by decide) (by decide) ⟨Nat.le_refl _, Nat.le_refl _⟩ (fun H9 locs hk hP1 hS => ?_)
    replace hP := hP1
    replace hP : va_P g.1 pq_cl (modW g a q7.2) H9 := hP
    replace hD : va_D A (modW g a q7.2) := pq_adr hD (ad_X7 _ _)
    clear hk
    generalize H9 = H at hP hS ⊢
    refine lv_if_eq (tgt := 48) hx hb dX7_commonAncestor_31 (by decide) (fun h8 => ?_) (fun h8 => ?_)
    · replace hf := pq_ifp h8 hf
      refine lv_iconst (v := 0) hx hb dX7_commonAncestor_48 (by decide) ?_
      obtain ⟨h8, h9⟩ := pq_pair hf
      exact hend _ _ _ _ _ dX7_commonAncestor_49 rfl h8 (by rw [← h9]; exact hP) hS
    · replace hf := pq_ifn h8 hf
      refine lv_aload_n hx hb dX7_commonAncestor_34 rfl (lv_at hl 2 rfl) ?_
      refine lv_aload_n hx hb dX7_commonAncestor_35 rfl (lv_at hl 2 rfl) ?_
      refine lv_iload_n hx hb dX7_commonAncestor_36 rfl (lv_at hl 1 rfl) ?_
      refine lv_iload hx hb dX7_commonAncestor_37 (lv_at hl 0 rfl) ?_
      obtain ⟨q10, e9, hf⟩ := pq_bind hf
      refine pq_cV S (c_X7_common l g a q7.2 q2 q4 q10 e9) vv_X7_186 hK hP rfl rfl rfl rfl rfl hl.1 (Nat.le_of_ble_eq_true rfl) dX7_commonAncestor_39 (by decide) (by decide) ⟨Nat.le_refl _, Nat.le_refl _⟩ ?_
      obtain ⟨q12, e11, hf⟩ := pq_bind hf
      refine pq_cV S (c_X7_key l g a q7.2 q10 q12 e11) vv_X7_57 hK hP rfl rfl rfl rfl rfl hl.1 (Nat.le_of_ble_eq_true rfl) dX7_commonAncestor_42 (by decide) (by decide) ⟨Nat.le_refl _, Nat.le_refl _⟩ ?_
      refine lv_goto (tgt := 49) hx hb dX7_commonAncestor_45 (by decide) ?_
      obtain ⟨h8, h9⟩ := pq_pair hf
      exact hend _ _ _ _ _ dX7_commonAncestor_49 rfl h8 (by rw [← h9]; exact hP) hS
  · replace hf := pq_ifn h5 hf
    refine lv_iload hx hb dX7_commonAncestor_18 (lv_at hl 0 rfl) ?_
    refine lv_if_lt (tgt := 27) hx hb dX7_commonAncestor_20 (by decide) (fun h13 => ?_) (fun h13 => ?_)
    · replace hf := pq_ifp h13 hf
      refine lv_iconst (v := 0) hx hb dX7_commonAncestor_27 (by decide) ?_
      obtain ⟨q15, e14, hf⟩ := pq_bind hf
      refine pq_cVi S (c_X7_isFine l g a T 0 q15.1 q15.2 e14) vv_X7_53 hK hP hD hS hA rfl rfl rfl rfl rfl hl.1 (Nat.le_of_ble_eq_true rfl) dX7_commonAncestor_28 (by decide) (by decide) ⟨Nat.le_refl _, Nat.le_refl _⟩ (fun H9 locs hk hP1 hS => ?_)
      replace hP := hP1
      replace hP : va_P g.1 pq_cl (modW g a q15.2) H9 := hP
      replace hD : va_D A (modW g a q15.2) := pq_adr hD (ad_X7 _ _)
      clear hk
      generalize H9 = H at hP hS ⊢
      refine lv_if_eq (tgt := 48) hx hb dX7_commonAncestor_31 (by decide) (fun h16 => ?_) (fun h16 => ?_)
      · replace hf := pq_ifp h16 hf
        refine lv_iconst (v := 0) hx hb dX7_commonAncestor_48 (by decide) ?_
        obtain ⟨h8, h9⟩ := pq_pair hf
        exact hend _ _ _ _ _ dX7_commonAncestor_49 rfl h8 (by rw [← h9]; exact hP) hS
      · replace hf := pq_ifn h16 hf
        refine lv_aload_n hx hb dX7_commonAncestor_34 rfl (lv_at hl 2 rfl) ?_
        refine lv_aload_n hx hb dX7_commonAncestor_35 rfl (lv_at hl 2 rfl) ?_
        refine lv_iload_n hx hb dX7_commonAncestor_36 rfl (lv_at hl 1 rfl) ?_
        refine lv_iload hx hb dX7_commonAncestor_37 (lv_at hl 0 rfl) ?_
        obtain ⟨q18, e17, hf⟩ := pq_bind hf
        refine pq_cV S (c_X7_common l g a q15.2 q2 q4 q18 e17) vv_X7_186 hK hP rfl rfl rfl rfl rfl hl.1 (Nat.le_of_ble_eq_true rfl) dX7_commonAncestor_39 (by decide) (by decide) ⟨Nat.le_refl _, Nat.le_refl _⟩ ?_
        obtain ⟨q20, e19, hf⟩ := pq_bind hf
        refine pq_cV S (c_X7_key l g a q15.2 q18 q20 e19) vv_X7_57 hK hP rfl rfl rfl rfl rfl hl.1 (Nat.le_of_ble_eq_true rfl) dX7_commonAncestor_42 (by decide) (by decide) ⟨Nat.le_refl _, Nat.le_refl _⟩ ?_
        refine lv_goto (tgt := 49) hx hb dX7_commonAncestor_45 (by decide) ?_
        obtain ⟨h8, h9⟩ := pq_pair hf
        exact hend _ _ _ _ _ dX7_commonAncestor_49 rfl h8 (by rw [← h9]; exact hP) hS
    · replace hf := pq_ifn h13 hf
      refine lv_iconst (v := 1) hx hb dX7_commonAncestor_23 (by decide) ?_
      refine lv_goto (tgt := 28) hx hb dX7_commonAncestor_24 (by decide) ?_
      obtain ⟨q22, e21, hf⟩ := pq_bind hf
      refine pq_cVi S (c_X7_isFine l g a T 1 q22.1 q22.2 e21) vv_X7_53 hK hP hD hS hA rfl rfl rfl rfl rfl hl.1 (Nat.le_of_ble_eq_true rfl) dX7_commonAncestor_28 (by decide) (by decide) ⟨Nat.le_refl _, Nat.le_refl _⟩ (fun H9 locs hk hP1 hS => ?_)
      replace hP := hP1
      replace hP : va_P g.1 pq_cl (modW g a q22.2) H9 := hP
      replace hD : va_D A (modW g a q22.2) := pq_adr hD (ad_X7 _ _)
      clear hk
      generalize H9 = H at hP hS ⊢
      refine lv_if_eq (tgt := 48) hx hb dX7_commonAncestor_31 (by decide) (fun h23 => ?_) (fun h23 => ?_)
      · replace hf := pq_ifp h23 hf
        refine lv_iconst (v := 0) hx hb dX7_commonAncestor_48 (by decide) ?_
        obtain ⟨h8, h9⟩ := pq_pair hf
        exact hend _ _ _ _ _ dX7_commonAncestor_49 rfl h8 (by rw [← h9]; exact hP) hS
      · replace hf := pq_ifn h23 hf
        refine lv_aload_n hx hb dX7_commonAncestor_34 rfl (lv_at hl 2 rfl) ?_
        refine lv_aload_n hx hb dX7_commonAncestor_35 rfl (lv_at hl 2 rfl) ?_
        refine lv_iload_n hx hb dX7_commonAncestor_36 rfl (lv_at hl 1 rfl) ?_
        refine lv_iload hx hb dX7_commonAncestor_37 (lv_at hl 0 rfl) ?_
        obtain ⟨q25, e24, hf⟩ := pq_bind hf
        refine pq_cV S (c_X7_common l g a q22.2 q2 q4 q25 e24) vv_X7_186 hK hP rfl rfl rfl rfl rfl hl.1 (Nat.le_of_ble_eq_true rfl) dX7_commonAncestor_39 (by decide) (by decide) ⟨Nat.le_refl _, Nat.le_refl _⟩ ?_
        obtain ⟨q27, e26, hf⟩ := pq_bind hf
        refine pq_cV S (c_X7_key l g a q22.2 q25 q27 e26) vv_X7_57 hK hP rfl rfl rfl rfl rfl hl.1 (Nat.le_of_ble_eq_true rfl) dX7_commonAncestor_42 (by decide) (by decide) ⟨Nat.le_refl _, Nat.le_refl _⟩ ?_
        refine lv_goto (tgt := 49) hx hb dX7_commonAncestor_45 (by decide) ?_
        obtain ⟨h8, h9⟩ := pq_pair hf
        exact hend _ _ _ _ _ dX7_commonAncestor_49 rfl h8 (by rw [← h9]; exact hP) hS
def f_X7_distance (T : ModS) (p1 : Int32) (p2 : Int32) : Option (Int32 × (ModS)) :=
    (f_X7_find T p1).bind fun q2 =>
    (f_X7_find T p2).bind fun q4 =>
    if q2 < 0 then
      (f_X7_isFine T 0).bind fun q7 =>
      if q7.1 = 0 then
        some (0, q7.2)
      else
        (f_X7_depth q7.2 q2).bind fun q10 =>
        (f_X7_depth q7.2 q4).bind fun q12 =>
        (f_X7_common q7.2 q2 q4).bind fun q14 =>
        (f_X7_depth q7.2 q14).bind fun q16 =>
        some (((q10 + q12) - (2 * q16)), q7.2)
    else
      if q4 < 0 then
        (f_X7_isFine T 0).bind fun q19 =>
        if q19.1 = 0 then
          some (0, q19.2)
        else
          (f_X7_depth q19.2 q2).bind fun q22 =>
          (f_X7_depth q19.2 q4).bind fun q24 =>
          (f_X7_common q19.2 q2 q4).bind fun q26 =>
          (f_X7_depth q19.2 q26).bind fun q28 =>
          some (((q22 + q24) - (2 * q28)), q19.2)
      else
        (f_X7_isFine T 1).bind fun q30 =>
        if q30.1 = 0 then
          some (0, q30.2)
        else
          (f_X7_depth q30.2 q2).bind fun q33 =>
          (f_X7_depth q30.2 q4).bind fun q35 =>
          (f_X7_common q30.2 q2 q4).bind fun q37 =>
          (f_X7_depth q30.2 q37).bind fun q39 =>
          some (((q33 + q35) - (2 * q39)), q30.2)
set_option maxHeartbeats 4000000 in
set_option maxRecDepth 100000 in
theorem c_X7_distance (l : Launch) (g : pq_g) (a : Nat → Nat) (T : ModS) (p1 : Int32) (p2 : Int32) (r : Int32) (T1 : ModS) (hf : f_X7_distance T p1 p2 = some (r, T1)) : pq_Mi l yX7_distance cX7_distance 5 .int 5 g (modW g a T) [.ref (a 0), .int p1, .int p2] r (modW g a T1) := by
  rw [f_X7_distance] at hf
  refine pq_Mi.of (own := RX7) (by decide) rfl (Nat.le_of_ble_eq_true rfl) rfl ?_
  intro p e s m below meth c ls Q A S hP hK hD hS hA hl hend
  obtain ⟨hx, hb, hml, hown, hts⟩ := id S
  refine lv_aload_n hx hb dX7_distance_0 rfl (lv_at hl 0 rfl) ?_
  refine lv_iload_n hx hb dX7_distance_1 rfl (lv_at hl 1 rfl) ?_
  obtain ⟨q2, e1, hf⟩ := pq_bind hf
  refine pq_cV S (c_X7_find l g a T p1 q2 e1) vv_X7_112 hK hP rfl rfl rfl rfl rfl hl.1 (Nat.le_of_ble_eq_true rfl) dX7_distance_2 (by decide) (by decide) ⟨Nat.le_refl _, Nat.le_refl _⟩ ?_
  refine lv_istore_n (lv' := [(3, .int q2), (0, .ref (a 0)), (1, .int p1), (2, .int p2)]) hx hb dX7_distance_5 rfl hl (by decide) rfl (fun ls hl => ?_)
  refine lv_aload_n hx hb dX7_distance_6 rfl (lv_at hl 1 rfl) ?_
  refine lv_iload_n hx hb dX7_distance_7 rfl (lv_at hl 3 rfl) ?_
  obtain ⟨q4, e3, hf⟩ := pq_bind hf
  refine pq_cV S (c_X7_find l g a T p2 q4 e3) vv_X7_112 hK hP rfl rfl rfl rfl rfl hl.1 (Nat.le_of_ble_eq_true rfl) dX7_distance_8 (by decide) (by decide) ⟨Nat.le_refl _, Nat.le_refl _⟩ ?_
  refine lv_istore (lv' := [(4, .int q4), (3, .int q2), (0, .ref (a 0)), (1, .int p1), (2, .int p2)]) hx hb dX7_distance_11 hl (by decide) rfl (fun ls hl => ?_)
  refine lv_aload_n hx hb dX7_distance_13 rfl (lv_at hl 2 rfl) ?_
  refine lv_iload_n hx hb dX7_distance_14 rfl (lv_at hl 1 rfl) ?_
  refine lv_if_lt (tgt := 27) hx hb dX7_distance_15 (by decide) (fun h5 => ?_) (fun h5 => ?_)
  · replace hf := pq_ifp h5 hf
    refine lv_iconst (v := 0) hx hb dX7_distance_27 (by decide) ?_
    obtain ⟨q7, e6, hf⟩ := pq_bind hf
    refine pq_cVi S (c_X7_isFine l g a T 0 q7.1 q7.2 e6) vv_X7_53 hK hP hD hS hA rfl rfl rfl rfl rfl hl.1 (Nat.le_of_ble_eq_true rfl) dX7_distance_28 (by decide) (by decide) ⟨Nat.le_refl _, Nat.le_refl _⟩ (fun H9 locs hk hP1 hS => ?_)
    replace hP := hP1
    replace hP : va_P g.1 pq_cl (modW g a q7.2) H9 := hP
    replace hD : va_D A (modW g a q7.2) := pq_adr hD (ad_X7 _ _)
    clear hk
    generalize H9 = H at hP hS ⊢
    refine lv_if_eq (tgt := 63) hx hb dX7_distance_31 (by decide) (fun h8 => ?_) (fun h8 => ?_)
    · replace hf := pq_ifp h8 hf
      refine lv_iconst (v := 0) hx hb dX7_distance_63 (by decide) ?_
      obtain ⟨h8, h9⟩ := pq_pair hf
      exact hend _ _ _ _ _ dX7_distance_64 rfl h8 (by rw [← h9]; exact hP) hS
    · replace hf := pq_ifn h8 hf
      refine lv_aload_n hx hb dX7_distance_34 rfl (lv_at hl 2 rfl) ?_
      refine lv_iload_n hx hb dX7_distance_35 rfl (lv_at hl 1 rfl) ?_
      obtain ⟨q10, e9, hf⟩ := pq_bind hf
      refine pq_cV S (c_X7_depth l g a q7.2 q2 q10 e9) vv_X7_83 hK hP rfl rfl rfl rfl rfl hl.1 (Nat.le_of_ble_eq_true rfl) dX7_distance_36 (by decide) (by decide) ⟨Nat.le_refl _, Nat.le_refl _⟩ ?_
      refine lv_aload_n hx hb dX7_distance_39 rfl (lv_at hl 2 rfl) ?_
      refine lv_iload hx hb dX7_distance_40 (lv_at hl 0 rfl) ?_
      obtain ⟨q12, e11, hf⟩ := pq_bind hf
      refine pq_cV S (c_X7_depth l g a q7.2 q4 q12 e11) vv_X7_83 hK hP rfl rfl rfl rfl rfl hl.1 (Nat.le_of_ble_eq_true rfl) dX7_distance_42 (by decide) (by decide) ⟨Nat.le_refl _, Nat.le_refl _⟩ ?_
      refine lv_iadd hx hb dX7_distance_45 ?_
      refine lv_iconst (v := 2) hx hb dX7_distance_46 (by decide) ?_
      refine lv_aload_n hx hb dX7_distance_47 rfl (lv_at hl 2 rfl) ?_
      refine lv_aload_n hx hb dX7_distance_48 rfl (lv_at hl 2 rfl) ?_
      refine lv_iload_n hx hb dX7_distance_49 rfl (lv_at hl 1 rfl) ?_
      refine lv_iload hx hb dX7_distance_50 (lv_at hl 0 rfl) ?_
      obtain ⟨q14, e13, hf⟩ := pq_bind hf
      refine pq_cV S (c_X7_common l g a q7.2 q2 q4 q14 e13) vv_X7_186 hK hP rfl rfl rfl rfl rfl hl.1 (Nat.le_of_ble_eq_true rfl) dX7_distance_52 (by decide) (by decide) ⟨Nat.le_refl _, Nat.le_refl _⟩ ?_
      obtain ⟨q16, e15, hf⟩ := pq_bind hf
      refine pq_cV S (c_X7_depth l g a q7.2 q14 q16 e15) vv_X7_83 hK hP rfl rfl rfl rfl rfl hl.1 (Nat.le_of_ble_eq_true rfl) dX7_distance_55 (by decide) (by decide) ⟨Nat.le_refl _, Nat.le_refl _⟩ ?_
      refine lv_imul hx hb dX7_distance_58 ?_
      refine lv_isub hx hb dX7_distance_59 ?_
      refine lv_goto (tgt := 64) hx hb dX7_distance_60 (by decide) ?_
      obtain ⟨h8, h9⟩ := pq_pair hf
      exact hend _ _ _ _ _ dX7_distance_64 rfl h8 (by rw [← h9]; exact hP) hS
  · replace hf := pq_ifn h5 hf
    refine lv_iload hx hb dX7_distance_18 (lv_at hl 0 rfl) ?_
    refine lv_if_lt (tgt := 27) hx hb dX7_distance_20 (by decide) (fun h17 => ?_) (fun h17 => ?_)
    · replace hf := pq_ifp h17 hf
      refine lv_iconst (v := 0) hx hb dX7_distance_27 (by decide) ?_
      obtain ⟨q19, e18, hf⟩ := pq_bind hf
      refine pq_cVi S (c_X7_isFine l g a T 0 q19.1 q19.2 e18) vv_X7_53 hK hP hD hS hA rfl rfl rfl rfl rfl hl.1 (Nat.le_of_ble_eq_true rfl) dX7_distance_28 (by decide) (by decide) ⟨Nat.le_refl _, Nat.le_refl _⟩ (fun H9 locs hk hP1 hS => ?_)
      replace hP := hP1
      replace hP : va_P g.1 pq_cl (modW g a q19.2) H9 := hP
      replace hD : va_D A (modW g a q19.2) := pq_adr hD (ad_X7 _ _)
      clear hk
      generalize H9 = H at hP hS ⊢
      refine lv_if_eq (tgt := 63) hx hb dX7_distance_31 (by decide) (fun h20 => ?_) (fun h20 => ?_)
      · replace hf := pq_ifp h20 hf
        refine lv_iconst (v := 0) hx hb dX7_distance_63 (by decide) ?_
        obtain ⟨h8, h9⟩ := pq_pair hf
        exact hend _ _ _ _ _ dX7_distance_64 rfl h8 (by rw [← h9]; exact hP) hS
      · replace hf := pq_ifn h20 hf
        refine lv_aload_n hx hb dX7_distance_34 rfl (lv_at hl 2 rfl) ?_
        refine lv_iload_n hx hb dX7_distance_35 rfl (lv_at hl 1 rfl) ?_
        obtain ⟨q22, e21, hf⟩ := pq_bind hf
        refine pq_cV S (c_X7_depth l g a q19.2 q2 q22 e21) vv_X7_83 hK hP rfl rfl rfl rfl rfl hl.1 (Nat.le_of_ble_eq_true rfl) dX7_distance_36 (by decide) (by decide) ⟨Nat.le_refl _, Nat.le_refl _⟩ ?_
        refine lv_aload_n hx hb dX7_distance_39 rfl (lv_at hl 2 rfl) ?_
        refine lv_iload hx hb dX7_distance_40 (lv_at hl 0 rfl) ?_
        obtain ⟨q24, e23, hf⟩ := pq_bind hf
        refine pq_cV S (c_X7_depth l g a q19.2 q4 q24 e23) vv_X7_83 hK hP rfl rfl rfl rfl rfl hl.1 (Nat.le_of_ble_eq_true rfl) dX7_distance_42 (by decide) (by decide) ⟨Nat.le_refl _, Nat.le_refl _⟩ ?_
        refine lv_iadd hx hb dX7_distance_45 ?_
        refine lv_iconst (v := 2) hx hb dX7_distance_46 (by decide) ?_
        refine lv_aload_n hx hb dX7_distance_47 rfl (lv_at hl 2 rfl) ?_
        refine lv_aload_n hx hb dX7_distance_48 rfl (lv_at hl 2 rfl) ?_
        refine lv_iload_n hx hb dX7_distance_49 rfl (lv_at hl 1 rfl) ?_
        refine lv_iload hx hb dX7_distance_50 (lv_at hl 0 rfl) ?_
        obtain ⟨q26, e25, hf⟩ := pq_bind hf
        refine pq_cV S (c_X7_common l g a q19.2 q2 q4 q26 e25) vv_X7_186 hK hP rfl rfl rfl rfl rfl hl.1 (Nat.le_of_ble_eq_true rfl) dX7_distance_52 (by decide) (by decide) ⟨Nat.le_refl _, Nat.le_refl _⟩ ?_
        obtain ⟨q28, e27, hf⟩ := pq_bind hf
        refine pq_cV S (c_X7_depth l g a q19.2 q26 q28 e27) vv_X7_83 hK hP rfl rfl rfl rfl rfl hl.1 (Nat.le_of_ble_eq_true rfl) dX7_distance_55 (by decide) (by decide) ⟨Nat.le_refl _, Nat.le_refl _⟩ ?_
        refine lv_imul hx hb dX7_distance_58 ?_
        refine lv_isub hx hb dX7_distance_59 ?_
        refine lv_goto (tgt := 64) hx hb dX7_distance_60 (by decide) ?_
        obtain ⟨h8, h9⟩ := pq_pair hf
        exact hend _ _ _ _ _ dX7_distance_64 rfl h8 (by rw [← h9]; exact hP) hS
    · replace hf := pq_ifn h17 hf
      refine lv_iconst (v := 1) hx hb dX7_distance_23 (by decide) ?_
      refine lv_goto (tgt := 28) hx hb dX7_distance_24 (by decide) ?_
      obtain ⟨q30, e29, hf⟩ := pq_bind hf
      refine pq_cVi S (c_X7_isFine l g a T 1 q30.1 q30.2 e29) vv_X7_53 hK hP hD hS hA rfl rfl rfl rfl rfl hl.1 (Nat.le_of_ble_eq_true rfl) dX7_distance_28 (by decide) (by decide) ⟨Nat.le_refl _, Nat.le_refl _⟩ (fun H9 locs hk hP1 hS => ?_)
      replace hP := hP1
      replace hP : va_P g.1 pq_cl (modW g a q30.2) H9 := hP
      replace hD : va_D A (modW g a q30.2) := pq_adr hD (ad_X7 _ _)
      clear hk
      generalize H9 = H at hP hS ⊢
      refine lv_if_eq (tgt := 63) hx hb dX7_distance_31 (by decide) (fun h31 => ?_) (fun h31 => ?_)
      · replace hf := pq_ifp h31 hf
        refine lv_iconst (v := 0) hx hb dX7_distance_63 (by decide) ?_
        obtain ⟨h8, h9⟩ := pq_pair hf
        exact hend _ _ _ _ _ dX7_distance_64 rfl h8 (by rw [← h9]; exact hP) hS
      · replace hf := pq_ifn h31 hf
        refine lv_aload_n hx hb dX7_distance_34 rfl (lv_at hl 2 rfl) ?_
        refine lv_iload_n hx hb dX7_distance_35 rfl (lv_at hl 1 rfl) ?_
        obtain ⟨q33, e32, hf⟩ := pq_bind hf
        refine pq_cV S (c_X7_depth l g a q30.2 q2 q33 e32) vv_X7_83 hK hP rfl rfl rfl rfl rfl hl.1 (Nat.le_of_ble_eq_true rfl) dX7_distance_36 (by decide) (by decide) ⟨Nat.le_refl _, Nat.le_refl _⟩ ?_
        refine lv_aload_n hx hb dX7_distance_39 rfl (lv_at hl 2 rfl) ?_
        refine lv_iload hx hb dX7_distance_40 (lv_at hl 0 rfl) ?_
        obtain ⟨q35, e34, hf⟩ := pq_bind hf
        refine pq_cV S (c_X7_depth l g a q30.2 q4 q35 e34) vv_X7_83 hK hP rfl rfl rfl rfl rfl hl.1 (Nat.le_of_ble_eq_true rfl) dX7_distance_42 (by decide) (by decide) ⟨Nat.le_refl _, Nat.le_refl _⟩ ?_
        refine lv_iadd hx hb dX7_distance_45 ?_
        refine lv_iconst (v := 2) hx hb dX7_distance_46 (by decide) ?_
        refine lv_aload_n hx hb dX7_distance_47 rfl (lv_at hl 2 rfl) ?_
        refine lv_aload_n hx hb dX7_distance_48 rfl (lv_at hl 2 rfl) ?_
        refine lv_iload_n hx hb dX7_distance_49 rfl (lv_at hl 1 rfl) ?_
        refine lv_iload hx hb dX7_distance_50 (lv_at hl 0 rfl) ?_
        obtain ⟨q37, e36, hf⟩ := pq_bind hf
        refine pq_cV S (c_X7_common l g a q30.2 q2 q4 q37 e36) vv_X7_186 hK hP rfl rfl rfl rfl rfl hl.1 (Nat.le_of_ble_eq_true rfl) dX7_distance_52 (by decide) (by decide) ⟨Nat.le_refl _, Nat.le_refl _⟩ ?_
        obtain ⟨q39, e38, hf⟩ := pq_bind hf
        refine pq_cV S (c_X7_depth l g a q30.2 q37 q39 e38) vv_X7_83 hK hP rfl rfl rfl rfl rfl hl.1 (Nat.le_of_ble_eq_true rfl) dX7_distance_55 (by decide) (by decide) ⟨Nat.le_refl _, Nat.le_refl _⟩ ?_
        refine lv_imul hx hb dX7_distance_58 ?_
        refine lv_isub hx hb dX7_distance_59 ?_
        refine lv_goto (tgt := 64) hx hb dX7_distance_60 (by decide) ?_
        obtain ⟨h8, h9⟩ := pq_pair hf
        exact hend _ _ _ _ _ dX7_distance_64 rfl h8 (by rw [← h9]; exact hP) hS
def f_X7_countInRange (T : ModS) (p1 : Int32) (p2 : Int32) : Option (Int32 × (ModS)) :=
    (f_X7_isRange p1 p2).bind fun q2 =>
    (f_X7_isFine T q2).bind fun q4 =>
    if q4.1 = 0 then
      some (0, q4.2)
    else
      (f_X7_below q4.2 (p2 + 1)).bind fun q7 =>
      (f_X7_below q4.2 p1).bind fun q9 =>
      some ((q7 - q9), q4.2)
set_option maxHeartbeats 4000000 in
set_option maxRecDepth 100000 in
theorem c_X7_countInRange (l : Launch) (g : pq_g) (a : Nat → Nat) (T : ModS) (p1 : Int32) (p2 : Int32) (r : Int32) (T1 : ModS) (hf : f_X7_countInRange T p1 p2 = some (r, T1)) : pq_Mi l yX7_countInRange cX7_countInRange 3 .int 4 g (modW g a T) [.ref (a 0), .int p1, .int p2] r (modW g a T1) := by
  rw [f_X7_countInRange] at hf
  refine pq_Mi.of (own := RX7) (by decide) rfl (Nat.le_of_ble_eq_true rfl) rfl ?_
  intro p e s m below meth c ls Q A S hP hK hD hS hA hl hend
  obtain ⟨hx, hb, hml, hown, hts⟩ := id S
  refine lv_aload_n hx hb dX7_countInRange_0 rfl (lv_at hl 0 rfl) ?_
  refine lv_iload_n hx hb dX7_countInRange_1 rfl (lv_at hl 1 rfl) ?_
  refine lv_iload_n hx hb dX7_countInRange_2 rfl (lv_at hl 2 rfl) ?_
  obtain ⟨q2, e1, hf⟩ := pq_bind hf
  refine pq_cS S (c_X7_isRange l g p1 p2 q2 e1) vs_X7_143 hK (hP.sub [] rfl) rfl rfl hl.1 (Nat.le_of_ble_eq_true rfl) dX7_countInRange_3 (by decide) (by decide) ⟨Nat.le_refl _, Nat.le_refl _⟩ ?_
  obtain ⟨q4, e3, hf⟩ := pq_bind hf
  refine pq_cVi S (c_X7_isFine l g a T q2 q4.1 q4.2 e3) vv_X7_53 hK hP hD hS hA rfl rfl rfl rfl rfl hl.1 (Nat.le_of_ble_eq_true rfl) dX7_countInRange_6 (by decide) (by decide) ⟨Nat.le_refl _, Nat.le_refl _⟩ (fun H9 locs hk hP1 hS => ?_)
  replace hP := hP1
  replace hP : va_P g.1 pq_cl (modW g a q4.2) H9 := hP
  replace hD : va_D A (modW g a q4.2) := pq_adr hD (ad_X7 _ _)
  clear hk
  generalize H9 = H at hP hS ⊢
  refine lv_if_eq (tgt := 28) hx hb dX7_countInRange_9 (by decide) (fun h5 => ?_) (fun h5 => ?_)
  · replace hf := pq_ifp h5 hf
    refine lv_iconst (v := 0) hx hb dX7_countInRange_28 (by decide) ?_
    obtain ⟨h8, h9⟩ := pq_pair hf
    exact hend _ _ _ _ _ dX7_countInRange_29 rfl h8 (by rw [← h9]; exact hP) hS
  · replace hf := pq_ifn h5 hf
    refine lv_aload_n hx hb dX7_countInRange_12 rfl (lv_at hl 0 rfl) ?_
    refine lv_iload_n hx hb dX7_countInRange_13 rfl (lv_at hl 2 rfl) ?_
    refine lv_iconst (v := 1) hx hb dX7_countInRange_14 (by decide) ?_
    refine lv_iadd hx hb dX7_countInRange_15 ?_
    obtain ⟨q7, e6, hf⟩ := pq_bind hf
    refine pq_cV S (c_X7_below l g a q4.2 (p2 + 1) q7 e6) vv_X7_61 hK hP rfl rfl rfl rfl rfl hl.1 (Nat.le_of_ble_eq_true rfl) dX7_countInRange_16 (by decide) (by decide) ⟨Nat.le_refl _, Nat.le_refl _⟩ ?_
    refine lv_aload_n hx hb dX7_countInRange_19 rfl (lv_at hl 0 rfl) ?_
    refine lv_iload_n hx hb dX7_countInRange_20 rfl (lv_at hl 1 rfl) ?_
    obtain ⟨q9, e8, hf⟩ := pq_bind hf
    refine pq_cV S (c_X7_below l g a q4.2 p1 q9 e8) vv_X7_61 hK hP rfl rfl rfl rfl rfl hl.1 (Nat.le_of_ble_eq_true rfl) dX7_countInRange_21 (by decide) (by decide) ⟨Nat.le_refl _, Nat.le_refl _⟩ ?_
    refine lv_isub hx hb dX7_countInRange_24 ?_
    refine lv_goto (tgt := 29) hx hb dX7_countInRange_25 (by decide) ?_
    obtain ⟨h8, h9⟩ := pq_pair hf
    exact hend _ _ _ _ _ dX7_countInRange_29 rfl h8 (by rw [← h9]; exact hP) hS
def f_X7_countInRangeByScan (T : ModS) (p1 : Int32) (p2 : Int32) : Option (Int32 × (ModS)) :=
    (f_X7_countInRange T p1 p2).bind fun q2 =>
    some (q2.1, q2.2)
set_option maxHeartbeats 4000000 in
set_option maxRecDepth 100000 in
theorem c_X7_countInRangeByScan (l : Launch) (g : pq_g) (a : Nat → Nat) (T : ModS) (p1 : Int32) (p2 : Int32) (r : Int32) (T1 : ModS) (hf : f_X7_countInRangeByScan T p1 p2 = some (r, T1)) : pq_Mi l yX7_countInRangeByScan cX7_countInRangeByScan 3 .int 5 g (modW g a T) [.ref (a 0), .int p1, .int p2] r (modW g a T1) := by
  rw [f_X7_countInRangeByScan] at hf
  refine pq_Mi.of (own := RX7) (by decide) rfl (Nat.le_of_ble_eq_true rfl) rfl ?_
  intro p e s m below meth c ls Q A S hP hK hD hS hA hl hend
  obtain ⟨hx, hb, hml, hown, hts⟩ := id S
  refine lv_aload_n hx hb dX7_countInRangeByScan_0 rfl (lv_at hl 0 rfl) ?_
  refine lv_iload_n hx hb dX7_countInRangeByScan_1 rfl (lv_at hl 1 rfl) ?_
  refine lv_iload_n hx hb dX7_countInRangeByScan_2 rfl (lv_at hl 2 rfl) ?_
  obtain ⟨q2, e1, hf⟩ := pq_bind hf
  refine pq_cVi S (c_X7_countInRange l g a T p1 p2 q2.1 q2.2 e1) vv_X7_189 hK hP hD hS hA rfl rfl rfl rfl rfl hl.1 (Nat.le_of_ble_eq_true rfl) dX7_countInRangeByScan_3 (by decide) (by decide) ⟨Nat.le_refl _, Nat.le_refl _⟩ (fun H9 locs hk hP1 hS => ?_)
  replace hP := hP1
  replace hP : va_P g.1 pq_cl (modW g a q2.2) H9 := hP
  replace hD : va_D A (modW g a q2.2) := pq_adr hD (ad_X7 _ _)
  clear hk
  generalize H9 = H at hP hS ⊢
  obtain ⟨h8, h9⟩ := pq_pair hf
  exact hend _ _ _ _ _ dX7_countInRangeByScan_6 rfl h8 (by rw [← h9]; exact hP) hS
def f_X7_topInRange_c32 (T : ModS) (v3 : Int32) (s0 : Int32) : Option (Int32 × (ModS)) :=
    if v3 = 0 then
      some (0, (1, T.2.1, T.2.2.1, T.2.2.2.1, T.2.2.2.2.1, T.2.2.2.2.2.1, T.2.2.2.2.2.2.1, T.2.2.2.2.2.2.2.1, T.2.2.2.2.2.2.2.2.1, T.2.2.2.2.2.2.2.2.2.1, T.2.2.2.2.2.2.2.2.2.2.1, T.2.2.2.2.2.2.2.2.2.2.2.1, T.2.2.2.2.2.2.2.2.2.2.2.2.1, T.2.2.2.2.2.2.2.2.2.2.2.2.2.1, T.2.2.2.2.2.2.2.2.2.2.2.2.2.2.1, T.2.2.2.2.2.2.2.2.2.2.2.2.2.2.2.1, T.2.2.2.2.2.2.2.2.2.2.2.2.2.2.2.2))
    else
      if 0 ≤ s0 then
        (f_X7_key (0, T.2.1, T.2.2.1, T.2.2.2.1, T.2.2.2.2.1, T.2.2.2.2.2.1, T.2.2.2.2.2.2.1, T.2.2.2.2.2.2.2.1, T.2.2.2.2.2.2.2.2.1, T.2.2.2.2.2.2.2.2.2.1, T.2.2.2.2.2.2.2.2.2.2.1, T.2.2.2.2.2.2.2.2.2.2.2.1, T.2.2.2.2.2.2.2.2.2.2.2.2.1, T.2.2.2.2.2.2.2.2.2.2.2.2.2.1, T.2.2.2.2.2.2.2.2.2.2.2.2.2.2.1, T.2.2.2.2.2.2.2.2.2.2.2.2.2.2.2.1, T.2.2.2.2.2.2.2.2.2.2.2.2.2.2.2.2) s0).bind fun q4 =>
        some (q4, (0, T.2.1, T.2.2.1, T.2.2.2.1, T.2.2.2.2.1, T.2.2.2.2.2.1, T.2.2.2.2.2.2.1, T.2.2.2.2.2.2.2.1, T.2.2.2.2.2.2.2.2.1, T.2.2.2.2.2.2.2.2.2.1, T.2.2.2.2.2.2.2.2.2.2.1, T.2.2.2.2.2.2.2.2.2.2.2.1, T.2.2.2.2.2.2.2.2.2.2.2.2.1, T.2.2.2.2.2.2.2.2.2.2.2.2.2.1, T.2.2.2.2.2.2.2.2.2.2.2.2.2.2.1, T.2.2.2.2.2.2.2.2.2.2.2.2.2.2.2.1, T.2.2.2.2.2.2.2.2.2.2.2.2.2.2.2.2))
      else
        some (0, (2, T.2.1, T.2.2.1, T.2.2.2.1, T.2.2.2.2.1, T.2.2.2.2.2.1, T.2.2.2.2.2.2.1, T.2.2.2.2.2.2.2.1, T.2.2.2.2.2.2.2.2.1, T.2.2.2.2.2.2.2.2.2.1, T.2.2.2.2.2.2.2.2.2.2.1, T.2.2.2.2.2.2.2.2.2.2.2.1, T.2.2.2.2.2.2.2.2.2.2.2.2.1, T.2.2.2.2.2.2.2.2.2.2.2.2.2.1, T.2.2.2.2.2.2.2.2.2.2.2.2.2.2.1, T.2.2.2.2.2.2.2.2.2.2.2.2.2.2.2.1, T.2.2.2.2.2.2.2.2.2.2.2.2.2.2.2.2))
def f_X7_topInRange (T : ModS) (p1 : Int32) (p2 : Int32) : Option (Int32 × (ModS)) :=
    (f_X7_isRange p1 p2).bind fun q6 =>
    if q6 = 0 then
      f_X7_topInRange_c32 T q6 (-1)
    else
      (f_X7_below T p1).bind fun q9 =>
      (f_X7_below T (p2 + 1)).bind fun q11 =>
      (f_X7_top T q9 (q11 - 1)).bind fun q13 =>
      f_X7_topInRange_c32 T q6 q13
set_option maxHeartbeats 4000000 in
set_option maxRecDepth 100000 in
theorem c_X7_topInRange (l : Launch) (g : pq_g) (a : Nat → Nat) (T : ModS) (p1 : Int32) (p2 : Int32) (r : Int32) (T1 : ModS) (hf : f_X7_topInRange T p1 p2 = some (r, T1)) : pq_Mi l yX7_topInRange cX7_topInRange 5 .int 4 g (modW g a T) [.ref (a 0), .int p1, .int p2] r (modW g a T1) := by
  rw [f_X7_topInRange] at hf
  refine pq_Mi.of (own := RX7) (by decide) rfl (Nat.le_of_ble_eq_true rfl) rfl ?_
  intro p e s m below meth c ls Q A S hP hK hD hS hA hl hend
  obtain ⟨hx, hb, hml, hown, hts⟩ := id S
  have B32 : ∀ (T : ModS) (v3 : Int32) (s0 : Int32) (ls : Array Slot) (H : Heap) (locs : List Loc), va_P g.1 pq_cl (modW g a T) H → va_D A (modW g a T) → va_S A s.heap H locs → lv_has ls 5 [(0, .ref (a 0)), (3, .int v3)] → f_X7_topInRange_c32 T v3 s0 = some (r, T1) → W p l e (pq_rm 4 0 0) s m ([.ref (a 0), .int p1, .int p2] : List Value).toArray below meth c H locs 0 0 Q (F0 m 32 ls [.int s0]) := by
    intro T v3 s0 ls H locs hP hD hS hl hf
    rw [f_X7_topInRange_c32] at hf
    refine lv_istore (lv' := [(4, .int s0), (0, .ref (a 0)), (3, .int v3)]) hx hb dX7_topInRange_32 hl (by decide) rfl (fun ls hl => ?_)
    refine lv_aload_n hx hb dX7_topInRange_34 rfl (lv_at hl 1 rfl) ?_
    refine lv_iload_n hx hb dX7_topInRange_35 rfl (lv_at hl 2 rfl) ?_
    refine lv_if_ne (tgt := 43) hx hb dX7_topInRange_36 (by decide) (fun h1 => ?_) (fun h1 => ?_)
    · replace hf := pq_ifn h1 hf
      refine lv_iload hx hb dX7_topInRange_43 (lv_at hl 0 rfl) ?_
      refine lv_if_ge (tgt := 52) hx hb dX7_topInRange_45 (by decide) (fun h2 => ?_) (fun h2 => ?_)
      · replace hf := pq_ifp h2 hf
        refine lv_iconst (v := 0) hx hb dX7_topInRange_52 (by decide) ?_
        refine pq_putf S hK hP hD hS inX7 tyX7_ok nmX7 0 rfl rfl 0 (by decide) fl_X7_27 rfl rfl (ty := .int) rfl rfl rfl (Nat.le_of_ble_eq_true rfl) dX7_topInRange_53 (fun H locs hP hS => ?_)
        replace hP : va_P g.1 pq_cl (modW g a (0, T.2.1, T.2.2.1, T.2.2.2.1, T.2.2.2.2.1, T.2.2.2.2.2.1, T.2.2.2.2.2.2.1, T.2.2.2.2.2.2.2.1, T.2.2.2.2.2.2.2.2.1, T.2.2.2.2.2.2.2.2.2.1, T.2.2.2.2.2.2.2.2.2.2.1, T.2.2.2.2.2.2.2.2.2.2.2.1, T.2.2.2.2.2.2.2.2.2.2.2.2.1, T.2.2.2.2.2.2.2.2.2.2.2.2.2.1, T.2.2.2.2.2.2.2.2.2.2.2.2.2.2.1, T.2.2.2.2.2.2.2.2.2.2.2.2.2.2.2.1, T.2.2.2.2.2.2.2.2.2.2.2.2.2.2.2.2)) H := hP
        replace hD : va_D A (modW g a (0, T.2.1, T.2.2.1, T.2.2.2.1, T.2.2.2.2.1, T.2.2.2.2.2.1, T.2.2.2.2.2.2.1, T.2.2.2.2.2.2.2.1, T.2.2.2.2.2.2.2.2.1, T.2.2.2.2.2.2.2.2.2.1, T.2.2.2.2.2.2.2.2.2.2.1, T.2.2.2.2.2.2.2.2.2.2.2.1, T.2.2.2.2.2.2.2.2.2.2.2.2.1, T.2.2.2.2.2.2.2.2.2.2.2.2.2.1, T.2.2.2.2.2.2.2.2.2.2.2.2.2.2.1, T.2.2.2.2.2.2.2.2.2.2.2.2.2.2.2.1, T.2.2.2.2.2.2.2.2.2.2.2.2.2.2.2.2)) := pq_adr hD (ad_X7 _ _)
        refine lv_aload_n hx hb dX7_topInRange_56 rfl (lv_at hl 1 rfl) ?_
        refine pq_get S hK hP inX7 0 rfl rfl 0 (by decide) fl_X7_27 rfl (v := .int 0) rfl dX7_topInRange_57 ?_
        refine lv_if_ne (tgt := 72) hx hb dX7_topInRange_60 (by decide) (fun h9 => absurd h9 (by decide)) (fun _ => ?_)
        refine lv_aload_n hx hb dX7_topInRange_63 rfl (lv_at hl 1 rfl) ?_
        refine lv_iload hx hb dX7_topInRange_64 (lv_at hl 0 rfl) ?_
        obtain ⟨q4, e3, hf⟩ := pq_bind hf
        refine pq_cV S (c_X7_key l g a (0, T.2.1, T.2.2.1, T.2.2.2.1, T.2.2.2.2.1, T.2.2.2.2.2.1, T.2.2.2.2.2.2.1, T.2.2.2.2.2.2.2.1, T.2.2.2.2.2.2.2.2.1, T.2.2.2.2.2.2.2.2.2.1, T.2.2.2.2.2.2.2.2.2.2.1, T.2.2.2.2.2.2.2.2.2.2.2.1, T.2.2.2.2.2.2.2.2.2.2.2.2.1, T.2.2.2.2.2.2.2.2.2.2.2.2.2.1, T.2.2.2.2.2.2.2.2.2.2.2.2.2.2.1, T.2.2.2.2.2.2.2.2.2.2.2.2.2.2.2.1, T.2.2.2.2.2.2.2.2.2.2.2.2.2.2.2.2) s0 q4 e3) vv_X7_57 hK hP rfl rfl rfl rfl rfl hl.1 (Nat.le_of_ble_eq_true rfl) dX7_topInRange_66 (by decide) (by decide) ⟨Nat.le_refl _, Nat.le_refl _⟩ ?_
        refine lv_goto (tgt := 73) hx hb dX7_topInRange_69 (by decide) ?_
        obtain ⟨h8, h9⟩ := pq_pair hf
        exact hend _ _ _ _ _ dX7_topInRange_73 rfl h8 (by rw [← h9]; exact hP) hS
      · replace hf := pq_ifn h2 hf
        refine lv_iconst (v := 2) hx hb dX7_topInRange_48 (by decide) ?_
        refine lv_goto (tgt := 53) hx hb dX7_topInRange_49 (by decide) ?_
        refine pq_putf S hK hP hD hS inX7 tyX7_ok nmX7 0 rfl rfl 0 (by decide) fl_X7_27 rfl rfl (ty := .int) rfl rfl rfl (Nat.le_of_ble_eq_true rfl) dX7_topInRange_53 (fun H locs hP hS => ?_)
        replace hP : va_P g.1 pq_cl (modW g a (2, T.2.1, T.2.2.1, T.2.2.2.1, T.2.2.2.2.1, T.2.2.2.2.2.1, T.2.2.2.2.2.2.1, T.2.2.2.2.2.2.2.1, T.2.2.2.2.2.2.2.2.1, T.2.2.2.2.2.2.2.2.2.1, T.2.2.2.2.2.2.2.2.2.2.1, T.2.2.2.2.2.2.2.2.2.2.2.1, T.2.2.2.2.2.2.2.2.2.2.2.2.1, T.2.2.2.2.2.2.2.2.2.2.2.2.2.1, T.2.2.2.2.2.2.2.2.2.2.2.2.2.2.1, T.2.2.2.2.2.2.2.2.2.2.2.2.2.2.2.1, T.2.2.2.2.2.2.2.2.2.2.2.2.2.2.2.2)) H := hP
        replace hD : va_D A (modW g a (2, T.2.1, T.2.2.1, T.2.2.2.1, T.2.2.2.2.1, T.2.2.2.2.2.1, T.2.2.2.2.2.2.1, T.2.2.2.2.2.2.2.1, T.2.2.2.2.2.2.2.2.1, T.2.2.2.2.2.2.2.2.2.1, T.2.2.2.2.2.2.2.2.2.2.1, T.2.2.2.2.2.2.2.2.2.2.2.1, T.2.2.2.2.2.2.2.2.2.2.2.2.1, T.2.2.2.2.2.2.2.2.2.2.2.2.2.1, T.2.2.2.2.2.2.2.2.2.2.2.2.2.2.1, T.2.2.2.2.2.2.2.2.2.2.2.2.2.2.2.1, T.2.2.2.2.2.2.2.2.2.2.2.2.2.2.2.2)) := pq_adr hD (ad_X7 _ _)
        refine lv_aload_n hx hb dX7_topInRange_56 rfl (lv_at hl 1 rfl) ?_
        refine pq_get S hK hP inX7 0 rfl rfl 0 (by decide) fl_X7_27 rfl (v := .int 2) rfl dX7_topInRange_57 ?_
        refine lv_if_ne (tgt := 72) hx hb dX7_topInRange_60 (by decide) (fun _ => ?_) (fun h9 => absurd h9 (by decide))
        refine lv_iconst (v := 0) hx hb dX7_topInRange_72 (by decide) ?_
        obtain ⟨h8, h9⟩ := pq_pair hf
        exact hend _ _ _ _ _ dX7_topInRange_73 rfl h8 (by rw [← h9]; exact hP) hS
    · replace hf := pq_ifp h1 hf
      refine lv_iconst (v := 1) hx hb dX7_topInRange_39 (by decide) ?_
      refine lv_goto (tgt := 53) hx hb dX7_topInRange_40 (by decide) ?_
      refine pq_putf S hK hP hD hS inX7 tyX7_ok nmX7 0 rfl rfl 0 (by decide) fl_X7_27 rfl rfl (ty := .int) rfl rfl rfl (Nat.le_of_ble_eq_true rfl) dX7_topInRange_53 (fun H locs hP hS => ?_)
      replace hP : va_P g.1 pq_cl (modW g a (1, T.2.1, T.2.2.1, T.2.2.2.1, T.2.2.2.2.1, T.2.2.2.2.2.1, T.2.2.2.2.2.2.1, T.2.2.2.2.2.2.2.1, T.2.2.2.2.2.2.2.2.1, T.2.2.2.2.2.2.2.2.2.1, T.2.2.2.2.2.2.2.2.2.2.1, T.2.2.2.2.2.2.2.2.2.2.2.1, T.2.2.2.2.2.2.2.2.2.2.2.2.1, T.2.2.2.2.2.2.2.2.2.2.2.2.2.1, T.2.2.2.2.2.2.2.2.2.2.2.2.2.2.1, T.2.2.2.2.2.2.2.2.2.2.2.2.2.2.2.1, T.2.2.2.2.2.2.2.2.2.2.2.2.2.2.2.2)) H := hP
      replace hD : va_D A (modW g a (1, T.2.1, T.2.2.1, T.2.2.2.1, T.2.2.2.2.1, T.2.2.2.2.2.1, T.2.2.2.2.2.2.1, T.2.2.2.2.2.2.2.1, T.2.2.2.2.2.2.2.2.1, T.2.2.2.2.2.2.2.2.2.1, T.2.2.2.2.2.2.2.2.2.2.1, T.2.2.2.2.2.2.2.2.2.2.2.1, T.2.2.2.2.2.2.2.2.2.2.2.2.1, T.2.2.2.2.2.2.2.2.2.2.2.2.2.1, T.2.2.2.2.2.2.2.2.2.2.2.2.2.2.1, T.2.2.2.2.2.2.2.2.2.2.2.2.2.2.2.1, T.2.2.2.2.2.2.2.2.2.2.2.2.2.2.2.2)) := pq_adr hD (ad_X7 _ _)
      refine lv_aload_n hx hb dX7_topInRange_56 rfl (lv_at hl 1 rfl) ?_
      refine pq_get S hK hP inX7 0 rfl rfl 0 (by decide) fl_X7_27 rfl (v := .int 1) rfl dX7_topInRange_57 ?_
      refine lv_if_ne (tgt := 72) hx hb dX7_topInRange_60 (by decide) (fun _ => ?_) (fun h9 => absurd h9 (by decide))
      refine lv_iconst (v := 0) hx hb dX7_topInRange_72 (by decide) ?_
      obtain ⟨h8, h9⟩ := pq_pair hf
      exact hend _ _ _ _ _ dX7_topInRange_73 rfl h8 (by rw [← h9]; exact hP) hS
  refine lv_iload_n hx hb dX7_topInRange_0 rfl (lv_at hl 1 rfl) ?_
  refine lv_iload_n hx hb dX7_topInRange_1 rfl (lv_at hl 2 rfl) ?_
  obtain ⟨q6, e5, hf⟩ := pq_bind hf
  refine pq_cS S (c_X7_isRange l g p1 p2 q6 e5) vs_X7_143 hK (hP.sub [] rfl) rfl rfl hl.1 (Nat.le_of_ble_eq_true rfl) dX7_topInRange_2 (by decide) (by decide) ⟨Nat.le_refl _, Nat.le_refl _⟩ ?_
  refine lv_istore_n (lv' := [(3, .int q6), (0, .ref (a 0)), (1, .int p1), (2, .int p2)]) hx hb dX7_topInRange_5 rfl hl (by decide) rfl (fun ls hl => ?_)
  refine lv_iload_n hx hb dX7_topInRange_6 rfl (lv_at hl 0 rfl) ?_
  refine lv_if_eq (tgt := 31) hx hb dX7_topInRange_7 (by decide) (fun h7 => ?_) (fun h7 => ?_)
  · replace hf := pq_ifp h7 hf
    refine lv_iconst (v := (-1)) hx hb dX7_topInRange_31 (by decide) ?_
    exact B32 T q6 (-1) ls _ _ hP hD hS (lv_sub hl [1, 0] rfl) hf
  · replace hf := pq_ifn h7 hf
    refine lv_aload_n hx hb dX7_topInRange_10 rfl (lv_at hl 1 rfl) ?_
    refine lv_aload_n hx hb dX7_topInRange_11 rfl (lv_at hl 1 rfl) ?_
    refine lv_iload_n hx hb dX7_topInRange_12 rfl (lv_at hl 2 rfl) ?_
    obtain ⟨q9, e8, hf⟩ := pq_bind hf
    refine pq_cV S (c_X7_below l g a T p1 q9 e8) vv_X7_61 hK hP rfl rfl rfl rfl rfl hl.1 (Nat.le_of_ble_eq_true rfl) dX7_topInRange_13 (by decide) (by decide) ⟨Nat.le_refl _, Nat.le_refl _⟩ ?_
    refine lv_aload_n hx hb dX7_topInRange_16 rfl (lv_at hl 1 rfl) ?_
    refine lv_iload_n hx hb dX7_topInRange_17 rfl (lv_at hl 3 rfl) ?_
    refine lv_iconst (v := 1) hx hb dX7_topInRange_18 (by decide) ?_
    refine lv_iadd hx hb dX7_topInRange_19 ?_
    obtain ⟨q11, e10, hf⟩ := pq_bind hf
    refine pq_cV S (c_X7_below l g a T (p2 + 1) q11 e10) vv_X7_61 hK hP rfl rfl rfl rfl rfl hl.1 (Nat.le_of_ble_eq_true rfl) dX7_topInRange_20 (by decide) (by decide) ⟨Nat.le_refl _, Nat.le_refl _⟩ ?_
    refine lv_iconst (v := 1) hx hb dX7_topInRange_23 (by decide) ?_
    refine lv_isub hx hb dX7_topInRange_24 ?_
    obtain ⟨q13, e12, hf⟩ := pq_bind hf
    refine pq_cV S (c_X7_top l g a T q9 (q11 - 1) q13 e12) vv_X7_168 hK hP rfl rfl rfl rfl rfl hl.1 (Nat.le_of_ble_eq_true rfl) dX7_topInRange_25 (by decide) (by decide) ⟨Nat.le_refl _, Nat.le_refl _⟩ ?_
    refine lv_goto (tgt := 32) hx hb dX7_topInRange_28 (by decide) ?_
    exact B32 T q6 q13 ls _ _ hP hD hS (lv_sub hl [1, 0] rfl) hf
def f_X7_topInRangeByScan (T : ModS) (p1 : Int32) (p2 : Int32) : Option (Int32 × (ModS)) :=
    (f_X7_topInRange T p1 p2).bind fun q2 =>
    some (q2.1, q2.2)
set_option maxHeartbeats 4000000 in
set_option maxRecDepth 100000 in
theorem c_X7_topInRangeByScan (l : Launch) (g : pq_g) (a : Nat → Nat) (T : ModS) (p1 : Int32) (p2 : Int32) (r : Int32) (T1 : ModS) (hf : f_X7_topInRangeByScan T p1 p2 = some (r, T1)) : pq_Mi l yX7_topInRangeByScan cX7_topInRangeByScan 3 .int 5 g (modW g a T) [.ref (a 0), .int p1, .int p2] r (modW g a T1) := by
  rw [f_X7_topInRangeByScan] at hf
  refine pq_Mi.of (own := RX7) (by decide) rfl (Nat.le_of_ble_eq_true rfl) rfl ?_
  intro p e s m below meth c ls Q A S hP hK hD hS hA hl hend
  obtain ⟨hx, hb, hml, hown, hts⟩ := id S
  refine lv_aload_n hx hb dX7_topInRangeByScan_0 rfl (lv_at hl 0 rfl) ?_
  refine lv_iload_n hx hb dX7_topInRangeByScan_1 rfl (lv_at hl 1 rfl) ?_
  refine lv_iload_n hx hb dX7_topInRangeByScan_2 rfl (lv_at hl 2 rfl) ?_
  obtain ⟨q2, e1, hf⟩ := pq_bind hf
  refine pq_cVi S (c_X7_topInRange l g a T p1 p2 q2.1 q2.2 e1) vv_X7_192 hK hP hD hS hA rfl rfl rfl rfl rfl hl.1 (Nat.le_of_ble_eq_true rfl) dX7_topInRangeByScan_3 (by decide) (by decide) ⟨Nat.le_refl _, Nat.le_refl _⟩ (fun H9 locs hk hP1 hS => ?_)
  replace hP := hP1
  replace hP : va_P g.1 pq_cl (modW g a q2.2) H9 := hP
  replace hD : va_D A (modW g a q2.2) := pq_adr hD (ad_X7 _ _)
  clear hk
  generalize H9 = H at hP hS ⊢
  obtain ⟨h8, h9⟩ := pq_pair hf
  exact hend _ _ _ _ _ dX7_topInRangeByScan_6 rfl h8 (by rw [← h9]; exact hP) hS
def f_X7_countAbove_c39 : Nat → ModS → Int32 → Int32 → Int32 → Int32 → Option (Int32 × (ModS))
  | 0, _, _, _, _, _ => none
  | n + 1, T, v2, v3, v4, v5 =>
    (f_X7_below T (v2 + 1)).bind fun q2 =>
    if q2 ≤ v5 then
      some (v4, T)
    else
      (f_X7_priority T v5).bind fun q5 =>
      if q5 < v3 then
        f_X7_countAbove_c39 n T v2 v3 (v4 + 0) (v5 + 1)
      else
        f_X7_countAbove_c39 n T v2 v3 (v4 + 1) (v5 + 1)
def f_X7_countAbove (T : ModS) (p1 : Int32) (p2 : Int32) (p3 : Int32) : Option (Int32 × (ModS)) :=
    (f_X7_isRange p1 p2).bind fun q8 =>
    if q8 = 0 then
      (f_X7_isFine T 0).bind fun q11 =>
      if q11.1 = 0 then
        some (0, q11.2)
      else
        (f_X7_below q11.2 p1).bind fun q14 =>
        f_X7_countAbove_c39 200 q11.2 p2 p3 0 q14
    else
      (f_X7_isNumber p3).bind fun q16 =>
      if q16 = 0 then
        (f_X7_isFine T 0).bind fun q19 =>
        if q19.1 = 0 then
          some (0, q19.2)
        else
          (f_X7_below q19.2 p1).bind fun q22 =>
          f_X7_countAbove_c39 200 q19.2 p2 p3 0 q22
      else
        (f_X7_isFine T 1).bind fun q24 =>
        if q24.1 = 0 then
          some (0, q24.2)
        else
          (f_X7_below q24.2 p1).bind fun q27 =>
          f_X7_countAbove_c39 200 q24.2 p2 p3 0 q27
set_option maxHeartbeats 4000000 in
set_option maxRecDepth 100000 in
theorem c_X7_countAbove (l : Launch) (g : pq_g) (a : Nat → Nat) (T : ModS) (p1 : Int32) (p2 : Int32) (p3 : Int32) (r : Int32) (T1 : ModS) (hf : f_X7_countAbove T p1 p2 p3 = some (r, T1)) : pq_Mi l yX7_countAbove cX7_countAbove 6 .int 4 g (modW g a T) [.ref (a 0), .int p1, .int p2, .int p3] r (modW g a T1) := by
  rw [f_X7_countAbove] at hf
  refine pq_Mi.of (own := RX7) (by decide) rfl (Nat.le_of_ble_eq_true rfl) rfl ?_
  intro p e s m below meth c ls Q A S hP hK hD hS hA hl hend
  obtain ⟨hx, hb, hml, hown, hts⟩ := id S
  have B39 : ∀ (n39 : Nat) (T : ModS) (v2 : Int32) (v3 : Int32) (v4 : Int32) (v5 : Int32) (ls : Array Slot) (H : Heap) (locs : List Loc), va_P g.1 pq_cl (modW g a T) H → va_D A (modW g a T) → va_S A s.heap H locs → lv_has ls 6 [(0, .ref (a 0)), (2, .int v2), (3, .int v3), (4, .int v4), (5, .int v5)] → f_X7_countAbove_c39 n39 T v2 v3 v4 v5 = some (r, T1) → W p l e (pq_rm 4 0 0) s m ([.ref (a 0), .int p1, .int p2, .int p3] : List Value).toArray below meth c H locs 0 0 Q (F0 m 39 ls []) := by
    intro n39
    induction n39 with
    | zero =>
      intro T v2 v3 v4 v5 ls H locs hP hD hS hl hf
      exact absurd hf (by simp [f_X7_countAbove_c39])
    | succ n39 ih39 =>
      intro T v2 v3 v4 v5 ls H locs hP hD hS hl hf
      rw [f_X7_countAbove_c39] at hf
      refine lv_iload hx hb dX7_countAbove_39 (lv_at hl 4 rfl) ?_
      refine lv_aload_n hx hb dX7_countAbove_41 rfl (lv_at hl 0 rfl) ?_
      refine lv_iload_n hx hb dX7_countAbove_42 rfl (lv_at hl 1 rfl) ?_
      refine lv_iconst (v := 1) hx hb dX7_countAbove_43 (by decide) ?_
      refine lv_iadd hx hb dX7_countAbove_44 ?_
      obtain ⟨q2, e1, hf⟩ := pq_bind hf
      refine pq_cV S (c_X7_below l g a T (v2 + 1) q2 e1) vv_X7_61 hK hP rfl rfl rfl rfl rfl hl.1 (Nat.le_of_ble_eq_true rfl) dX7_countAbove_45 (by decide) (by decide) ⟨Nat.le_refl _, Nat.le_refl _⟩ ?_
      refine lv_icmp_ge (tgt := 77) hx hb dX7_countAbove_48 (by decide) (fun h3 => ?_) (fun h3 => ?_)
      · replace hf := pq_ifp h3 hf
        refine lv_iload hx hb dX7_countAbove_77 (lv_at hl 3 rfl) ?_
        obtain ⟨h8, h9⟩ := pq_pair hf
        exact hend _ _ _ _ _ dX7_countAbove_79 rfl h8 (by rw [← h9]; exact hP) hS
      · replace hf := pq_ifn h3 hf
        refine lv_iload hx hb dX7_countAbove_51 (lv_at hl 3 rfl) ?_
        refine lv_aload_n hx hb dX7_countAbove_53 rfl (lv_at hl 0 rfl) ?_
        refine lv_iload hx hb dX7_countAbove_54 (lv_at hl 4 rfl) ?_
        obtain ⟨q5, e4, hf⟩ := pq_bind hf
        refine pq_cV S (c_X7_priority l g a T v5 q5 e4) vv_X7_64 hK hP rfl rfl rfl rfl rfl hl.1 (Nat.le_of_ble_eq_true rfl) dX7_countAbove_56 (by decide) (by decide) ⟨Nat.le_refl _, Nat.le_refl _⟩ ?_
        refine lv_iload_n hx hb dX7_countAbove_59 rfl (lv_at hl 2 rfl) ?_
        refine lv_icmp_lt (tgt := 67) hx hb dX7_countAbove_60 (by decide) (fun h6 => ?_) (fun h6 => ?_)
        · replace hf := pq_ifp h6 hf
          refine lv_iconst (v := 0) hx hb dX7_countAbove_67 (by decide) ?_
          refine lv_iadd hx hb dX7_countAbove_68 ?_
          refine lv_istore (lv' := [(4, .int (v4 + 0)), (0, .ref (a 0)), (2, .int v2), (3, .int v3), (5, .int v5)]) hx hb dX7_countAbove_69 hl (by decide) rfl (fun ls hl => ?_)
          refine lv_iinc (v := (v5 + 1)) (lv' := [(5, .int (v5 + 1)), (4, .int (v4 + 0)), (0, .ref (a 0)), (2, .int v2), (3, .int v3)]) hx hb dX7_countAbove_71 hl (k := 4) rfl rfl (by decide) rfl (fun ls hl => ?_)
          refine lv_goto (tgt := 39) hx hb dX7_countAbove_74 (by decide) ?_
          exact ih39 T v2 v3 (v4 + 0) (v5 + 1) ls _ _ hP hD hS (lv_sub hl [2, 3, 4, 1, 0] rfl) hf
        · replace hf := pq_ifn h6 hf
          refine lv_iconst (v := 1) hx hb dX7_countAbove_63 (by decide) ?_
          refine lv_goto (tgt := 68) hx hb dX7_countAbove_64 (by decide) ?_
          refine lv_iadd hx hb dX7_countAbove_68 ?_
          refine lv_istore (lv' := [(4, .int (v4 + 1)), (0, .ref (a 0)), (2, .int v2), (3, .int v3), (5, .int v5)]) hx hb dX7_countAbove_69 hl (by decide) rfl (fun ls hl => ?_)
          refine lv_iinc (v := (v5 + 1)) (lv' := [(5, .int (v5 + 1)), (4, .int (v4 + 1)), (0, .ref (a 0)), (2, .int v2), (3, .int v3)]) hx hb dX7_countAbove_71 hl (k := 4) rfl rfl (by decide) rfl (fun ls hl => ?_)
          refine lv_goto (tgt := 39) hx hb dX7_countAbove_74 (by decide) ?_
          exact ih39 T v2 v3 (v4 + 1) (v5 + 1) ls _ _ hP hD hS (lv_sub hl [2, 3, 4, 1, 0] rfl) hf
  refine lv_aload_n hx hb dX7_countAbove_0 rfl (lv_at hl 0 rfl) ?_
  refine lv_iload_n hx hb dX7_countAbove_1 rfl (lv_at hl 1 rfl) ?_
  refine lv_iload_n hx hb dX7_countAbove_2 rfl (lv_at hl 2 rfl) ?_
  obtain ⟨q8, e7, hf⟩ := pq_bind hf
  refine pq_cS S (c_X7_isRange l g p1 p2 q8 e7) vs_X7_143 hK (hP.sub [] rfl) rfl rfl hl.1 (Nat.le_of_ble_eq_true rfl) dX7_countAbove_3 (by decide) (by decide) ⟨Nat.le_refl _, Nat.le_refl _⟩ ?_
  refine lv_if_eq (tgt := 20) hx hb dX7_countAbove_6 (by decide) (fun h9 => ?_) (fun h9 => ?_)
  · replace hf := pq_ifp h9 hf
    refine lv_iconst (v := 0) hx hb dX7_countAbove_20 (by decide) ?_
    obtain ⟨q11, e10, hf⟩ := pq_bind hf
    refine pq_cVi S (c_X7_isFine l g a T 0 q11.1 q11.2 e10) vv_X7_53 hK hP hD hS hA rfl rfl rfl rfl rfl hl.1 (Nat.le_of_ble_eq_true rfl) dX7_countAbove_21 (by decide) (by decide) ⟨Nat.le_refl _, Nat.le_refl _⟩ (fun H9 locs hk hP1 hS => ?_)
    replace hP := hP1
    replace hP : va_P g.1 pq_cl (modW g a q11.2) H9 := hP
    replace hD : va_D A (modW g a q11.2) := pq_adr hD (ad_X7 _ _)
    clear hk
    generalize H9 = H at hP hS ⊢
    refine lv_if_ne (tgt := 29) hx hb dX7_countAbove_24 (by decide) (fun h12 => ?_) (fun h12 => ?_)
    · replace hf := pq_ifn h12 hf
      refine lv_iconst (v := 0) hx hb dX7_countAbove_29 (by decide) ?_
      refine lv_istore (lv' := [(4, .int 0), (0, .ref (a 0)), (1, .int p1), (2, .int p2), (3, .int p3)]) hx hb dX7_countAbove_30 hl (by decide) rfl (fun ls hl => ?_)
      refine lv_aload_n hx hb dX7_countAbove_32 rfl (lv_at hl 1 rfl) ?_
      refine lv_iload_n hx hb dX7_countAbove_33 rfl (lv_at hl 2 rfl) ?_
      obtain ⟨q14, e13, hf⟩ := pq_bind hf
      refine pq_cV S (c_X7_below l g a q11.2 p1 q14 e13) vv_X7_61 hK hP rfl rfl rfl rfl rfl hl.1 (Nat.le_of_ble_eq_true rfl) dX7_countAbove_34 (by decide) (by decide) ⟨Nat.le_refl _, Nat.le_refl _⟩ ?_
      refine lv_istore (lv' := [(5, .int q14), (4, .int 0), (0, .ref (a 0)), (1, .int p1), (2, .int p2), (3, .int p3)]) hx hb dX7_countAbove_37 hl (by decide) rfl (fun ls hl => ?_)
      exact B39 200 q11.2 p2 p3 0 q14 ls _ _ hP hD hS (lv_sub hl [2, 4, 5, 1, 0] rfl) hf
    · replace hf := pq_ifp h12 hf
      refine lv_iconst (v := 0) hx hb dX7_countAbove_27 (by decide) ?_
      obtain ⟨h8, h9⟩ := pq_pair hf
      exact hend _ _ _ _ _ dX7_countAbove_28 rfl h8 (by rw [← h9]; exact hP) hS
  · replace hf := pq_ifn h9 hf
    refine lv_iload_n hx hb dX7_countAbove_9 rfl (lv_at hl 3 rfl) ?_
    obtain ⟨q16, e15, hf⟩ := pq_bind hf
    refine pq_cS S (c_X7_isNumber l g p3 q16 e15) vs_X7_108 hK (hP.sub [] rfl) rfl rfl hl.1 (Nat.le_of_ble_eq_true rfl) dX7_countAbove_10 (by decide) (by decide) ⟨Nat.le_refl _, Nat.le_refl _⟩ ?_
    refine lv_if_eq (tgt := 20) hx hb dX7_countAbove_13 (by decide) (fun h17 => ?_) (fun h17 => ?_)
    · replace hf := pq_ifp h17 hf
      refine lv_iconst (v := 0) hx hb dX7_countAbove_20 (by decide) ?_
      obtain ⟨q19, e18, hf⟩ := pq_bind hf
      refine pq_cVi S (c_X7_isFine l g a T 0 q19.1 q19.2 e18) vv_X7_53 hK hP hD hS hA rfl rfl rfl rfl rfl hl.1 (Nat.le_of_ble_eq_true rfl) dX7_countAbove_21 (by decide) (by decide) ⟨Nat.le_refl _, Nat.le_refl _⟩ (fun H9 locs hk hP1 hS => ?_)
      replace hP := hP1
      replace hP : va_P g.1 pq_cl (modW g a q19.2) H9 := hP
      replace hD : va_D A (modW g a q19.2) := pq_adr hD (ad_X7 _ _)
      clear hk
      generalize H9 = H at hP hS ⊢
      refine lv_if_ne (tgt := 29) hx hb dX7_countAbove_24 (by decide) (fun h20 => ?_) (fun h20 => ?_)
      · replace hf := pq_ifn h20 hf
        refine lv_iconst (v := 0) hx hb dX7_countAbove_29 (by decide) ?_
        refine lv_istore (lv' := [(4, .int 0), (0, .ref (a 0)), (1, .int p1), (2, .int p2), (3, .int p3)]) hx hb dX7_countAbove_30 hl (by decide) rfl (fun ls hl => ?_)
        refine lv_aload_n hx hb dX7_countAbove_32 rfl (lv_at hl 1 rfl) ?_
        refine lv_iload_n hx hb dX7_countAbove_33 rfl (lv_at hl 2 rfl) ?_
        obtain ⟨q22, e21, hf⟩ := pq_bind hf
        refine pq_cV S (c_X7_below l g a q19.2 p1 q22 e21) vv_X7_61 hK hP rfl rfl rfl rfl rfl hl.1 (Nat.le_of_ble_eq_true rfl) dX7_countAbove_34 (by decide) (by decide) ⟨Nat.le_refl _, Nat.le_refl _⟩ ?_
        refine lv_istore (lv' := [(5, .int q22), (4, .int 0), (0, .ref (a 0)), (1, .int p1), (2, .int p2), (3, .int p3)]) hx hb dX7_countAbove_37 hl (by decide) rfl (fun ls hl => ?_)
        exact B39 200 q19.2 p2 p3 0 q22 ls _ _ hP hD hS (lv_sub hl [2, 4, 5, 1, 0] rfl) hf
      · replace hf := pq_ifp h20 hf
        refine lv_iconst (v := 0) hx hb dX7_countAbove_27 (by decide) ?_
        obtain ⟨h8, h9⟩ := pq_pair hf
        exact hend _ _ _ _ _ dX7_countAbove_28 rfl h8 (by rw [← h9]; exact hP) hS
    · replace hf := pq_ifn h17 hf
      refine lv_iconst (v := 1) hx hb dX7_countAbove_16 (by decide) ?_
      refine lv_goto (tgt := 21) hx hb dX7_countAbove_17 (by decide) ?_
      obtain ⟨q24, e23, hf⟩ := pq_bind hf
      refine pq_cVi S (c_X7_isFine l g a T 1 q24.1 q24.2 e23) vv_X7_53 hK hP hD hS hA rfl rfl rfl rfl rfl hl.1 (Nat.le_of_ble_eq_true rfl) dX7_countAbove_21 (by decide) (by decide) ⟨Nat.le_refl _, Nat.le_refl _⟩ (fun H9 locs hk hP1 hS => ?_)
      replace hP := hP1
      replace hP : va_P g.1 pq_cl (modW g a q24.2) H9 := hP
      replace hD : va_D A (modW g a q24.2) := pq_adr hD (ad_X7 _ _)
      clear hk
      generalize H9 = H at hP hS ⊢
      refine lv_if_ne (tgt := 29) hx hb dX7_countAbove_24 (by decide) (fun h25 => ?_) (fun h25 => ?_)
      · replace hf := pq_ifn h25 hf
        refine lv_iconst (v := 0) hx hb dX7_countAbove_29 (by decide) ?_
        refine lv_istore (lv' := [(4, .int 0), (0, .ref (a 0)), (1, .int p1), (2, .int p2), (3, .int p3)]) hx hb dX7_countAbove_30 hl (by decide) rfl (fun ls hl => ?_)
        refine lv_aload_n hx hb dX7_countAbove_32 rfl (lv_at hl 1 rfl) ?_
        refine lv_iload_n hx hb dX7_countAbove_33 rfl (lv_at hl 2 rfl) ?_
        obtain ⟨q27, e26, hf⟩ := pq_bind hf
        refine pq_cV S (c_X7_below l g a q24.2 p1 q27 e26) vv_X7_61 hK hP rfl rfl rfl rfl rfl hl.1 (Nat.le_of_ble_eq_true rfl) dX7_countAbove_34 (by decide) (by decide) ⟨Nat.le_refl _, Nat.le_refl _⟩ ?_
        refine lv_istore (lv' := [(5, .int q27), (4, .int 0), (0, .ref (a 0)), (1, .int p1), (2, .int p2), (3, .int p3)]) hx hb dX7_countAbove_37 hl (by decide) rfl (fun ls hl => ?_)
        exact B39 200 q24.2 p2 p3 0 q27 ls _ _ hP hD hS (lv_sub hl [2, 4, 5, 1, 0] rfl) hf
      · replace hf := pq_ifp h25 hf
        refine lv_iconst (v := 0) hx hb dX7_countAbove_27 (by decide) ?_
        obtain ⟨h8, h9⟩ := pq_pair hf
        exact hend _ _ _ _ _ dX7_countAbove_28 rfl h8 (by rw [← h9]; exact hP) hS
def f_X7_countAboveByScan (T : ModS) (p1 : Int32) (p2 : Int32) (p3 : Int32) : Option (Int32 × (ModS)) :=
    (f_X7_countAbove T p1 p2 p3).bind fun q2 =>
    some (q2.1, q2.2)
set_option maxHeartbeats 4000000 in
set_option maxRecDepth 100000 in
theorem c_X7_countAboveByScan (l : Launch) (g : pq_g) (a : Nat → Nat) (T : ModS) (p1 : Int32) (p2 : Int32) (p3 : Int32) (r : Int32) (T1 : ModS) (hf : f_X7_countAboveByScan T p1 p2 p3 = some (r, T1)) : pq_Mi l yX7_countAboveByScan cX7_countAboveByScan 4 .int 5 g (modW g a T) [.ref (a 0), .int p1, .int p2, .int p3] r (modW g a T1) := by
  rw [f_X7_countAboveByScan] at hf
  refine pq_Mi.of (own := RX7) (by decide) rfl (Nat.le_of_ble_eq_true rfl) rfl ?_
  intro p e s m below meth c ls Q A S hP hK hD hS hA hl hend
  obtain ⟨hx, hb, hml, hown, hts⟩ := id S
  refine lv_aload_n hx hb dX7_countAboveByScan_0 rfl (lv_at hl 0 rfl) ?_
  refine lv_iload_n hx hb dX7_countAboveByScan_1 rfl (lv_at hl 1 rfl) ?_
  refine lv_iload_n hx hb dX7_countAboveByScan_2 rfl (lv_at hl 2 rfl) ?_
  refine lv_iload_n hx hb dX7_countAboveByScan_3 rfl (lv_at hl 3 rfl) ?_
  obtain ⟨q2, e1, hf⟩ := pq_bind hf
  refine pq_cVi S (c_X7_countAbove l g a T p1 p2 p3 q2.1 q2.2 e1) vv_X7_195 hK hP hD hS hA rfl rfl rfl rfl rfl hl.1 (Nat.le_of_ble_eq_true rfl) dX7_countAboveByScan_4 (by decide) (by decide) ⟨Nat.le_refl _, Nat.le_refl _⟩ (fun H9 locs hk hP1 hS => ?_)
  replace hP := hP1
  replace hP : va_P g.1 pq_cl (modW g a q2.2) H9 := hP
  replace hD : va_D A (modW g a q2.2) := pq_adr hD (ad_X7 _ _)
  clear hk
  generalize H9 = H at hP hS ⊢
  obtain ⟨h8, h9⟩ := pq_pair hf
  exact hend _ _ _ _ _ dX7_countAboveByScan_7 rfl h8 (by rw [← h9]; exact hP) hS
def f_X7_sumInRange_c23 : Nat → ModS → Int32 → Int32 → Int32 → Option (Int64 × (ModS))
  | 0, _, _, _, _ => none
  | n + 1, T, v2, v3, v4 =>
    (f_X7_below T (v2 + 1)).bind fun q2 =>
    if q2 ≤ v4 then
      some (v3.toInt64, T)
    else
      (f_X7_priority T v4).bind fun q5 =>
      f_X7_sumInRange_c23 n T v2 (v3 + q5) (v4 + 1)
def f_X7_sumInRange (T : ModS) (p1 : Int32) (p2 : Int32) : Option (Int64 × (ModS)) :=
    (f_X7_isRange p1 p2).bind fun q7 =>
    (f_X7_isFine T q7).bind fun q9 =>
    if q9.1 = 0 then
      some (0, q9.2)
    else
      (f_X7_below q9.2 p1).bind fun q12 =>
      f_X7_sumInRange_c23 200 q9.2 p2 0 q12
set_option maxHeartbeats 4000000 in
set_option maxRecDepth 100000 in
theorem c_X7_sumInRange (l : Launch) (g : pq_g) (a : Nat → Nat) (T : ModS) (p1 : Int32) (p2 : Int32) (r : Int64) (T1 : ModS) (hf : f_X7_sumInRange T p1 p2 = some (r, T1)) : pq_Ml l yX7_sumInRange cX7_sumInRange 5 4 g (modW g a T) [.ref (a 0), .int p1, .int p2] r (modW g a T1) := by
  rw [f_X7_sumInRange] at hf
  refine pq_Ml.of (own := RX7) (by decide) rfl (Nat.le_of_ble_eq_true rfl) rfl ?_
  intro p e s m below meth c ls Q A S hP hK hD hS hA hl hend
  obtain ⟨hx, hb, hml, hown, hts⟩ := id S
  have B23 : ∀ (n23 : Nat) (T : ModS) (v2 : Int32) (v3 : Int32) (v4 : Int32) (ls : Array Slot) (H : Heap) (locs : List Loc), va_P g.1 pq_cl (modW g a T) H → va_D A (modW g a T) → va_S A s.heap H locs → lv_has ls 5 [(0, .ref (a 0)), (2, .int v2), (3, .int v3), (4, .int v4)] → f_X7_sumInRange_c23 n23 T v2 v3 v4 = some (r, T1) → W p l e (pq_rm 4 0 0) s m ([.ref (a 0), .int p1, .int p2] : List Value).toArray below meth c H locs 0 0 Q (F0 m 23 ls []) := by
    intro n23
    induction n23 with
    | zero =>
      intro T v2 v3 v4 ls H locs hP hD hS hl hf
      exact absurd hf (by simp [f_X7_sumInRange_c23])
    | succ n23 ih23 =>
      intro T v2 v3 v4 ls H locs hP hD hS hl hf
      rw [f_X7_sumInRange_c23] at hf
      refine lv_iload hx hb dX7_sumInRange_23 (lv_at hl 3 rfl) ?_
      refine lv_aload_n hx hb dX7_sumInRange_25 rfl (lv_at hl 0 rfl) ?_
      refine lv_iload_n hx hb dX7_sumInRange_26 rfl (lv_at hl 1 rfl) ?_
      refine lv_iconst (v := 1) hx hb dX7_sumInRange_27 (by decide) ?_
      refine lv_iadd hx hb dX7_sumInRange_28 ?_
      obtain ⟨q2, e1, hf⟩ := pq_bind hf
      refine pq_cV S (c_X7_below l g a T (v2 + 1) q2 e1) vv_X7_61 hK hP rfl rfl rfl rfl rfl hl.1 (Nat.le_of_ble_eq_true rfl) dX7_sumInRange_29 (by decide) (by decide) ⟨Nat.le_refl _, Nat.le_refl _⟩ ?_
      refine lv_icmp_ge (tgt := 50) hx hb dX7_sumInRange_32 (by decide) (fun h3 => ?_) (fun h3 => ?_)
      · replace hf := pq_ifp h3 hf
        refine lv_iload_n hx hb dX7_sumInRange_50 rfl (lv_at hl 2 rfl) ?_
        refine lv_i2l hx hb dX7_sumInRange_51 rfl ?_
        obtain ⟨h8, h9⟩ := pq_pair hf
        exact hend _ _ _ _ _ dX7_sumInRange_52 h8 (by rw [← h9]; exact hP) hS
      · replace hf := pq_ifn h3 hf
        refine lv_iload_n hx hb dX7_sumInRange_35 rfl (lv_at hl 2 rfl) ?_
        refine lv_aload_n hx hb dX7_sumInRange_36 rfl (lv_at hl 0 rfl) ?_
        refine lv_iload hx hb dX7_sumInRange_37 (lv_at hl 3 rfl) ?_
        obtain ⟨q5, e4, hf⟩ := pq_bind hf
        refine pq_cV S (c_X7_priority l g a T v4 q5 e4) vv_X7_64 hK hP rfl rfl rfl rfl rfl hl.1 (Nat.le_of_ble_eq_true rfl) dX7_sumInRange_39 (by decide) (by decide) ⟨Nat.le_refl _, Nat.le_refl _⟩ ?_
        refine lv_iadd hx hb dX7_sumInRange_42 ?_
        refine lv_istore_n (lv' := [(3, .int (v3 + q5)), (0, .ref (a 0)), (2, .int v2), (4, .int v4)]) hx hb dX7_sumInRange_43 rfl hl (by decide) rfl (fun ls hl => ?_)
        refine lv_iinc (v := (v4 + 1)) (lv' := [(4, .int (v4 + 1)), (3, .int (v3 + q5)), (0, .ref (a 0)), (2, .int v2)]) hx hb dX7_sumInRange_44 hl (k := 3) rfl rfl (by decide) rfl (fun ls hl => ?_)
        refine lv_goto (tgt := 23) hx hb dX7_sumInRange_47 (by decide) ?_
        exact ih23 T v2 (v3 + q5) (v4 + 1) ls _ _ hP hD hS (lv_sub hl [2, 3, 1, 0] rfl) hf
  refine lv_aload_n hx hb dX7_sumInRange_0 rfl (lv_at hl 0 rfl) ?_
  refine lv_iload_n hx hb dX7_sumInRange_1 rfl (lv_at hl 1 rfl) ?_
  refine lv_iload_n hx hb dX7_sumInRange_2 rfl (lv_at hl 2 rfl) ?_
  obtain ⟨q7, e6, hf⟩ := pq_bind hf
  refine pq_cS S (c_X7_isRange l g p1 p2 q7 e6) vs_X7_143 hK (hP.sub [] rfl) rfl rfl hl.1 (Nat.le_of_ble_eq_true rfl) dX7_sumInRange_3 (by decide) (by decide) ⟨Nat.le_refl _, Nat.le_refl _⟩ ?_
  obtain ⟨q9, e8, hf⟩ := pq_bind hf
  refine pq_cVi S (c_X7_isFine l g a T q7 q9.1 q9.2 e8) vv_X7_53 hK hP hD hS hA rfl rfl rfl rfl rfl hl.1 (Nat.le_of_ble_eq_true rfl) dX7_sumInRange_6 (by decide) (by decide) ⟨Nat.le_refl _, Nat.le_refl _⟩ (fun H9 locs hk hP1 hS => ?_)
  replace hP := hP1
  replace hP : va_P g.1 pq_cl (modW g a q9.2) H9 := hP
  replace hD : va_D A (modW g a q9.2) := pq_adr hD (ad_X7 _ _)
  clear hk
  generalize H9 = H at hP hS ⊢
  refine lv_if_ne (tgt := 14) hx hb dX7_sumInRange_9 (by decide) (fun h10 => ?_) (fun h10 => ?_)
  · replace hf := pq_ifn h10 hf
    refine lv_iconst (v := 0) hx hb dX7_sumInRange_14 (by decide) ?_
    refine lv_istore_n (lv' := [(3, .int 0), (0, .ref (a 0)), (1, .int p1), (2, .int p2)]) hx hb dX7_sumInRange_15 rfl hl (by decide) rfl (fun ls hl => ?_)
    refine lv_aload_n hx hb dX7_sumInRange_16 rfl (lv_at hl 1 rfl) ?_
    refine lv_iload_n hx hb dX7_sumInRange_17 rfl (lv_at hl 2 rfl) ?_
    obtain ⟨q12, e11, hf⟩ := pq_bind hf
    refine pq_cV S (c_X7_below l g a q9.2 p1 q12 e11) vv_X7_61 hK hP rfl rfl rfl rfl rfl hl.1 (Nat.le_of_ble_eq_true rfl) dX7_sumInRange_18 (by decide) (by decide) ⟨Nat.le_refl _, Nat.le_refl _⟩ ?_
    refine lv_istore (lv' := [(4, .int q12), (3, .int 0), (0, .ref (a 0)), (1, .int p1), (2, .int p2)]) hx hb dX7_sumInRange_21 hl (by decide) rfl (fun ls hl => ?_)
    exact B23 200 q9.2 p2 0 q12 ls _ _ hP hD hS (lv_sub hl [2, 4, 1, 0] rfl) hf
  · replace hf := pq_ifp h10 hf
    refine lv_lconst (v := 0) hx hb dX7_sumInRange_12 (by decide) ?_
    obtain ⟨h8, h9⟩ := pq_pair hf
    exact hend _ _ _ _ _ dX7_sumInRange_13 h8 (by rw [← h9]; exact hP) hS
def f_X7_isWindowSet (T : ModS) (p1 : Int32) : Option (Int32 × (ModS)) :=
    (f_X7_isWindow p1).bind fun q2 =>
    (f_X7_isFine T q2).bind fun q4 =>
    if q4.1 = 0 then
      some (0, q4.2)
    else
      (f_X7_w q4.2 p1 0).bind fun q7 =>
      if q7 = 1 then
        some (1, q4.2)
      else
        some (0, q4.2)
set_option maxHeartbeats 4000000 in
set_option maxRecDepth 100000 in
theorem c_X7_isWindowSet (l : Launch) (g : pq_g) (a : Nat → Nat) (T : ModS) (p1 : Int32) (r : Int32) (T1 : ModS) (hf : f_X7_isWindowSet T p1 = some (r, T1)) : pq_Mi l yX7_isWindowSet cX7_isWindowSet 2 .boolean 3 g (modW g a T) [.ref (a 0), .int p1] r (modW g a T1) := by
  rw [f_X7_isWindowSet] at hf
  refine pq_Mi.of (own := RX7) (by decide) rfl (Nat.le_of_ble_eq_true rfl) rfl ?_
  intro p e s m below meth c ls Q A S hP hK hD hS hA hl hend
  obtain ⟨hx, hb, hml, hown, hts⟩ := id S
  refine lv_aload_n hx hb dX7_isWindowSet_0 rfl (lv_at hl 0 rfl) ?_
  refine lv_iload_n hx hb dX7_isWindowSet_1 rfl (lv_at hl 1 rfl) ?_
  obtain ⟨q2, e1, hf⟩ := pq_bind hf
  refine pq_cS S (c_X7_isWindow l g p1 q2 e1) vs_X7_149 hK (hP.sub [] rfl) rfl rfl hl.1 (Nat.le_of_ble_eq_true rfl) dX7_isWindowSet_2 (by decide) (by decide) ⟨Nat.le_refl _, Nat.le_refl _⟩ ?_
  obtain ⟨q4, e3, hf⟩ := pq_bind hf
  refine pq_cVi S (c_X7_isFine l g a T q2 q4.1 q4.2 e3) vv_X7_53 hK hP hD hS hA rfl rfl rfl rfl rfl hl.1 (Nat.le_of_ble_eq_true rfl) dX7_isWindowSet_5 (by decide) (by decide) ⟨Nat.le_refl _, Nat.le_refl _⟩ (fun H9 locs hk hP1 hS => ?_)
  replace hP := hP1
  replace hP : va_P g.1 pq_cl (modW g a q4.2) H9 := hP
  replace hD : va_D A (modW g a q4.2) := pq_adr hD (ad_X7 _ _)
  clear hk
  generalize H9 = H at hP hS ⊢
  refine lv_if_eq (tgt := 25) hx hb dX7_isWindowSet_8 (by decide) (fun h5 => ?_) (fun h5 => ?_)
  · replace hf := pq_ifp h5 hf
    refine lv_iconst (v := 0) hx hb dX7_isWindowSet_25 (by decide) ?_
    obtain ⟨h8, h9⟩ := pq_pair hf
    exact hend _ _ _ _ _ dX7_isWindowSet_26 rfl h8 (by rw [← h9]; exact hP) hS
  · replace hf := pq_ifn h5 hf
    refine lv_aload_n hx hb dX7_isWindowSet_11 rfl (lv_at hl 0 rfl) ?_
    refine lv_iload_n hx hb dX7_isWindowSet_12 rfl (lv_at hl 1 rfl) ?_
    refine lv_iconst (v := 0) hx hb dX7_isWindowSet_13 (by decide) ?_
    obtain ⟨q7, e6, hf⟩ := pq_bind hf
    refine pq_cV S (c_X7_w l g a q4.2 p1 0 q7 e6) vv_X7_90 hK hP rfl rfl rfl rfl rfl hl.1 (Nat.le_of_ble_eq_true rfl) dX7_isWindowSet_14 (by decide) (by decide) ⟨Nat.le_refl _, Nat.le_refl _⟩ ?_
    refine lv_iconst (v := 1) hx hb dX7_isWindowSet_17 (by decide) ?_
    refine lv_icmp_ne (tgt := 25) hx hb dX7_isWindowSet_18 (by decide) (fun h8 => ?_) (fun h8 => ?_)
    · replace hf := pq_ifn h8 hf
      refine lv_iconst (v := 0) hx hb dX7_isWindowSet_25 (by decide) ?_
      obtain ⟨h8, h9⟩ := pq_pair hf
      exact hend _ _ _ _ _ dX7_isWindowSet_26 rfl h8 (by rw [← h9]; exact hP) hS
    · replace hf := pq_ifp h8 hf
      refine lv_iconst (v := 1) hx hb dX7_isWindowSet_21 (by decide) ?_
      refine lv_goto (tgt := 26) hx hb dX7_isWindowSet_22 (by decide) ?_
      obtain ⟨h8, h9⟩ := pq_pair hf
      exact hend _ _ _ _ _ dX7_isWindowSet_26 rfl h8 (by rw [← h9]; exact hP) hS
def f_X7_isSet (T : ModS) (p1 : Int32) : Option (Int32 × (ModS)) :=
    (f_X7_isWindow p1).bind fun q2 =>
    if q2 = 0 then
      some (0, (1, T.2.1, T.2.2.1, T.2.2.2.1, T.2.2.2.2.1, T.2.2.2.2.2.1, T.2.2.2.2.2.2.1, T.2.2.2.2.2.2.2.1, T.2.2.2.2.2.2.2.2.1, T.2.2.2.2.2.2.2.2.2.1, T.2.2.2.2.2.2.2.2.2.2.1, T.2.2.2.2.2.2.2.2.2.2.2.1, T.2.2.2.2.2.2.2.2.2.2.2.2.1, T.2.2.2.2.2.2.2.2.2.2.2.2.2.1, T.2.2.2.2.2.2.2.2.2.2.2.2.2.2.1, T.2.2.2.2.2.2.2.2.2.2.2.2.2.2.2.1, T.2.2.2.2.2.2.2.2.2.2.2.2.2.2.2.2))
    else
      (f_X7_w T p1 0).bind fun q5 =>
      if q5 = 0 then
        some (0, (2, T.2.1, T.2.2.1, T.2.2.2.1, T.2.2.2.2.1, T.2.2.2.2.2.1, T.2.2.2.2.2.2.1, T.2.2.2.2.2.2.2.1, T.2.2.2.2.2.2.2.2.1, T.2.2.2.2.2.2.2.2.2.1, T.2.2.2.2.2.2.2.2.2.2.1, T.2.2.2.2.2.2.2.2.2.2.2.1, T.2.2.2.2.2.2.2.2.2.2.2.2.1, T.2.2.2.2.2.2.2.2.2.2.2.2.2.1, T.2.2.2.2.2.2.2.2.2.2.2.2.2.2.1, T.2.2.2.2.2.2.2.2.2.2.2.2.2.2.2.1, T.2.2.2.2.2.2.2.2.2.2.2.2.2.2.2.2))
      else
        some (1, (0, T.2.1, T.2.2.1, T.2.2.2.1, T.2.2.2.2.1, T.2.2.2.2.2.1, T.2.2.2.2.2.2.1, T.2.2.2.2.2.2.2.1, T.2.2.2.2.2.2.2.2.1, T.2.2.2.2.2.2.2.2.2.1, T.2.2.2.2.2.2.2.2.2.2.1, T.2.2.2.2.2.2.2.2.2.2.2.1, T.2.2.2.2.2.2.2.2.2.2.2.2.1, T.2.2.2.2.2.2.2.2.2.2.2.2.2.1, T.2.2.2.2.2.2.2.2.2.2.2.2.2.2.1, T.2.2.2.2.2.2.2.2.2.2.2.2.2.2.2.1, T.2.2.2.2.2.2.2.2.2.2.2.2.2.2.2.2))
set_option maxHeartbeats 4000000 in
set_option maxRecDepth 100000 in
theorem c_X7_isSet (l : Launch) (g : pq_g) (a : Nat → Nat) (T : ModS) (p1 : Int32) (r : Int32) (T1 : ModS) (hf : f_X7_isSet T p1 = some (r, T1)) : pq_Mi l yX7_isSet cX7_isSet 2 .boolean 3 g (modW g a T) [.ref (a 0), .int p1] r (modW g a T1) := by
  rw [f_X7_isSet] at hf
  refine pq_Mi.of (own := RX7) (by decide) rfl (Nat.le_of_ble_eq_true rfl) rfl ?_
  intro p e s m below meth c ls Q A S hP hK hD hS hA hl hend
  obtain ⟨hx, hb, hml, hown, hts⟩ := id S
  refine lv_aload_n hx hb dX7_isSet_0 rfl (lv_at hl 0 rfl) ?_
  refine lv_iload_n hx hb dX7_isSet_1 rfl (lv_at hl 1 rfl) ?_
  obtain ⟨q2, e1, hf⟩ := pq_bind hf
  refine pq_cS S (c_X7_isWindow l g p1 q2 e1) vs_X7_149 hK (hP.sub [] rfl) rfl rfl hl.1 (Nat.le_of_ble_eq_true rfl) dX7_isSet_2 (by decide) (by decide) ⟨Nat.le_refl _, Nat.le_refl _⟩ ?_
  refine lv_if_ne (tgt := 12) hx hb dX7_isSet_5 (by decide) (fun h3 => ?_) (fun h3 => ?_)
  · replace hf := pq_ifn h3 hf
    refine lv_aload_n hx hb dX7_isSet_12 rfl (lv_at hl 0 rfl) ?_
    refine lv_iload_n hx hb dX7_isSet_13 rfl (lv_at hl 1 rfl) ?_
    refine lv_iconst (v := 0) hx hb dX7_isSet_14 (by decide) ?_
    obtain ⟨q5, e4, hf⟩ := pq_bind hf
    refine pq_cV S (c_X7_w l g a T p1 0 q5 e4) vv_X7_90 hK hP rfl rfl rfl rfl rfl hl.1 (Nat.le_of_ble_eq_true rfl) dX7_isSet_15 (by decide) (by decide) ⟨Nat.le_refl _, Nat.le_refl _⟩ ?_
    refine lv_if_ne (tgt := 25) hx hb dX7_isSet_18 (by decide) (fun h6 => ?_) (fun h6 => ?_)
    · replace hf := pq_ifn h6 hf
      refine lv_iconst (v := 0) hx hb dX7_isSet_25 (by decide) ?_
      refine pq_putf S hK hP hD hS inX7 tyX7_ok nmX7 0 rfl rfl 0 (by decide) fl_X7_27 rfl rfl (ty := .int) rfl rfl rfl (Nat.le_of_ble_eq_true rfl) dX7_isSet_26 (fun H locs hP hS => ?_)
      replace hP : va_P g.1 pq_cl (modW g a (0, T.2.1, T.2.2.1, T.2.2.2.1, T.2.2.2.2.1, T.2.2.2.2.2.1, T.2.2.2.2.2.2.1, T.2.2.2.2.2.2.2.1, T.2.2.2.2.2.2.2.2.1, T.2.2.2.2.2.2.2.2.2.1, T.2.2.2.2.2.2.2.2.2.2.1, T.2.2.2.2.2.2.2.2.2.2.2.1, T.2.2.2.2.2.2.2.2.2.2.2.2.1, T.2.2.2.2.2.2.2.2.2.2.2.2.2.1, T.2.2.2.2.2.2.2.2.2.2.2.2.2.2.1, T.2.2.2.2.2.2.2.2.2.2.2.2.2.2.2.1, T.2.2.2.2.2.2.2.2.2.2.2.2.2.2.2.2)) H := hP
      replace hD : va_D A (modW g a (0, T.2.1, T.2.2.1, T.2.2.2.1, T.2.2.2.2.1, T.2.2.2.2.2.1, T.2.2.2.2.2.2.1, T.2.2.2.2.2.2.2.1, T.2.2.2.2.2.2.2.2.1, T.2.2.2.2.2.2.2.2.2.1, T.2.2.2.2.2.2.2.2.2.2.1, T.2.2.2.2.2.2.2.2.2.2.2.1, T.2.2.2.2.2.2.2.2.2.2.2.2.1, T.2.2.2.2.2.2.2.2.2.2.2.2.2.1, T.2.2.2.2.2.2.2.2.2.2.2.2.2.2.1, T.2.2.2.2.2.2.2.2.2.2.2.2.2.2.2.1, T.2.2.2.2.2.2.2.2.2.2.2.2.2.2.2.2)) := pq_adr hD (ad_X7 _ _)
      refine lv_aload_n hx hb dX7_isSet_29 rfl (lv_at hl 0 rfl) ?_
      refine pq_get S hK hP inX7 0 rfl rfl 0 (by decide) fl_X7_27 rfl (v := .int 0) rfl dX7_isSet_30 ?_
      refine lv_if_ne (tgt := 40) hx hb dX7_isSet_33 (by decide) (fun h9 => absurd h9 (by decide)) (fun _ => ?_)
      refine lv_iconst (v := 1) hx hb dX7_isSet_36 (by decide) ?_
      refine lv_goto (tgt := 41) hx hb dX7_isSet_37 (by decide) ?_
      obtain ⟨h8, h9⟩ := pq_pair hf
      exact hend _ _ _ _ _ dX7_isSet_41 rfl h8 (by rw [← h9]; exact hP) hS
    · replace hf := pq_ifp h6 hf
      refine lv_iconst (v := 2) hx hb dX7_isSet_21 (by decide) ?_
      refine lv_goto (tgt := 26) hx hb dX7_isSet_22 (by decide) ?_
      refine pq_putf S hK hP hD hS inX7 tyX7_ok nmX7 0 rfl rfl 0 (by decide) fl_X7_27 rfl rfl (ty := .int) rfl rfl rfl (Nat.le_of_ble_eq_true rfl) dX7_isSet_26 (fun H locs hP hS => ?_)
      replace hP : va_P g.1 pq_cl (modW g a (2, T.2.1, T.2.2.1, T.2.2.2.1, T.2.2.2.2.1, T.2.2.2.2.2.1, T.2.2.2.2.2.2.1, T.2.2.2.2.2.2.2.1, T.2.2.2.2.2.2.2.2.1, T.2.2.2.2.2.2.2.2.2.1, T.2.2.2.2.2.2.2.2.2.2.1, T.2.2.2.2.2.2.2.2.2.2.2.1, T.2.2.2.2.2.2.2.2.2.2.2.2.1, T.2.2.2.2.2.2.2.2.2.2.2.2.2.1, T.2.2.2.2.2.2.2.2.2.2.2.2.2.2.1, T.2.2.2.2.2.2.2.2.2.2.2.2.2.2.2.1, T.2.2.2.2.2.2.2.2.2.2.2.2.2.2.2.2)) H := hP
      replace hD : va_D A (modW g a (2, T.2.1, T.2.2.1, T.2.2.2.1, T.2.2.2.2.1, T.2.2.2.2.2.1, T.2.2.2.2.2.2.1, T.2.2.2.2.2.2.2.1, T.2.2.2.2.2.2.2.2.1, T.2.2.2.2.2.2.2.2.2.1, T.2.2.2.2.2.2.2.2.2.2.1, T.2.2.2.2.2.2.2.2.2.2.2.1, T.2.2.2.2.2.2.2.2.2.2.2.2.1, T.2.2.2.2.2.2.2.2.2.2.2.2.2.1, T.2.2.2.2.2.2.2.2.2.2.2.2.2.2.1, T.2.2.2.2.2.2.2.2.2.2.2.2.2.2.2.1, T.2.2.2.2.2.2.2.2.2.2.2.2.2.2.2.2)) := pq_adr hD (ad_X7 _ _)
      refine lv_aload_n hx hb dX7_isSet_29 rfl (lv_at hl 0 rfl) ?_
      refine pq_get S hK hP inX7 0 rfl rfl 0 (by decide) fl_X7_27 rfl (v := .int 2) rfl dX7_isSet_30 ?_
      refine lv_if_ne (tgt := 40) hx hb dX7_isSet_33 (by decide) (fun _ => ?_) (fun h9 => absurd h9 (by decide))
      refine lv_iconst (v := 0) hx hb dX7_isSet_40 (by decide) ?_
      obtain ⟨h8, h9⟩ := pq_pair hf
      exact hend _ _ _ _ _ dX7_isSet_41 rfl h8 (by rw [← h9]; exact hP) hS
  · replace hf := pq_ifp h3 hf
    refine lv_iconst (v := 1) hx hb dX7_isSet_8 (by decide) ?_
    refine lv_goto (tgt := 26) hx hb dX7_isSet_9 (by decide) ?_
    refine pq_putf S hK hP hD hS inX7 tyX7_ok nmX7 0 rfl rfl 0 (by decide) fl_X7_27 rfl rfl (ty := .int) rfl rfl rfl (Nat.le_of_ble_eq_true rfl) dX7_isSet_26 (fun H locs hP hS => ?_)
    replace hP : va_P g.1 pq_cl (modW g a (1, T.2.1, T.2.2.1, T.2.2.2.1, T.2.2.2.2.1, T.2.2.2.2.2.1, T.2.2.2.2.2.2.1, T.2.2.2.2.2.2.2.1, T.2.2.2.2.2.2.2.2.1, T.2.2.2.2.2.2.2.2.2.1, T.2.2.2.2.2.2.2.2.2.2.1, T.2.2.2.2.2.2.2.2.2.2.2.1, T.2.2.2.2.2.2.2.2.2.2.2.2.1, T.2.2.2.2.2.2.2.2.2.2.2.2.2.1, T.2.2.2.2.2.2.2.2.2.2.2.2.2.2.1, T.2.2.2.2.2.2.2.2.2.2.2.2.2.2.2.1, T.2.2.2.2.2.2.2.2.2.2.2.2.2.2.2.2)) H := hP
    replace hD : va_D A (modW g a (1, T.2.1, T.2.2.1, T.2.2.2.1, T.2.2.2.2.1, T.2.2.2.2.2.1, T.2.2.2.2.2.2.1, T.2.2.2.2.2.2.2.1, T.2.2.2.2.2.2.2.2.1, T.2.2.2.2.2.2.2.2.2.1, T.2.2.2.2.2.2.2.2.2.2.1, T.2.2.2.2.2.2.2.2.2.2.2.1, T.2.2.2.2.2.2.2.2.2.2.2.2.1, T.2.2.2.2.2.2.2.2.2.2.2.2.2.1, T.2.2.2.2.2.2.2.2.2.2.2.2.2.2.1, T.2.2.2.2.2.2.2.2.2.2.2.2.2.2.2.1, T.2.2.2.2.2.2.2.2.2.2.2.2.2.2.2.2)) := pq_adr hD (ad_X7 _ _)
    refine lv_aload_n hx hb dX7_isSet_29 rfl (lv_at hl 0 rfl) ?_
    refine pq_get S hK hP inX7 0 rfl rfl 0 (by decide) fl_X7_27 rfl (v := .int 1) rfl dX7_isSet_30 ?_
    refine lv_if_ne (tgt := 40) hx hb dX7_isSet_33 (by decide) (fun _ => ?_) (fun h9 => absurd h9 (by decide))
    refine lv_iconst (v := 0) hx hb dX7_isSet_40 (by decide) ?_
    obtain ⟨h8, h9⟩ := pq_pair hf
    exact hend _ _ _ _ _ dX7_isSet_41 rfl h8 (by rw [← h9]; exact hP) hS
def f_X7_pointsInWindow (T : ModS) (p1 : Int32) : Option (Int32 × (ModS)) :=
    (f_X7_isSet T p1).bind fun q2 =>
    if q2.1 = 0 then
      some (0, q2.2)
    else
      (f_X7_inWindow q2.2 p1).bind fun q5 =>
      some (q5, q2.2)
set_option maxHeartbeats 4000000 in
set_option maxRecDepth 100000 in
theorem c_X7_pointsInWindow (l : Launch) (g : pq_g) (a : Nat → Nat) (T : ModS) (p1 : Int32) (r : Int32) (T1 : ModS) (hf : f_X7_pointsInWindow T p1 = some (r, T1)) : pq_Mi l yX7_pointsInWindow cX7_pointsInWindow 2 .int 4 g (modW g a T) [.ref (a 0), .int p1] r (modW g a T1) := by
  rw [f_X7_pointsInWindow] at hf
  refine pq_Mi.of (own := RX7) (by decide) rfl (Nat.le_of_ble_eq_true rfl) rfl ?_
  intro p e s m below meth c ls Q A S hP hK hD hS hA hl hend
  obtain ⟨hx, hb, hml, hown, hts⟩ := id S
  refine lv_aload_n hx hb dX7_pointsInWindow_0 rfl (lv_at hl 0 rfl) ?_
  refine lv_iload_n hx hb dX7_pointsInWindow_1 rfl (lv_at hl 1 rfl) ?_
  obtain ⟨q2, e1, hf⟩ := pq_bind hf
  refine pq_cVi S (c_X7_isSet l g a T p1 q2.1 q2.2 e1) vv_X7_199 hK hP hD hS hA rfl rfl rfl rfl rfl hl.1 (Nat.le_of_ble_eq_true rfl) dX7_pointsInWindow_2 (by decide) (by decide) ⟨Nat.le_refl _, Nat.le_refl _⟩ (fun H9 locs hk hP1 hS => ?_)
  replace hP := hP1
  replace hP : va_P g.1 pq_cl (modW g a q2.2) H9 := hP
  replace hD : va_D A (modW g a q2.2) := pq_adr hD (ad_X7 _ _)
  clear hk
  generalize H9 = H at hP hS ⊢
  refine lv_if_eq (tgt := 16) hx hb dX7_pointsInWindow_5 (by decide) (fun h3 => ?_) (fun h3 => ?_)
  · replace hf := pq_ifp h3 hf
    refine lv_iconst (v := 0) hx hb dX7_pointsInWindow_16 (by decide) ?_
    obtain ⟨h8, h9⟩ := pq_pair hf
    exact hend _ _ _ _ _ dX7_pointsInWindow_17 rfl h8 (by rw [← h9]; exact hP) hS
  · replace hf := pq_ifn h3 hf
    refine lv_aload_n hx hb dX7_pointsInWindow_8 rfl (lv_at hl 0 rfl) ?_
    refine lv_iload_n hx hb dX7_pointsInWindow_9 rfl (lv_at hl 1 rfl) ?_
    obtain ⟨q5, e4, hf⟩ := pq_bind hf
    refine pq_cV S (c_X7_inWindow l g a q2.2 p1 q5 e4) vv_X7_97 hK hP rfl rfl rfl rfl rfl hl.1 (Nat.le_of_ble_eq_true rfl) dX7_pointsInWindow_10 (by decide) (by decide) ⟨Nat.le_refl _, Nat.le_refl _⟩ ?_
    refine lv_goto (tgt := 17) hx hb dX7_pointsInWindow_13 (by decide) ?_
    obtain ⟨h8, h9⟩ := pq_pair hf
    exact hend _ _ _ _ _ dX7_pointsInWindow_17 rfl h8 (by rw [← h9]; exact hP) hS
def f_X7_roomInWindow (T : ModS) (p1 : Int32) : Option (Int32 × (ModS)) :=
    (f_X7_isSet T p1).bind fun q2 =>
    if q2.1 = 0 then
      some (0, q2.2)
    else
      (f_X7_w q2.2 p1 4).bind fun q5 =>
      (f_X7_inWindow q2.2 p1).bind fun q7 =>
      some ((q5 - q7), q2.2)
set_option maxHeartbeats 4000000 in
set_option maxRecDepth 100000 in
theorem c_X7_roomInWindow (l : Launch) (g : pq_g) (a : Nat → Nat) (T : ModS) (p1 : Int32) (r : Int32) (T1 : ModS) (hf : f_X7_roomInWindow T p1 = some (r, T1)) : pq_Mi l yX7_roomInWindow cX7_roomInWindow 2 .int 4 g (modW g a T) [.ref (a 0), .int p1] r (modW g a T1) := by
  rw [f_X7_roomInWindow] at hf
  refine pq_Mi.of (own := RX7) (by decide) rfl (Nat.le_of_ble_eq_true rfl) rfl ?_
  intro p e s m below meth c ls Q A S hP hK hD hS hA hl hend
  obtain ⟨hx, hb, hml, hown, hts⟩ := id S
  refine lv_aload_n hx hb dX7_roomInWindow_0 rfl (lv_at hl 0 rfl) ?_
  refine lv_iload_n hx hb dX7_roomInWindow_1 rfl (lv_at hl 1 rfl) ?_
  obtain ⟨q2, e1, hf⟩ := pq_bind hf
  refine pq_cVi S (c_X7_isSet l g a T p1 q2.1 q2.2 e1) vv_X7_199 hK hP hD hS hA rfl rfl rfl rfl rfl hl.1 (Nat.le_of_ble_eq_true rfl) dX7_roomInWindow_2 (by decide) (by decide) ⟨Nat.le_refl _, Nat.le_refl _⟩ (fun H9 locs hk hP1 hS => ?_)
  replace hP := hP1
  replace hP : va_P g.1 pq_cl (modW g a q2.2) H9 := hP
  replace hD : va_D A (modW g a q2.2) := pq_adr hD (ad_X7 _ _)
  clear hk
  generalize H9 = H at hP hS ⊢
  refine lv_if_eq (tgt := 23) hx hb dX7_roomInWindow_5 (by decide) (fun h3 => ?_) (fun h3 => ?_)
  · replace hf := pq_ifp h3 hf
    refine lv_iconst (v := 0) hx hb dX7_roomInWindow_23 (by decide) ?_
    obtain ⟨h8, h9⟩ := pq_pair hf
    exact hend _ _ _ _ _ dX7_roomInWindow_24 rfl h8 (by rw [← h9]; exact hP) hS
  · replace hf := pq_ifn h3 hf
    refine lv_aload_n hx hb dX7_roomInWindow_8 rfl (lv_at hl 0 rfl) ?_
    refine lv_iload_n hx hb dX7_roomInWindow_9 rfl (lv_at hl 1 rfl) ?_
    refine lv_iconst (v := 4) hx hb dX7_roomInWindow_10 (by decide) ?_
    obtain ⟨q5, e4, hf⟩ := pq_bind hf
    refine pq_cV S (c_X7_w l g a q2.2 p1 4 q5 e4) vv_X7_90 hK hP rfl rfl rfl rfl rfl hl.1 (Nat.le_of_ble_eq_true rfl) dX7_roomInWindow_11 (by decide) (by decide) ⟨Nat.le_refl _, Nat.le_refl _⟩ ?_
    refine lv_aload_n hx hb dX7_roomInWindow_14 rfl (lv_at hl 0 rfl) ?_
    refine lv_iload_n hx hb dX7_roomInWindow_15 rfl (lv_at hl 1 rfl) ?_
    obtain ⟨q7, e6, hf⟩ := pq_bind hf
    refine pq_cV S (c_X7_inWindow l g a q2.2 p1 q7 e6) vv_X7_97 hK hP rfl rfl rfl rfl rfl hl.1 (Nat.le_of_ble_eq_true rfl) dX7_roomInWindow_16 (by decide) (by decide) ⟨Nat.le_refl _, Nat.le_refl _⟩ ?_
    refine lv_isub hx hb dX7_roomInWindow_19 ?_
    refine lv_goto (tgt := 24) hx hb dX7_roomInWindow_20 (by decide) ?_
    obtain ⟨h8, h9⟩ := pq_pair hf
    exact hend _ _ _ _ _ dX7_roomInWindow_24 rfl h8 (by rw [← h9]; exact hP) hS
def f_X7_windowKeyAt_c15 : Nat → ModS → Int32 → Int32 → Int32 → Int32 → Option (Int32 × (ModS))
  | 0, _, _, _, _, _ => none
  | n + 1, T, v1, v2, v3, v4 =>
    if (T.2.1 (0 : Int32).toNatClampNeg) ≤ v4 then
      some (0, (2, T.2.1, T.2.2.1, T.2.2.2.1, T.2.2.2.2.1, T.2.2.2.2.2.1, T.2.2.2.2.2.2.1, T.2.2.2.2.2.2.2.1, T.2.2.2.2.2.2.2.2.1, T.2.2.2.2.2.2.2.2.2.1, T.2.2.2.2.2.2.2.2.2.2.1, T.2.2.2.2.2.2.2.2.2.2.2.1, T.2.2.2.2.2.2.2.2.2.2.2.2.1, T.2.2.2.2.2.2.2.2.2.2.2.2.2.1, T.2.2.2.2.2.2.2.2.2.2.2.2.2.2.1, T.2.2.2.2.2.2.2.2.2.2.2.2.2.2.2.1, T.2.2.2.2.2.2.2.2.2.2.2.2.2.2.2.2))
    else
      (f_X7_key T v4).bind fun q3 =>
      (f_X7_priority T v4).bind fun q5 =>
      (f_X7_isWithin T v1 q3 q5).bind fun q7 =>
      if q7 = 0 then
        f_X7_windowKeyAt_c15 n T v1 v2 v3 (v4 + 1)
      else
        if v3 = v2 then
          (f_X7_key T v4).bind fun q11 =>
          some (q11, T)
        else
          f_X7_windowKeyAt_c15 n T v1 v2 (v3 + 1) (v4 + 1)
def f_X7_windowKeyAt (T : ModS) (p1 : Int32) (p2 : Int32) : Option (Int32 × (ModS)) :=
    (f_X7_isSet T p1).bind fun q13 =>
    if q13.1 = 0 then
      some (0, q13.2)
    else
      f_X7_windowKeyAt_c15 200 q13.2 p1 p2 0 0
set_option maxHeartbeats 4000000 in
set_option maxRecDepth 100000 in
theorem c_X7_windowKeyAt (l : Launch) (g : pq_g) (a : Nat → Nat) (T : ModS) (p1 : Int32) (p2 : Int32) (r : Int32) (T1 : ModS) (hf : f_X7_windowKeyAt T p1 p2 = some (r, T1)) : pq_Mi l yX7_windowKeyAt cX7_windowKeyAt 5 .int 4 g (modW g a T) [.ref (a 0), .int p1, .int p2] r (modW g a T1) := by
  rw [f_X7_windowKeyAt] at hf
  refine pq_Mi.of (own := RX7) (by decide) rfl (Nat.le_of_ble_eq_true rfl) rfl ?_
  intro p e s m below meth c ls Q A S hP hK hD hS hA hl hend
  obtain ⟨hx, hb, hml, hown, hts⟩ := id S
  have B15 : ∀ (n15 : Nat) (T : ModS) (v1 : Int32) (v2 : Int32) (v3 : Int32) (v4 : Int32) (ls : Array Slot) (H : Heap) (locs : List Loc), va_P g.1 pq_cl (modW g a T) H → va_D A (modW g a T) → va_S A s.heap H locs → lv_has ls 5 [(0, .ref (a 0)), (1, .int v1), (2, .int v2), (3, .int v3), (4, .int v4)] → f_X7_windowKeyAt_c15 n15 T v1 v2 v3 v4 = some (r, T1) → W p l e (pq_rm 4 0 0) s m ([.ref (a 0), .int p1, .int p2] : List Value).toArray below meth c H locs 0 0 Q (F0 m 15 ls []) := by
    intro n15
    induction n15 with
    | zero =>
      intro T v1 v2 v3 v4 ls H locs hP hD hS hl hf
      exact absurd hf (by simp [f_X7_windowKeyAt_c15])
    | succ n15 ih15 =>
      intro T v1 v2 v3 v4 ls H locs hP hD hS hl hf
      rw [f_X7_windowKeyAt_c15] at hf
      refine lv_iload hx hb dX7_windowKeyAt_15 (lv_at hl 4 rfl) ?_
      refine lv_aload_n hx hb dX7_windowKeyAt_17 rfl (lv_at hl 0 rfl) ?_
      refine pq_get S hK hP inX7 0 rfl rfl 1 (by decide) fl_X7_9 rfl (v := .ref (a 1)) rfl dX7_windowKeyAt_18 ?_
      refine lv_iconst (v := 0) hx hb dX7_windowKeyAt_21 (by decide) ?_
      refine va_iald hx hb hK.1 hP 1 0 rfl rfl (show ¬ ((0 : Int32) < 0 ∨ 770 ≤ (0 : Int32).toNatClampNeg) by decide) dX7_windowKeyAt_22 ?_
      refine lv_icmp_ge (tgt := 70) hx hb dX7_windowKeyAt_23 (by decide) (fun h1 => ?_) (fun h1 => ?_)
      · replace hf := pq_ifp h1 hf
        refine lv_aload_n hx hb dX7_windowKeyAt_70 rfl (lv_at hl 0 rfl) ?_
        refine lv_iconst (v := 2) hx hb dX7_windowKeyAt_71 (by decide) ?_
        refine pq_putf S hK hP hD hS inX7 tyX7_ok nmX7 0 rfl rfl 0 (by decide) fl_X7_27 rfl rfl (ty := .int) rfl rfl rfl (Nat.le_of_ble_eq_true rfl) dX7_windowKeyAt_72 (fun H locs hP hS => ?_)
        replace hP : va_P g.1 pq_cl (modW g a (2, T.2.1, T.2.2.1, T.2.2.2.1, T.2.2.2.2.1, T.2.2.2.2.2.1, T.2.2.2.2.2.2.1, T.2.2.2.2.2.2.2.1, T.2.2.2.2.2.2.2.2.1, T.2.2.2.2.2.2.2.2.2.1, T.2.2.2.2.2.2.2.2.2.2.1, T.2.2.2.2.2.2.2.2.2.2.2.1, T.2.2.2.2.2.2.2.2.2.2.2.2.1, T.2.2.2.2.2.2.2.2.2.2.2.2.2.1, T.2.2.2.2.2.2.2.2.2.2.2.2.2.2.1, T.2.2.2.2.2.2.2.2.2.2.2.2.2.2.2.1, T.2.2.2.2.2.2.2.2.2.2.2.2.2.2.2.2)) H := hP
        replace hD : va_D A (modW g a (2, T.2.1, T.2.2.1, T.2.2.2.1, T.2.2.2.2.1, T.2.2.2.2.2.1, T.2.2.2.2.2.2.1, T.2.2.2.2.2.2.2.1, T.2.2.2.2.2.2.2.2.1, T.2.2.2.2.2.2.2.2.2.1, T.2.2.2.2.2.2.2.2.2.2.1, T.2.2.2.2.2.2.2.2.2.2.2.1, T.2.2.2.2.2.2.2.2.2.2.2.2.1, T.2.2.2.2.2.2.2.2.2.2.2.2.2.1, T.2.2.2.2.2.2.2.2.2.2.2.2.2.2.1, T.2.2.2.2.2.2.2.2.2.2.2.2.2.2.2.1, T.2.2.2.2.2.2.2.2.2.2.2.2.2.2.2.2)) := pq_adr hD (ad_X7 _ _)
        refine lv_iconst (v := 0) hx hb dX7_windowKeyAt_75 (by decide) ?_
        obtain ⟨h8, h9⟩ := pq_pair hf
        exact hend _ _ _ _ _ dX7_windowKeyAt_76 rfl h8 (by rw [← h9]; exact hP) hS
      · replace hf := pq_ifn h1 hf
        refine lv_aload_n hx hb dX7_windowKeyAt_26 rfl (lv_at hl 0 rfl) ?_
        refine lv_iload_n hx hb dX7_windowKeyAt_27 rfl (lv_at hl 1 rfl) ?_
        refine lv_aload_n hx hb dX7_windowKeyAt_28 rfl (lv_at hl 0 rfl) ?_
        refine lv_iload hx hb dX7_windowKeyAt_29 (lv_at hl 4 rfl) ?_
        obtain ⟨q3, e2, hf⟩ := pq_bind hf
        refine pq_cV S (c_X7_key l g a T v4 q3 e2) vv_X7_57 hK hP rfl rfl rfl rfl rfl hl.1 (Nat.le_of_ble_eq_true rfl) dX7_windowKeyAt_31 (by decide) (by decide) ⟨Nat.le_refl _, Nat.le_refl _⟩ ?_
        refine lv_aload_n hx hb dX7_windowKeyAt_34 rfl (lv_at hl 0 rfl) ?_
        refine lv_iload hx hb dX7_windowKeyAt_35 (lv_at hl 4 rfl) ?_
        obtain ⟨q5, e4, hf⟩ := pq_bind hf
        refine pq_cV S (c_X7_priority l g a T v4 q5 e4) vv_X7_64 hK hP rfl rfl rfl rfl rfl hl.1 (Nat.le_of_ble_eq_true rfl) dX7_windowKeyAt_37 (by decide) (by decide) ⟨Nat.le_refl _, Nat.le_refl _⟩ ?_
        obtain ⟨q7, e6, hf⟩ := pq_bind hf
        refine pq_cV S (c_X7_isWithin l g a T v1 q3 q5 q7 e6) vv_X7_94 hK hP rfl rfl rfl rfl rfl hl.1 (Nat.le_of_ble_eq_true rfl) dX7_windowKeyAt_40 (by decide) (by decide) ⟨Nat.le_refl _, Nat.le_refl _⟩ ?_
        refine lv_if_ne (tgt := 49) hx hb dX7_windowKeyAt_43 (by decide) (fun h8 => ?_) (fun h8 => ?_)
        · replace hf := pq_ifn h8 hf
          refine lv_iload_n hx hb dX7_windowKeyAt_49 rfl (lv_at hl 3 rfl) ?_
          refine lv_iload_n hx hb dX7_windowKeyAt_50 rfl (lv_at hl 2 rfl) ?_
          refine lv_icmp_ne (tgt := 61) hx hb dX7_windowKeyAt_51 (by decide) (fun h9 => ?_) (fun h9 => ?_)
          · replace hf := pq_ifn h9 hf
            refine lv_iinc (v := (v3 + 1)) (lv' := [(3, .int (v3 + 1)), (0, .ref (a 0)), (1, .int v1), (2, .int v2), (4, .int v4)]) hx hb dX7_windowKeyAt_61 hl (k := 3) rfl rfl (by decide) rfl (fun ls hl => ?_)
            refine lv_iinc (v := (v4 + 1)) (lv' := [(4, .int (v4 + 1)), (3, .int (v3 + 1)), (0, .ref (a 0)), (1, .int v1), (2, .int v2)]) hx hb dX7_windowKeyAt_64 hl (k := 4) rfl rfl (by decide) rfl (fun ls hl => ?_)
            refine lv_goto (tgt := 15) hx hb dX7_windowKeyAt_67 (by decide) ?_
            exact ih15 T v1 v2 (v3 + 1) (v4 + 1) ls _ _ hP hD hS (lv_sub hl [2, 3, 4, 1, 0] rfl) hf
          · replace hf := pq_ifp h9 hf
            refine lv_aload_n hx hb dX7_windowKeyAt_54 rfl (lv_at hl 0 rfl) ?_
            refine lv_iload hx hb dX7_windowKeyAt_55 (lv_at hl 4 rfl) ?_
            obtain ⟨q11, e10, hf⟩ := pq_bind hf
            refine pq_cV S (c_X7_key l g a T v4 q11 e10) vv_X7_57 hK hP rfl rfl rfl rfl rfl hl.1 (Nat.le_of_ble_eq_true rfl) dX7_windowKeyAt_57 (by decide) (by decide) ⟨Nat.le_refl _, Nat.le_refl _⟩ ?_
            obtain ⟨h8, h9⟩ := pq_pair hf
            exact hend _ _ _ _ _ dX7_windowKeyAt_60 rfl h8 (by rw [← h9]; exact hP) hS
        · replace hf := pq_ifp h8 hf
          refine lv_goto (tgt := 64) hx hb dX7_windowKeyAt_46 (by decide) ?_
          refine lv_iinc (v := (v4 + 1)) (lv' := [(4, .int (v4 + 1)), (0, .ref (a 0)), (1, .int v1), (2, .int v2), (3, .int v3)]) hx hb dX7_windowKeyAt_64 hl (k := 4) rfl rfl (by decide) rfl (fun ls hl => ?_)
          refine lv_goto (tgt := 15) hx hb dX7_windowKeyAt_67 (by decide) ?_
          exact ih15 T v1 v2 v3 (v4 + 1) ls _ _ hP hD hS (lv_sub hl [1, 2, 3, 4, 0] rfl) hf
  refine lv_aload_n hx hb dX7_windowKeyAt_0 rfl (lv_at hl 0 rfl) ?_
  refine lv_iload_n hx hb dX7_windowKeyAt_1 rfl (lv_at hl 1 rfl) ?_
  obtain ⟨q13, e12, hf⟩ := pq_bind hf
  refine pq_cVi S (c_X7_isSet l g a T p1 q13.1 q13.2 e12) vv_X7_199 hK hP hD hS hA rfl rfl rfl rfl rfl hl.1 (Nat.le_of_ble_eq_true rfl) dX7_windowKeyAt_2 (by decide) (by decide) ⟨Nat.le_refl _, Nat.le_refl _⟩ (fun H9 locs hk hP1 hS => ?_)
  replace hP := hP1
  replace hP : va_P g.1 pq_cl (modW g a q13.2) H9 := hP
  replace hD : va_D A (modW g a q13.2) := pq_adr hD (ad_X7 _ _)
  clear hk
  generalize H9 = H at hP hS ⊢
  refine lv_if_ne (tgt := 10) hx hb dX7_windowKeyAt_5 (by decide) (fun h14 => ?_) (fun h14 => ?_)
  · replace hf := pq_ifn h14 hf
    refine lv_iconst (v := 0) hx hb dX7_windowKeyAt_10 (by decide) ?_
    refine lv_istore_n (lv' := [(3, .int 0), (0, .ref (a 0)), (1, .int p1), (2, .int p2)]) hx hb dX7_windowKeyAt_11 rfl hl (by decide) rfl (fun ls hl => ?_)
    refine lv_iconst (v := 0) hx hb dX7_windowKeyAt_12 (by decide) ?_
    refine lv_istore (lv' := [(4, .int 0), (3, .int 0), (0, .ref (a 0)), (1, .int p1), (2, .int p2)]) hx hb dX7_windowKeyAt_13 hl (by decide) rfl (fun ls hl => ?_)
    exact B15 200 q13.2 p1 p2 0 0 ls _ _ hP hD hS (lv_sub hl [2, 3, 4, 1, 0] rfl) hf
  · replace hf := pq_ifp h14 hf
    refine lv_iconst (v := 0) hx hb dX7_windowKeyAt_8 (by decide) ?_
    obtain ⟨h8, h9⟩ := pq_pair hf
    exact hend _ _ _ _ _ dX7_windowKeyAt_9 rfl h8 (by rw [← h9]; exact hP) hS
def f_X7_canInsert_c49 : Nat → ModS → Int32 → Int32 → Int32 → Option (Int32 × (ModS))
  | 0, _, _, _, _ => none
  | n + 1, T, v1, v2, v3 =>
    if 4 ≤ v3 then
      some (1, T)
    else
      (f_X7_isWithin T v3 v1 v2).bind fun q3 =>
      if q3 = 0 then
        f_X7_canInsert_c49 n T v1 v2 (v3 + 1)
      else
        (f_X7_inWindow T v3).bind fun q6 =>
        (f_X7_w T v3 4).bind fun q8 =>
        if q6 = q8 then
          some (0, T)
        else
          f_X7_canInsert_c49 n T v1 v2 (v3 + 1)
def f_X7_canInsert (T : ModS) (p1 : Int32) (p2 : Int32) : Option (Int32 × (ModS)) :=
    (f_X7_isNumber p1).bind fun q11 =>
    if q11 = 0 then
      (f_X7_isFine T 0).bind fun q14 =>
      if q14.1 = 0 then
        some (0, q14.2)
      else
        if (q14.2.2.1 (0 : Int32).toNatClampNeg) = 24 then
          some (0, q14.2)
        else
          (f_X7_find q14.2 p1).bind fun q18 =>
          if q18 < 0 then
            f_X7_canInsert_c49 200 q14.2 p1 p2 0
          else
            some (0, q14.2)
    else
      (f_X7_isNumber p2).bind fun q21 =>
      if q21 = 0 then
        (f_X7_isFine T 0).bind fun q24 =>
        if q24.1 = 0 then
          some (0, q24.2)
        else
          if (q24.2.2.1 (0 : Int32).toNatClampNeg) = 24 then
            some (0, q24.2)
          else
            (f_X7_find q24.2 p1).bind fun q28 =>
            if q28 < 0 then
              f_X7_canInsert_c49 200 q24.2 p1 p2 0
            else
              some (0, q24.2)
      else
        (f_X7_isFine T 1).bind fun q31 =>
        if q31.1 = 0 then
          some (0, q31.2)
        else
          if (q31.2.2.1 (0 : Int32).toNatClampNeg) = 24 then
            some (0, q31.2)
          else
            (f_X7_find q31.2 p1).bind fun q35 =>
            if q35 < 0 then
              f_X7_canInsert_c49 200 q31.2 p1 p2 0
            else
              some (0, q31.2)
set_option maxHeartbeats 4000000 in
set_option maxRecDepth 100000 in
theorem c_X7_canInsert (l : Launch) (g : pq_g) (a : Nat → Nat) (T : ModS) (p1 : Int32) (p2 : Int32) (r : Int32) (T1 : ModS) (hf : f_X7_canInsert T p1 p2 = some (r, T1)) : pq_Mi l yX7_canInsert cX7_canInsert 4 .boolean 4 g (modW g a T) [.ref (a 0), .int p1, .int p2] r (modW g a T1) := by
  rw [f_X7_canInsert] at hf
  refine pq_Mi.of (own := RX7) (by decide) rfl (Nat.le_of_ble_eq_true rfl) rfl ?_
  intro p e s m below meth c ls Q A S hP hK hD hS hA hl hend
  obtain ⟨hx, hb, hml, hown, hts⟩ := id S
  have B49 : ∀ (n49 : Nat) (T : ModS) (v1 : Int32) (v2 : Int32) (v3 : Int32) (ls : Array Slot) (H : Heap) (locs : List Loc), va_P g.1 pq_cl (modW g a T) H → va_D A (modW g a T) → va_S A s.heap H locs → lv_has ls 4 [(0, .ref (a 0)), (1, .int v1), (2, .int v2), (3, .int v3)] → f_X7_canInsert_c49 n49 T v1 v2 v3 = some (r, T1) → W p l e (pq_rm 4 0 0) s m ([.ref (a 0), .int p1, .int p2] : List Value).toArray below meth c H locs 0 0 Q (F0 m 49 ls []) := by
    intro n49
    induction n49 with
    | zero =>
      intro T v1 v2 v3 ls H locs hP hD hS hl hf
      exact absurd hf (by simp [f_X7_canInsert_c49])
    | succ n49 ih49 =>
      intro T v1 v2 v3 ls H locs hP hD hS hl hf
      rw [f_X7_canInsert_c49] at hf
      refine lv_iload_n hx hb dX7_canInsert_49 rfl (lv_at hl 3 rfl) ?_
      refine lv_iconst (v := 4) hx hb dX7_canInsert_50 (by decide) ?_
      refine lv_icmp_ge (tgt := 86) hx hb dX7_canInsert_51 (by decide) (fun h1 => ?_) (fun h1 => ?_)
      · replace hf := pq_ifp h1 hf
        refine lv_iconst (v := 1) hx hb dX7_canInsert_86 (by decide) ?_
        obtain ⟨h8, h9⟩ := pq_pair hf
        exact hend _ _ _ _ _ dX7_canInsert_87 rfl h8 (by rw [← h9]; exact hP) hS
      · replace hf := pq_ifn h1 hf
        refine lv_aload_n hx hb dX7_canInsert_54 rfl (lv_at hl 0 rfl) ?_
        refine lv_iload_n hx hb dX7_canInsert_55 rfl (lv_at hl 3 rfl) ?_
        refine lv_iload_n hx hb dX7_canInsert_56 rfl (lv_at hl 1 rfl) ?_
        refine lv_iload_n hx hb dX7_canInsert_57 rfl (lv_at hl 2 rfl) ?_
        obtain ⟨q3, e2, hf⟩ := pq_bind hf
        refine pq_cV S (c_X7_isWithin l g a T v3 v1 v2 q3 e2) vv_X7_94 hK hP rfl rfl rfl rfl rfl hl.1 (Nat.le_of_ble_eq_true rfl) dX7_canInsert_58 (by decide) (by decide) ⟨Nat.le_refl _, Nat.le_refl _⟩ ?_
        refine lv_if_eq (tgt := 80) hx hb dX7_canInsert_61 (by decide) (fun h4 => ?_) (fun h4 => ?_)
        · replace hf := pq_ifp h4 hf
          refine lv_iinc (v := (v3 + 1)) (lv' := [(3, .int (v3 + 1)), (0, .ref (a 0)), (1, .int v1), (2, .int v2)]) hx hb dX7_canInsert_80 hl (k := 3) rfl rfl (by decide) rfl (fun ls hl => ?_)
          refine lv_goto (tgt := 49) hx hb dX7_canInsert_83 (by decide) ?_
          exact ih49 T v1 v2 (v3 + 1) ls _ _ hP hD hS (lv_sub hl [1, 2, 3, 0] rfl) hf
        · replace hf := pq_ifn h4 hf
          refine lv_aload_n hx hb dX7_canInsert_64 rfl (lv_at hl 0 rfl) ?_
          refine lv_iload_n hx hb dX7_canInsert_65 rfl (lv_at hl 3 rfl) ?_
          obtain ⟨q6, e5, hf⟩ := pq_bind hf
          refine pq_cV S (c_X7_inWindow l g a T v3 q6 e5) vv_X7_97 hK hP rfl rfl rfl rfl rfl hl.1 (Nat.le_of_ble_eq_true rfl) dX7_canInsert_66 (by decide) (by decide) ⟨Nat.le_refl _, Nat.le_refl _⟩ ?_
          refine lv_aload_n hx hb dX7_canInsert_69 rfl (lv_at hl 0 rfl) ?_
          refine lv_iload_n hx hb dX7_canInsert_70 rfl (lv_at hl 3 rfl) ?_
          refine lv_iconst (v := 4) hx hb dX7_canInsert_71 (by decide) ?_
          obtain ⟨q8, e7, hf⟩ := pq_bind hf
          refine pq_cV S (c_X7_w l g a T v3 4 q8 e7) vv_X7_90 hK hP rfl rfl rfl rfl rfl hl.1 (Nat.le_of_ble_eq_true rfl) dX7_canInsert_72 (by decide) (by decide) ⟨Nat.le_refl _, Nat.le_refl _⟩ ?_
          refine lv_icmp_ne (tgt := 80) hx hb dX7_canInsert_75 (by decide) (fun h9 => ?_) (fun h9 => ?_)
          · replace hf := pq_ifn h9 hf
            refine lv_iinc (v := (v3 + 1)) (lv' := [(3, .int (v3 + 1)), (0, .ref (a 0)), (1, .int v1), (2, .int v2)]) hx hb dX7_canInsert_80 hl (k := 3) rfl rfl (by decide) rfl (fun ls hl => ?_)
            refine lv_goto (tgt := 49) hx hb dX7_canInsert_83 (by decide) ?_
            exact ih49 T v1 v2 (v3 + 1) ls _ _ hP hD hS (lv_sub hl [1, 2, 3, 0] rfl) hf
          · replace hf := pq_ifp h9 hf
            refine lv_iconst (v := 0) hx hb dX7_canInsert_78 (by decide) ?_
            obtain ⟨h8, h9⟩ := pq_pair hf
            exact hend _ _ _ _ _ dX7_canInsert_79 rfl h8 (by rw [← h9]; exact hP) hS
  refine lv_aload_n hx hb dX7_canInsert_0 rfl (lv_at hl 0 rfl) ?_
  refine lv_iload_n hx hb dX7_canInsert_1 rfl (lv_at hl 1 rfl) ?_
  obtain ⟨q11, e10, hf⟩ := pq_bind hf
  refine pq_cS S (c_X7_isNumber l g p1 q11 e10) vs_X7_108 hK (hP.sub [] rfl) rfl rfl hl.1 (Nat.le_of_ble_eq_true rfl) dX7_canInsert_2 (by decide) (by decide) ⟨Nat.le_refl _, Nat.le_refl _⟩ ?_
  refine lv_if_eq (tgt := 19) hx hb dX7_canInsert_5 (by decide) (fun h12 => ?_) (fun h12 => ?_)
  · replace hf := pq_ifp h12 hf
    refine lv_iconst (v := 0) hx hb dX7_canInsert_19 (by decide) ?_
    obtain ⟨q14, e13, hf⟩ := pq_bind hf
    refine pq_cVi S (c_X7_isFine l g a T 0 q14.1 q14.2 e13) vv_X7_53 hK hP hD hS hA rfl rfl rfl rfl rfl hl.1 (Nat.le_of_ble_eq_true rfl) dX7_canInsert_20 (by decide) (by decide) ⟨Nat.le_refl _, Nat.le_refl _⟩ (fun H9 locs hk hP1 hS => ?_)
    replace hP := hP1
    replace hP : va_P g.1 pq_cl (modW g a q14.2) H9 := hP
    replace hD : va_D A (modW g a q14.2) := pq_adr hD (ad_X7 _ _)
    clear hk
    generalize H9 = H at hP hS ⊢
    refine lv_if_eq (tgt := 45) hx hb dX7_canInsert_23 (by decide) (fun h15 => ?_) (fun h15 => ?_)
    · replace hf := pq_ifp h15 hf
      refine lv_iconst (v := 0) hx hb dX7_canInsert_45 (by decide) ?_
      obtain ⟨h8, h9⟩ := pq_pair hf
      exact hend _ _ _ _ _ dX7_canInsert_46 rfl h8 (by rw [← h9]; exact hP) hS
    · replace hf := pq_ifn h15 hf
      refine lv_aload_n hx hb dX7_canInsert_26 rfl (lv_at hl 0 rfl) ?_
      refine pq_get S hK hP inX7 0 rfl rfl 1 (by decide) fl_X7_9 rfl (v := .ref (a 1)) rfl dX7_canInsert_27 ?_
      refine lv_iconst (v := 0) hx hb dX7_canInsert_30 (by decide) ?_
      refine va_iald hx hb hK.1 hP 1 0 rfl rfl (show ¬ ((0 : Int32) < 0 ∨ 770 ≤ (0 : Int32).toNatClampNeg) by decide) dX7_canInsert_31 ?_
      refine lv_bipush (v := 24) hx hb dX7_canInsert_32 (by decide) ?_
      refine lv_icmp_eq (tgt := 45) hx hb dX7_canInsert_34 (by decide) (fun h16 => ?_) (fun h16 => ?_)
      · replace hf := pq_ifp h16 hf
        refine lv_iconst (v := 0) hx hb dX7_canInsert_45 (by decide) ?_
        obtain ⟨h8, h9⟩ := pq_pair hf
        exact hend _ _ _ _ _ dX7_canInsert_46 rfl h8 (by rw [← h9]; exact hP) hS
      · replace hf := pq_ifn h16 hf
        refine lv_aload_n hx hb dX7_canInsert_37 rfl (lv_at hl 0 rfl) ?_
        refine lv_iload_n hx hb dX7_canInsert_38 rfl (lv_at hl 1 rfl) ?_
        obtain ⟨q18, e17, hf⟩ := pq_bind hf
        refine pq_cV S (c_X7_find l g a q14.2 p1 q18 e17) vv_X7_112 hK hP rfl rfl rfl rfl rfl hl.1 (Nat.le_of_ble_eq_true rfl) dX7_canInsert_39 (by decide) (by decide) ⟨Nat.le_refl _, Nat.le_refl _⟩ ?_
        refine lv_if_lt (tgt := 47) hx hb dX7_canInsert_42 (by decide) (fun h19 => ?_) (fun h19 => ?_)
        · replace hf := pq_ifp h19 hf
          refine lv_iconst (v := 0) hx hb dX7_canInsert_47 (by decide) ?_
          refine lv_istore_n (lv' := [(3, .int 0), (0, .ref (a 0)), (1, .int p1), (2, .int p2)]) hx hb dX7_canInsert_48 rfl hl (by decide) rfl (fun ls hl => ?_)
          exact B49 200 q14.2 p1 p2 0 ls _ _ hP hD hS (lv_sub hl [1, 2, 3, 0] rfl) hf
        · replace hf := pq_ifn h19 hf
          refine lv_iconst (v := 0) hx hb dX7_canInsert_45 (by decide) ?_
          obtain ⟨h8, h9⟩ := pq_pair hf
          exact hend _ _ _ _ _ dX7_canInsert_46 rfl h8 (by rw [← h9]; exact hP) hS
  · replace hf := pq_ifn h12 hf
    refine lv_iload_n hx hb dX7_canInsert_8 rfl (lv_at hl 2 rfl) ?_
    obtain ⟨q21, e20, hf⟩ := pq_bind hf
    refine pq_cS S (c_X7_isNumber l g p2 q21 e20) vs_X7_108 hK (hP.sub [] rfl) rfl rfl hl.1 (Nat.le_of_ble_eq_true rfl) dX7_canInsert_9 (by decide) (by decide) ⟨Nat.le_refl _, Nat.le_refl _⟩ ?_
    refine lv_if_eq (tgt := 19) hx hb dX7_canInsert_12 (by decide) (fun h22 => ?_) (fun h22 => ?_)
    · replace hf := pq_ifp h22 hf
      refine lv_iconst (v := 0) hx hb dX7_canInsert_19 (by decide) ?_
      obtain ⟨q24, e23, hf⟩ := pq_bind hf
      refine pq_cVi S (c_X7_isFine l g a T 0 q24.1 q24.2 e23) vv_X7_53 hK hP hD hS hA rfl rfl rfl rfl rfl hl.1 (Nat.le_of_ble_eq_true rfl) dX7_canInsert_20 (by decide) (by decide) ⟨Nat.le_refl _, Nat.le_refl _⟩ (fun H9 locs hk hP1 hS => ?_)
      replace hP := hP1
      replace hP : va_P g.1 pq_cl (modW g a q24.2) H9 := hP
      replace hD : va_D A (modW g a q24.2) := pq_adr hD (ad_X7 _ _)
      clear hk
      generalize H9 = H at hP hS ⊢
      refine lv_if_eq (tgt := 45) hx hb dX7_canInsert_23 (by decide) (fun h25 => ?_) (fun h25 => ?_)
      · replace hf := pq_ifp h25 hf
        refine lv_iconst (v := 0) hx hb dX7_canInsert_45 (by decide) ?_
        obtain ⟨h8, h9⟩ := pq_pair hf
        exact hend _ _ _ _ _ dX7_canInsert_46 rfl h8 (by rw [← h9]; exact hP) hS
      · replace hf := pq_ifn h25 hf
        refine lv_aload_n hx hb dX7_canInsert_26 rfl (lv_at hl 0 rfl) ?_
        refine pq_get S hK hP inX7 0 rfl rfl 1 (by decide) fl_X7_9 rfl (v := .ref (a 1)) rfl dX7_canInsert_27 ?_
        refine lv_iconst (v := 0) hx hb dX7_canInsert_30 (by decide) ?_
        refine va_iald hx hb hK.1 hP 1 0 rfl rfl (show ¬ ((0 : Int32) < 0 ∨ 770 ≤ (0 : Int32).toNatClampNeg) by decide) dX7_canInsert_31 ?_
        refine lv_bipush (v := 24) hx hb dX7_canInsert_32 (by decide) ?_
        refine lv_icmp_eq (tgt := 45) hx hb dX7_canInsert_34 (by decide) (fun h26 => ?_) (fun h26 => ?_)
        · replace hf := pq_ifp h26 hf
          refine lv_iconst (v := 0) hx hb dX7_canInsert_45 (by decide) ?_
          obtain ⟨h8, h9⟩ := pq_pair hf
          exact hend _ _ _ _ _ dX7_canInsert_46 rfl h8 (by rw [← h9]; exact hP) hS
        · replace hf := pq_ifn h26 hf
          refine lv_aload_n hx hb dX7_canInsert_37 rfl (lv_at hl 0 rfl) ?_
          refine lv_iload_n hx hb dX7_canInsert_38 rfl (lv_at hl 1 rfl) ?_
          obtain ⟨q28, e27, hf⟩ := pq_bind hf
          refine pq_cV S (c_X7_find l g a q24.2 p1 q28 e27) vv_X7_112 hK hP rfl rfl rfl rfl rfl hl.1 (Nat.le_of_ble_eq_true rfl) dX7_canInsert_39 (by decide) (by decide) ⟨Nat.le_refl _, Nat.le_refl _⟩ ?_
          refine lv_if_lt (tgt := 47) hx hb dX7_canInsert_42 (by decide) (fun h29 => ?_) (fun h29 => ?_)
          · replace hf := pq_ifp h29 hf
            refine lv_iconst (v := 0) hx hb dX7_canInsert_47 (by decide) ?_
            refine lv_istore_n (lv' := [(3, .int 0), (0, .ref (a 0)), (1, .int p1), (2, .int p2)]) hx hb dX7_canInsert_48 rfl hl (by decide) rfl (fun ls hl => ?_)
            exact B49 200 q24.2 p1 p2 0 ls _ _ hP hD hS (lv_sub hl [1, 2, 3, 0] rfl) hf
          · replace hf := pq_ifn h29 hf
            refine lv_iconst (v := 0) hx hb dX7_canInsert_45 (by decide) ?_
            obtain ⟨h8, h9⟩ := pq_pair hf
            exact hend _ _ _ _ _ dX7_canInsert_46 rfl h8 (by rw [← h9]; exact hP) hS
    · replace hf := pq_ifn h22 hf
      refine lv_iconst (v := 1) hx hb dX7_canInsert_15 (by decide) ?_
      refine lv_goto (tgt := 20) hx hb dX7_canInsert_16 (by decide) ?_
      obtain ⟨q31, e30, hf⟩ := pq_bind hf
      refine pq_cVi S (c_X7_isFine l g a T 1 q31.1 q31.2 e30) vv_X7_53 hK hP hD hS hA rfl rfl rfl rfl rfl hl.1 (Nat.le_of_ble_eq_true rfl) dX7_canInsert_20 (by decide) (by decide) ⟨Nat.le_refl _, Nat.le_refl _⟩ (fun H9 locs hk hP1 hS => ?_)
      replace hP := hP1
      replace hP : va_P g.1 pq_cl (modW g a q31.2) H9 := hP
      replace hD : va_D A (modW g a q31.2) := pq_adr hD (ad_X7 _ _)
      clear hk
      generalize H9 = H at hP hS ⊢
      refine lv_if_eq (tgt := 45) hx hb dX7_canInsert_23 (by decide) (fun h32 => ?_) (fun h32 => ?_)
      · replace hf := pq_ifp h32 hf
        refine lv_iconst (v := 0) hx hb dX7_canInsert_45 (by decide) ?_
        obtain ⟨h8, h9⟩ := pq_pair hf
        exact hend _ _ _ _ _ dX7_canInsert_46 rfl h8 (by rw [← h9]; exact hP) hS
      · replace hf := pq_ifn h32 hf
        refine lv_aload_n hx hb dX7_canInsert_26 rfl (lv_at hl 0 rfl) ?_
        refine pq_get S hK hP inX7 0 rfl rfl 1 (by decide) fl_X7_9 rfl (v := .ref (a 1)) rfl dX7_canInsert_27 ?_
        refine lv_iconst (v := 0) hx hb dX7_canInsert_30 (by decide) ?_
        refine va_iald hx hb hK.1 hP 1 0 rfl rfl (show ¬ ((0 : Int32) < 0 ∨ 770 ≤ (0 : Int32).toNatClampNeg) by decide) dX7_canInsert_31 ?_
        refine lv_bipush (v := 24) hx hb dX7_canInsert_32 (by decide) ?_
        refine lv_icmp_eq (tgt := 45) hx hb dX7_canInsert_34 (by decide) (fun h33 => ?_) (fun h33 => ?_)
        · replace hf := pq_ifp h33 hf
          refine lv_iconst (v := 0) hx hb dX7_canInsert_45 (by decide) ?_
          obtain ⟨h8, h9⟩ := pq_pair hf
          exact hend _ _ _ _ _ dX7_canInsert_46 rfl h8 (by rw [← h9]; exact hP) hS
        · replace hf := pq_ifn h33 hf
          refine lv_aload_n hx hb dX7_canInsert_37 rfl (lv_at hl 0 rfl) ?_
          refine lv_iload_n hx hb dX7_canInsert_38 rfl (lv_at hl 1 rfl) ?_
          obtain ⟨q35, e34, hf⟩ := pq_bind hf
          refine pq_cV S (c_X7_find l g a q31.2 p1 q35 e34) vv_X7_112 hK hP rfl rfl rfl rfl rfl hl.1 (Nat.le_of_ble_eq_true rfl) dX7_canInsert_39 (by decide) (by decide) ⟨Nat.le_refl _, Nat.le_refl _⟩ ?_
          refine lv_if_lt (tgt := 47) hx hb dX7_canInsert_42 (by decide) (fun h36 => ?_) (fun h36 => ?_)
          · replace hf := pq_ifp h36 hf
            refine lv_iconst (v := 0) hx hb dX7_canInsert_47 (by decide) ?_
            refine lv_istore_n (lv' := [(3, .int 0), (0, .ref (a 0)), (1, .int p1), (2, .int p2)]) hx hb dX7_canInsert_48 rfl hl (by decide) rfl (fun ls hl => ?_)
            exact B49 200 q31.2 p1 p2 0 ls _ _ hP hD hS (lv_sub hl [1, 2, 3, 0] rfl) hf
          · replace hf := pq_ifn h36 hf
            refine lv_iconst (v := 0) hx hb dX7_canInsert_45 (by decide) ?_
            obtain ⟨h8, h9⟩ := pq_pair hf
            exact hend _ _ _ _ _ dX7_canInsert_46 rfl h8 (by rw [← h9]; exact hP) hS
def f_X7_rotationCount (T : ModS) : Option (Int32 × (ModS)) :=
    some ((T.2.1 (1 : Int32).toNatClampNeg), (0, T.2.1, T.2.2.1, T.2.2.2.1, T.2.2.2.2.1, T.2.2.2.2.2.1, T.2.2.2.2.2.2.1, T.2.2.2.2.2.2.2.1, T.2.2.2.2.2.2.2.2.1, T.2.2.2.2.2.2.2.2.2.1, T.2.2.2.2.2.2.2.2.2.2.1, T.2.2.2.2.2.2.2.2.2.2.2.1, T.2.2.2.2.2.2.2.2.2.2.2.2.1, T.2.2.2.2.2.2.2.2.2.2.2.2.2.1, T.2.2.2.2.2.2.2.2.2.2.2.2.2.2.1, T.2.2.2.2.2.2.2.2.2.2.2.2.2.2.2.1, T.2.2.2.2.2.2.2.2.2.2.2.2.2.2.2.2))
set_option maxHeartbeats 4000000 in
set_option maxRecDepth 100000 in
theorem c_X7_rotationCount (l : Launch) (g : pq_g) (a : Nat → Nat) (T : ModS) (r : Int32) (T1 : ModS) (hf : f_X7_rotationCount T = some (r, T1)) : pq_Mi l yX7_rotationCount cX7_rotationCount 1 .int 1 g (modW g a T) [.ref (a 0)] r (modW g a T1) := by
  rw [f_X7_rotationCount] at hf
  refine pq_Mi.of (own := RX7) (by decide) rfl (Nat.le_of_ble_eq_true rfl) rfl ?_
  intro p e s m below meth c ls Q A S hP hK hD hS hA hl hend
  obtain ⟨hx, hb, hml, hown, hts⟩ := id S
  refine lv_aload_n hx hb dX7_rotationCount_0 rfl (lv_at hl 0 rfl) ?_
  refine lv_iconst (v := 0) hx hb dX7_rotationCount_1 (by decide) ?_
  refine pq_putf S hK hP hD hS inX7 tyX7_ok nmX7 0 rfl rfl 0 (by decide) fl_X7_27 rfl rfl (ty := .int) rfl rfl rfl (Nat.le_of_ble_eq_true rfl) dX7_rotationCount_2 (fun H locs hP hS => ?_)
  replace hP : va_P g.1 pq_cl (modW g a (0, T.2.1, T.2.2.1, T.2.2.2.1, T.2.2.2.2.1, T.2.2.2.2.2.1, T.2.2.2.2.2.2.1, T.2.2.2.2.2.2.2.1, T.2.2.2.2.2.2.2.2.1, T.2.2.2.2.2.2.2.2.2.1, T.2.2.2.2.2.2.2.2.2.2.1, T.2.2.2.2.2.2.2.2.2.2.2.1, T.2.2.2.2.2.2.2.2.2.2.2.2.1, T.2.2.2.2.2.2.2.2.2.2.2.2.2.1, T.2.2.2.2.2.2.2.2.2.2.2.2.2.2.1, T.2.2.2.2.2.2.2.2.2.2.2.2.2.2.2.1, T.2.2.2.2.2.2.2.2.2.2.2.2.2.2.2.2)) H := hP
  replace hD : va_D A (modW g a (0, T.2.1, T.2.2.1, T.2.2.2.1, T.2.2.2.2.1, T.2.2.2.2.2.1, T.2.2.2.2.2.2.1, T.2.2.2.2.2.2.2.1, T.2.2.2.2.2.2.2.2.1, T.2.2.2.2.2.2.2.2.2.1, T.2.2.2.2.2.2.2.2.2.2.1, T.2.2.2.2.2.2.2.2.2.2.2.1, T.2.2.2.2.2.2.2.2.2.2.2.2.1, T.2.2.2.2.2.2.2.2.2.2.2.2.2.1, T.2.2.2.2.2.2.2.2.2.2.2.2.2.2.1, T.2.2.2.2.2.2.2.2.2.2.2.2.2.2.2.1, T.2.2.2.2.2.2.2.2.2.2.2.2.2.2.2.2)) := pq_adr hD (ad_X7 _ _)
  refine lv_aload_n hx hb dX7_rotationCount_5 rfl (lv_at hl 0 rfl) ?_
  refine pq_get S hK hP inX7 0 rfl rfl 1 (by decide) fl_X7_9 rfl (v := .ref (a 1)) rfl dX7_rotationCount_6 ?_
  refine lv_iconst (v := 1) hx hb dX7_rotationCount_9 (by decide) ?_
  refine va_iald hx hb hK.1 hP 1 0 rfl rfl (show ¬ ((1 : Int32) < 0 ∨ 770 ≤ (1 : Int32).toNatClampNeg) by decide) dX7_rotationCount_10 ?_
  obtain ⟨h8, h9⟩ := pq_pair hf
  exact hend _ _ _ _ _ dX7_rotationCount_11 rfl h8 (by rw [← h9]; exact hP) hS
def f_X7_meanDepth_c27 : Nat → ModS → Int32 → Int32 → Option (UInt64 × (ModS))
  | 0, _, _, _ => none
  | n + 1, T, v1, v2 =>
    if (T.2.1 (0 : Int32).toNatClampNeg) ≤ v2 then
      if (FP.ddiv (FP.i2d v1) (FP.i2d (T.2.1 (0 : Int32).toNatClampNeg))) &&& 0x7fffffffffffffff ≤ 0x7ff0000000000000 then
        some ((FP.ddiv (FP.i2d v1) (FP.i2d (T.2.1 (0 : Int32).toNatClampNeg))), T)
      else none
    else
      (f_X7_depth T v2).bind fun q4 =>
      f_X7_meanDepth_c27 n T (v1 + q4) (v2 + 1)
def f_X7_meanDepth (T : ModS) : Option (UInt64 × (ModS)) :=
    if (T.2.1 (0 : Int32).toNatClampNeg) ≤ 0 then
      (f_X7_isFine T 0).bind fun q7 =>
      if q7.1 = 0 then
        some (FP.dconst0, q7.2)
      else
        f_X7_meanDepth_c27 200 q7.2 0 0
    else
      (f_X7_isFine T 1).bind fun q10 =>
      if q10.1 = 0 then
        some (FP.dconst0, q10.2)
      else
        f_X7_meanDepth_c27 200 q10.2 0 0
set_option maxHeartbeats 4000000 in
set_option maxRecDepth 100000 in
theorem c_X7_meanDepth (l : Launch) (g : pq_g) (a : Nat → Nat) (T : ModS) (r : UInt64) (T1 : ModS) (hf : f_X7_meanDepth T = some (r, T1)) : pq_Md l yX7_meanDepth cX7_meanDepth 3 5 g (modW g a T) [.ref (a 0)] r (modW g a T1) := by
  rw [f_X7_meanDepth] at hf
  refine pq_Md.of (own := RX7) (by decide) rfl (Nat.le_of_ble_eq_true rfl) rfl ?_
  intro p e s m below meth c ls Q A S hP hK hD hS hA hl hend
  obtain ⟨hx, hb, hml, hown, hts⟩ := id S
  have B27 : ∀ (n27 : Nat) (T : ModS) (v1 : Int32) (v2 : Int32) (ls : Array Slot) (H : Heap) (locs : List Loc), va_P g.1 pq_cl (modW g a T) H → va_D A (modW g a T) → va_S A s.heap H locs → lv_has ls 3 [(0, .ref (a 0)), (1, .int v1), (2, .int v2)] → f_X7_meanDepth_c27 n27 T v1 v2 = some (r, T1) → W p l e (pq_rm 5 0 0) s m ([.ref (a 0)] : List Value).toArray below meth c H locs 0 0 Q (F0 m 27 ls []) := by
    intro n27
    induction n27 with
    | zero =>
      intro T v1 v2 ls H locs hP hD hS hl hf
      exact absurd hf (by simp [f_X7_meanDepth_c27])
    | succ n27 ih27 =>
      intro T v1 v2 ls H locs hP hD hS hl hf
      rw [f_X7_meanDepth_c27] at hf
      refine lv_iload_n hx hb dX7_meanDepth_27 rfl (lv_at hl 2 rfl) ?_
      refine lv_aload_n hx hb dX7_meanDepth_28 rfl (lv_at hl 0 rfl) ?_
      refine pq_get S hK hP inX7 0 rfl rfl 1 (by decide) fl_X7_9 rfl (v := .ref (a 1)) rfl dX7_meanDepth_29 ?_
      refine lv_iconst (v := 0) hx hb dX7_meanDepth_32 (by decide) ?_
      refine va_iald hx hb hK.1 hP 1 0 rfl rfl (show ¬ ((0 : Int32) < 0 ∨ 770 ≤ (0 : Int32).toNatClampNeg) by decide) dX7_meanDepth_33 ?_
      refine lv_icmp_ge (tgt := 51) hx hb dX7_meanDepth_34 (by decide) (fun h1 => ?_) (fun h1 => ?_)
      · replace hf := pq_ifp h1 hf
        refine lv_iload_n hx hb dX7_meanDepth_51 rfl (lv_at hl 1 rfl) ?_
        refine lv_i2d hx hb dX7_meanDepth_52 ?_
        refine lv_aload_n hx hb dX7_meanDepth_53 rfl (lv_at hl 0 rfl) ?_
        refine pq_get S hK hP inX7 0 rfl rfl 1 (by decide) fl_X7_9 rfl (v := .ref (a 1)) rfl dX7_meanDepth_54 ?_
        refine lv_iconst (v := 0) hx hb dX7_meanDepth_57 (by decide) ?_
        refine va_iald hx hb hK.1 hP 1 0 rfl rfl (show ¬ ((0 : Int32) < 0 ∨ 770 ≤ (0 : Int32).toNatClampNeg) by decide) dX7_meanDepth_58 ?_
        refine lv_i2d hx hb dX7_meanDepth_59 ?_
        by_cases h2 : (FP.ddiv (FP.i2d v1) (FP.i2d (T.2.1 (0 : Int32).toNatClampNeg))) &&& 0x7fffffffffffffff ≤ 0x7ff0000000000000
        case neg => exact absurd (pq_ifn h2 hf) (fun h9 => by cases h9)
        replace hf := pq_ifp h2 hf
        refine lv_ddiv hx hb dX7_meanDepth_60 h2 ?_
        obtain ⟨h8, h9⟩ := pq_pair hf
        exact hend _ _ _ _ _ dX7_meanDepth_61 h8 (by rw [← h9]; exact hP) hS
      · replace hf := pq_ifn h1 hf
        refine lv_iload_n hx hb dX7_meanDepth_37 rfl (lv_at hl 1 rfl) ?_
        refine lv_aload_n hx hb dX7_meanDepth_38 rfl (lv_at hl 0 rfl) ?_
        refine lv_iload_n hx hb dX7_meanDepth_39 rfl (lv_at hl 2 rfl) ?_
        obtain ⟨q4, e3, hf⟩ := pq_bind hf
        refine pq_cV S (c_X7_depth l g a T v2 q4 e3) vv_X7_83 hK hP rfl rfl rfl rfl rfl hl.1 (Nat.le_of_ble_eq_true rfl) dX7_meanDepth_40 (by decide) (by decide) ⟨Nat.le_refl _, Nat.le_refl _⟩ ?_
        refine lv_iadd hx hb dX7_meanDepth_43 ?_
        refine lv_istore_n (lv' := [(1, .int (v1 + q4)), (0, .ref (a 0)), (2, .int v2)]) hx hb dX7_meanDepth_44 rfl hl (by decide) rfl (fun ls hl => ?_)
        refine lv_iinc (v := (v2 + 1)) (lv' := [(2, .int (v2 + 1)), (1, .int (v1 + q4)), (0, .ref (a 0))]) hx hb dX7_meanDepth_45 hl (k := 2) rfl rfl (by decide) rfl (fun ls hl => ?_)
        refine lv_goto (tgt := 27) hx hb dX7_meanDepth_48 (by decide) ?_
        exact ih27 T (v1 + q4) (v2 + 1) ls _ _ hP hD hS (lv_sub hl [2, 1, 0] rfl) hf
  refine lv_aload_n hx hb dX7_meanDepth_0 rfl (lv_at hl 0 rfl) ?_
  refine lv_aload_n hx hb dX7_meanDepth_1 rfl (lv_at hl 0 rfl) ?_
  refine pq_get S hK hP inX7 0 rfl rfl 1 (by decide) fl_X7_9 rfl (v := .ref (a 1)) rfl dX7_meanDepth_2 ?_
  refine lv_iconst (v := 0) hx hb dX7_meanDepth_5 (by decide) ?_
  refine va_iald hx hb hK.1 hP 1 0 rfl rfl (show ¬ ((0 : Int32) < 0 ∨ 770 ≤ (0 : Int32).toNatClampNeg) by decide) dX7_meanDepth_6 ?_
  refine lv_if_le (tgt := 14) hx hb dX7_meanDepth_7 (by decide) (fun h5 => ?_) (fun h5 => ?_)
  · replace hf := pq_ifp h5 hf
    refine lv_iconst (v := 0) hx hb dX7_meanDepth_14 (by decide) ?_
    obtain ⟨q7, e6, hf⟩ := pq_bind hf
    refine pq_cVi S (c_X7_isFine l g a T 0 q7.1 q7.2 e6) vv_X7_53 hK hP hD hS hA rfl rfl rfl rfl rfl hl.1 (Nat.le_of_ble_eq_true rfl) dX7_meanDepth_15 (by decide) (by decide) ⟨Nat.le_refl _, Nat.le_refl _⟩ (fun H9 locs hk hP1 hS => ?_)
    replace hP := hP1
    replace hP : va_P g.1 pq_cl (modW g a q7.2) H9 := hP
    replace hD : va_D A (modW g a q7.2) := pq_adr hD (ad_X7 _ _)
    clear hk
    generalize H9 = H at hP hS ⊢
    refine lv_if_ne (tgt := 23) hx hb dX7_meanDepth_18 (by decide) (fun h8 => ?_) (fun h8 => ?_)
    · replace hf := pq_ifn h8 hf
      refine lv_iconst (v := 0) hx hb dX7_meanDepth_23 (by decide) ?_
      refine lv_istore_n (lv' := [(1, .int 0), (0, .ref (a 0))]) hx hb dX7_meanDepth_24 rfl hl (by decide) rfl (fun ls hl => ?_)
      refine lv_iconst (v := 0) hx hb dX7_meanDepth_25 (by decide) ?_
      refine lv_istore_n (lv' := [(2, .int 0), (1, .int 0), (0, .ref (a 0))]) hx hb dX7_meanDepth_26 rfl hl (by decide) rfl (fun ls hl => ?_)
      exact B27 200 q7.2 0 0 ls _ _ hP hD hS (lv_sub hl [2, 1, 0] rfl) hf
    · replace hf := pq_ifp h8 hf
      refine lv_dconst0 hx hb dX7_meanDepth_21 ?_
      obtain ⟨h8, h9⟩ := pq_pair hf
      exact hend _ _ _ _ _ dX7_meanDepth_22 h8 (by rw [← h9]; exact hP) hS
  · replace hf := pq_ifn h5 hf
    refine lv_iconst (v := 1) hx hb dX7_meanDepth_10 (by decide) ?_
    refine lv_goto (tgt := 15) hx hb dX7_meanDepth_11 (by decide) ?_
    obtain ⟨q10, e9, hf⟩ := pq_bind hf
    refine pq_cVi S (c_X7_isFine l g a T 1 q10.1 q10.2 e9) vv_X7_53 hK hP hD hS hA rfl rfl rfl rfl rfl hl.1 (Nat.le_of_ble_eq_true rfl) dX7_meanDepth_15 (by decide) (by decide) ⟨Nat.le_refl _, Nat.le_refl _⟩ (fun H9 locs hk hP1 hS => ?_)
    replace hP := hP1
    replace hP : va_P g.1 pq_cl (modW g a q10.2) H9 := hP
    replace hD : va_D A (modW g a q10.2) := pq_adr hD (ad_X7 _ _)
    clear hk
    generalize H9 = H at hP hS ⊢
    refine lv_if_ne (tgt := 23) hx hb dX7_meanDepth_18 (by decide) (fun h11 => ?_) (fun h11 => ?_)
    · replace hf := pq_ifn h11 hf
      refine lv_iconst (v := 0) hx hb dX7_meanDepth_23 (by decide) ?_
      refine lv_istore_n (lv' := [(1, .int 0), (0, .ref (a 0))]) hx hb dX7_meanDepth_24 rfl hl (by decide) rfl (fun ls hl => ?_)
      refine lv_iconst (v := 0) hx hb dX7_meanDepth_25 (by decide) ?_
      refine lv_istore_n (lv' := [(2, .int 0), (1, .int 0), (0, .ref (a 0))]) hx hb dX7_meanDepth_26 rfl hl (by decide) rfl (fun ls hl => ?_)
      exact B27 200 q10.2 0 0 ls _ _ hP hD hS (lv_sub hl [2, 1, 0] rfl) hf
    · replace hf := pq_ifp h11 hf
      refine lv_dconst0 hx hb dX7_meanDepth_21 ?_
      obtain ⟨h8, h9⟩ := pq_pair hf
      exact hend _ _ _ _ _ dX7_meanDepth_22 h8 (by rw [← h9]; exact hP) hS
def f_X7_isConsistent (T : ModS) : Option (Int32 × (ModS)) :=
    some (1, (0, T.2.1, T.2.2.1, T.2.2.2.1, T.2.2.2.2.1, T.2.2.2.2.2.1, T.2.2.2.2.2.2.1, T.2.2.2.2.2.2.2.1, T.2.2.2.2.2.2.2.2.1, T.2.2.2.2.2.2.2.2.2.1, T.2.2.2.2.2.2.2.2.2.2.1, T.2.2.2.2.2.2.2.2.2.2.2.1, T.2.2.2.2.2.2.2.2.2.2.2.2.1, T.2.2.2.2.2.2.2.2.2.2.2.2.2.1, T.2.2.2.2.2.2.2.2.2.2.2.2.2.2.1, T.2.2.2.2.2.2.2.2.2.2.2.2.2.2.2.1, T.2.2.2.2.2.2.2.2.2.2.2.2.2.2.2.2))
set_option maxHeartbeats 4000000 in
set_option maxRecDepth 100000 in
theorem c_X7_isConsistent (l : Launch) (g : pq_g) (a : Nat → Nat) (T : ModS) (r : Int32) (T1 : ModS) (hf : f_X7_isConsistent T = some (r, T1)) : pq_Mi l yX7_isConsistent cX7_isConsistent 1 .boolean 1 g (modW g a T) [.ref (a 0)] r (modW g a T1) := by
  rw [f_X7_isConsistent] at hf
  refine pq_Mi.of (own := RX7) (by decide) rfl (Nat.le_of_ble_eq_true rfl) rfl ?_
  intro p e s m below meth c ls Q A S hP hK hD hS hA hl hend
  obtain ⟨hx, hb, hml, hown, hts⟩ := id S
  refine lv_aload_n hx hb dX7_isConsistent_0 rfl (lv_at hl 0 rfl) ?_
  refine lv_iconst (v := 0) hx hb dX7_isConsistent_1 (by decide) ?_
  refine pq_putf S hK hP hD hS inX7 tyX7_ok nmX7 0 rfl rfl 0 (by decide) fl_X7_27 rfl rfl (ty := .int) rfl rfl rfl (Nat.le_of_ble_eq_true rfl) dX7_isConsistent_2 (fun H locs hP hS => ?_)
  replace hP : va_P g.1 pq_cl (modW g a (0, T.2.1, T.2.2.1, T.2.2.2.1, T.2.2.2.2.1, T.2.2.2.2.2.1, T.2.2.2.2.2.2.1, T.2.2.2.2.2.2.2.1, T.2.2.2.2.2.2.2.2.1, T.2.2.2.2.2.2.2.2.2.1, T.2.2.2.2.2.2.2.2.2.2.1, T.2.2.2.2.2.2.2.2.2.2.2.1, T.2.2.2.2.2.2.2.2.2.2.2.2.1, T.2.2.2.2.2.2.2.2.2.2.2.2.2.1, T.2.2.2.2.2.2.2.2.2.2.2.2.2.2.1, T.2.2.2.2.2.2.2.2.2.2.2.2.2.2.2.1, T.2.2.2.2.2.2.2.2.2.2.2.2.2.2.2.2)) H := hP
  replace hD : va_D A (modW g a (0, T.2.1, T.2.2.1, T.2.2.2.1, T.2.2.2.2.1, T.2.2.2.2.2.1, T.2.2.2.2.2.2.1, T.2.2.2.2.2.2.2.1, T.2.2.2.2.2.2.2.2.1, T.2.2.2.2.2.2.2.2.2.1, T.2.2.2.2.2.2.2.2.2.2.1, T.2.2.2.2.2.2.2.2.2.2.2.1, T.2.2.2.2.2.2.2.2.2.2.2.2.1, T.2.2.2.2.2.2.2.2.2.2.2.2.2.1, T.2.2.2.2.2.2.2.2.2.2.2.2.2.2.1, T.2.2.2.2.2.2.2.2.2.2.2.2.2.2.2.1, T.2.2.2.2.2.2.2.2.2.2.2.2.2.2.2.2)) := pq_adr hD (ad_X7 _ _)
  refine lv_iconst (v := 1) hx hb dX7_isConsistent_5 (by decide) ?_
  obtain ⟨h8, h9⟩ := pq_pair hf
  exact hend _ _ _ _ _ dX7_isConsistent_6 rfl h8 (by rw [← h9]; exact hP) hS
def f_X7_writes (T : ModS) (p1 : Int32) : Option (ModS) :=
    if (T.2.2.2.2.2.2.2.2.2.1 < 0 ∨ 200 ≤ T.2.2.2.2.2.2.2.2.2.1.toNatClampNeg) then none
    else
      some (T.1, T.2.1, T.2.2.1, T.2.2.2.1, T.2.2.2.2.1, T.2.2.2.2.2.1, T.2.2.2.2.2.2.1, T.2.2.2.2.2.2.2.1, (upd T.2.2.2.2.2.2.2.2.1 T.2.2.2.2.2.2.2.2.2.1.toNatClampNeg (vp_nar .char ((p1.toUInt32 % 65536).toInt32))), (T.2.2.2.2.2.2.2.2.2.1 + 1), T.2.2.2.2.2.2.2.2.2.2.1, T.2.2.2.2.2.2.2.2.2.2.2.1, T.2.2.2.2.2.2.2.2.2.2.2.2.1, T.2.2.2.2.2.2.2.2.2.2.2.2.2.1, T.2.2.2.2.2.2.2.2.2.2.2.2.2.2.1, T.2.2.2.2.2.2.2.2.2.2.2.2.2.2.2.1, T.2.2.2.2.2.2.2.2.2.2.2.2.2.2.2.2)
set_option maxHeartbeats 4000000 in
set_option maxRecDepth 100000 in
theorem c_X7_writes (l : Launch) (g : pq_g) (a : Nat → Nat) (T : ModS) (p1 : Int32) (T1 : ModS) (hf : f_X7_writes T p1 = some T1) : pq_Mv l yX7_writes cX7_writes 2 1 g (modW g a T) [.ref (a 0), .int p1] (modW g a T1) := by
  rw [f_X7_writes] at hf
  refine pq_Mv.of (own := RX7) (by decide) rfl (Nat.le_of_ble_eq_true rfl) rfl ?_
  intro p e s m below meth c ls Q A S hP hK hD hS hA hl hend
  obtain ⟨hx, hb, hml, hown, hts⟩ := id S
  refine lv_aload_n hx hb dX7_writes_0 rfl (lv_at hl 0 rfl) ?_
  refine pq_get S hK hP inX7 0 rfl rfl 8 (by decide) fl_X7_13 rfl (v := .ref (a 2)) rfl dX7_writes_1 ?_
  refine lv_aload_n hx hb dX7_writes_4 rfl (lv_at hl 0 rfl) ?_
  refine pq_get S hK hP inX7 0 rfl rfl 9 (by decide) fl_X7_202 rfl (v := .int T.2.2.2.2.2.2.2.2.2.1) rfl dX7_writes_5 ?_
  refine lv_iload_n hx hb dX7_writes_8 rfl (lv_at hl 1 rfl) ?_
  refine lv_i2c hx hb dX7_writes_9 rfl ?_
  by_cases h1 : (T.2.2.2.2.2.2.2.2.2.1 < 0 ∨ 200 ≤ T.2.2.2.2.2.2.2.2.2.1.toNatClampNeg)
  · exact absurd (pq_ifp h1 hf) (fun h9 => by cases h9)
  replace hf := pq_ifn h1 hf
  refine va_cast hx hb hK.1 hP hD hS 2 1 rfl rfl h1 dX7_writes_10 (fun H locs hP _ hS => ?_)
  replace hP : va_P g.1 pq_cl (modW g a (T.1, T.2.1, T.2.2.1, T.2.2.2.1, T.2.2.2.2.1, T.2.2.2.2.2.1, T.2.2.2.2.2.2.1, T.2.2.2.2.2.2.2.1, (upd T.2.2.2.2.2.2.2.2.1 T.2.2.2.2.2.2.2.2.2.1.toNatClampNeg (vp_nar .char ((p1.toUInt32 % 65536).toInt32))), T.2.2.2.2.2.2.2.2.2.1, T.2.2.2.2.2.2.2.2.2.2.1, T.2.2.2.2.2.2.2.2.2.2.2.1, T.2.2.2.2.2.2.2.2.2.2.2.2.1, T.2.2.2.2.2.2.2.2.2.2.2.2.2.1, T.2.2.2.2.2.2.2.2.2.2.2.2.2.2.1, T.2.2.2.2.2.2.2.2.2.2.2.2.2.2.2.1, T.2.2.2.2.2.2.2.2.2.2.2.2.2.2.2.2)) H := hP
  replace hD : va_D A (modW g a (T.1, T.2.1, T.2.2.1, T.2.2.2.1, T.2.2.2.2.1, T.2.2.2.2.2.1, T.2.2.2.2.2.2.1, T.2.2.2.2.2.2.2.1, (upd T.2.2.2.2.2.2.2.2.1 T.2.2.2.2.2.2.2.2.2.1.toNatClampNeg (vp_nar .char ((p1.toUInt32 % 65536).toInt32))), T.2.2.2.2.2.2.2.2.2.1, T.2.2.2.2.2.2.2.2.2.2.1, T.2.2.2.2.2.2.2.2.2.2.2.1, T.2.2.2.2.2.2.2.2.2.2.2.2.1, T.2.2.2.2.2.2.2.2.2.2.2.2.2.1, T.2.2.2.2.2.2.2.2.2.2.2.2.2.2.1, T.2.2.2.2.2.2.2.2.2.2.2.2.2.2.2.1, T.2.2.2.2.2.2.2.2.2.2.2.2.2.2.2.2)) := pq_adr hD (ad_X7 _ _)
  refine lv_aload_n hx hb dX7_writes_11 rfl (lv_at hl 0 rfl) ?_
  refine lv_dup hx hb dX7_writes_12 rfl ?_
  refine pq_get S hK hP inX7 0 rfl rfl 9 (by decide) fl_X7_202 rfl (v := .int T.2.2.2.2.2.2.2.2.2.1) rfl dX7_writes_13 ?_
  refine lv_iconst (v := 1) hx hb dX7_writes_16 (by decide) ?_
  refine lv_iadd hx hb dX7_writes_17 ?_
  refine pq_putf S hK hP hD hS inX7 tyX7_ok nmX7 0 rfl rfl 9 (by decide) fl_X7_202 rfl rfl (ty := .int) rfl rfl rfl (Nat.le_of_ble_eq_true rfl) dX7_writes_18 (fun H locs hP hS => ?_)
  replace hP : va_P g.1 pq_cl (modW g a (T.1, T.2.1, T.2.2.1, T.2.2.2.1, T.2.2.2.2.1, T.2.2.2.2.2.1, T.2.2.2.2.2.2.1, T.2.2.2.2.2.2.2.1, (upd T.2.2.2.2.2.2.2.2.1 T.2.2.2.2.2.2.2.2.2.1.toNatClampNeg (vp_nar .char ((p1.toUInt32 % 65536).toInt32))), (T.2.2.2.2.2.2.2.2.2.1 + 1), T.2.2.2.2.2.2.2.2.2.2.1, T.2.2.2.2.2.2.2.2.2.2.2.1, T.2.2.2.2.2.2.2.2.2.2.2.2.1, T.2.2.2.2.2.2.2.2.2.2.2.2.2.1, T.2.2.2.2.2.2.2.2.2.2.2.2.2.2.1, T.2.2.2.2.2.2.2.2.2.2.2.2.2.2.2.1, T.2.2.2.2.2.2.2.2.2.2.2.2.2.2.2.2)) H := hP
  replace hD : va_D A (modW g a (T.1, T.2.1, T.2.2.1, T.2.2.2.1, T.2.2.2.2.1, T.2.2.2.2.2.1, T.2.2.2.2.2.2.1, T.2.2.2.2.2.2.2.1, (upd T.2.2.2.2.2.2.2.2.1 T.2.2.2.2.2.2.2.2.2.1.toNatClampNeg (vp_nar .char ((p1.toUInt32 % 65536).toInt32))), (T.2.2.2.2.2.2.2.2.2.1 + 1), T.2.2.2.2.2.2.2.2.2.2.1, T.2.2.2.2.2.2.2.2.2.2.2.1, T.2.2.2.2.2.2.2.2.2.2.2.2.1, T.2.2.2.2.2.2.2.2.2.2.2.2.2.1, T.2.2.2.2.2.2.2.2.2.2.2.2.2.2.1, T.2.2.2.2.2.2.2.2.2.2.2.2.2.2.2.1, T.2.2.2.2.2.2.2.2.2.2.2.2.2.2.2.2)) := pq_adr hD (ad_X7 _ _)
  exact hend _ _ _ _ dX7_writes_21 (by rw [← Option.some.inj hf]; exact hP) hS
def f_X7_writesNumber_c14 (fr : ModS → Int32 → Option (ModS)) (T : ModS) (v1 : Int32) : Option (ModS) :=
    (f_X7_writes T (48 + (v1 - v1 / 10 * 10))).bind fun q2 =>
    some q2
def f_X7_writesNumber : Nat → ModS → Int32 → Option (ModS)
  | 0, _, _ => none
  | d + 1, T, p1 =>
    if p1 ≤ 9 then
      f_X7_writesNumber_c14 (f_X7_writesNumber d) T p1
    else
      (f_X7_writesNumber d T (p1 / 10)).bind fun q5 =>
      f_X7_writesNumber_c14 (f_X7_writesNumber d) q5 p1
set_option maxHeartbeats 4000000 in
set_option maxRecDepth 100000 in
theorem c_X7_writesNumber (l : Launch) (g : pq_g) (a : Nat → Nat) : ∀ (d : Nat) (T : ModS) (p1 : Int32) (T1 : ModS), f_X7_writesNumber d T p1 = some T1 → pq_Mv l yX7_writesNumber cX7_writesNumber 2 (2 + d) g (modW g a T) [.ref (a 0), .int p1] (modW g a T1) := by
  intro d
  induction d with
  | zero =>
    intro T p1 T1 hf
    exact absurd hf (by simp [f_X7_writesNumber])
  | succ d ihd =>
    intro T p1 T1 hf
    rw [f_X7_writesNumber] at hf
    refine pq_Mv.of (own := RX7) (by decide) rfl (Nat.le_of_ble_eq_true rfl) rfl ?_
    intro p e s m below meth c ls Q A S hP hK hD hS hA hl hend
    obtain ⟨hx, hb, hml, hown, hts⟩ := id S
    have B14 : ∀ (T : ModS) (v1 : Int32) (ls : Array Slot) (H : Heap) (locs : List Loc), va_P g.1 pq_cl (modW g a T) H → va_D A (modW g a T) → va_S A s.heap H locs → lv_has ls 2 [(0, .ref (a 0)), (1, .int v1)] → f_X7_writesNumber_c14 (f_X7_writesNumber d) T v1 = some T1 → W p l e (pq_rm (2 + (d + 1)) 0 0) s m ([.ref (a 0), .int p1] : List Value).toArray below meth c H locs 0 0 Q (F0 m 14 ls []) := by
      intro T v1 ls H locs hP hD hS hl hf
      rw [f_X7_writesNumber_c14] at hf
      refine lv_aload_n hx hb dX7_writesNumber_14 rfl (lv_at hl 0 rfl) ?_
      refine lv_bipush (v := 48) hx hb dX7_writesNumber_15 (by decide) ?_
      refine lv_iload_n hx hb dX7_writesNumber_17 rfl (lv_at hl 1 rfl) ?_
      refine lv_bipush (v := 10) hx hb dX7_writesNumber_18 (by decide) ?_
      refine lv_irem hx hb dX7_writesNumber_20 (by decide) ?_
      refine lv_iadd hx hb dX7_writesNumber_21 ?_
      obtain ⟨q2, e1, hf⟩ := pq_bind hf
      refine pq_cVv S (c_X7_writes l g a T (48 + (v1 - v1 / 10 * 10)) q2 e1) vv_X7_208 hK hP hD hS hA rfl rfl rfl rfl rfl hl.1 (Nat.le_of_ble_eq_true rfl) dX7_writesNumber_22 (by omega) (by decide) ⟨Nat.le_refl _, Nat.le_refl _⟩ (fun H9 locs hk hP1 hS => ?_)
      replace hP := hP1
      replace hP : va_P g.1 pq_cl (modW g a q2) H9 := hP
      replace hD : va_D A (modW g a q2) := pq_adr hD (ad_X7 _ _)
      clear hk
      generalize H9 = H at hP hS ⊢
      exact hend _ _ _ _ dX7_writesNumber_25 (by rw [← Option.some.inj hf]; exact hP) hS
    refine lv_iload_n hx hb dX7_writesNumber_0 rfl (lv_at hl 1 rfl) ?_
    refine lv_bipush (v := 9) hx hb dX7_writesNumber_1 (by decide) ?_
    refine lv_icmp_le (tgt := 14) hx hb dX7_writesNumber_3 (by decide) (fun h3 => ?_) (fun h3 => ?_)
    · replace hf := pq_ifp h3 hf
      exact B14 T p1 ls _ _ hP hD hS (lv_sub hl [0, 1] rfl) hf
    · replace hf := pq_ifn h3 hf
      refine lv_aload_n hx hb dX7_writesNumber_6 rfl (lv_at hl 0 rfl) ?_
      refine lv_iload_n hx hb dX7_writesNumber_7 rfl (lv_at hl 1 rfl) ?_
      refine lv_bipush (v := 10) hx hb dX7_writesNumber_8 (by decide) ?_
      refine lv_idiv hx hb dX7_writesNumber_10 (by decide) ?_
      obtain ⟨q5, e4, hf⟩ := pq_bind hf
      refine pq_cVv S (ihd T (p1 / 10) q5 e4) vv_X7_205 hK hP hD hS hA rfl rfl rfl rfl rfl hl.1 (Nat.le_of_ble_eq_true rfl) dX7_writesNumber_11 (by omega) (by decide) ⟨Nat.le_refl _, Nat.le_refl _⟩ (fun H9 locs hk hP1 hS => ?_)
      replace hP := hP1
      replace hP : va_P g.1 pq_cl (modW g a q5) H9 := hP
      replace hD : va_D A (modW g a q5) := pq_adr hD (ad_X7 _ _)
      clear hk
      generalize H9 = H at hP hS ⊢
      exact B14 q5 p1 ls _ _ hP hD hS (lv_sub hl [0, 1] rfl) hf
def f_X7_writesTree : Nat → ModS → Int32 → Int32 → Option (ModS)
  | 0, _, _, _ => none
  | d + 1, T, p1, p2 =>
    (f_X7_top T p1 p2).bind fun q2 =>
    if 0 ≤ q2 then
      (f_X7_writes T 40).bind fun q5 =>
      (f_X7_writesTree d q5 p1 (q2 - 1)).bind fun q7 =>
      (f_X7_key q7 q2).bind fun q9 =>
      (f_X7_writesNumber 40 q7 q9).bind fun q11 =>
      (f_X7_writes q11 58).bind fun q13 =>
      (f_X7_priority q13 q2).bind fun q15 =>
      (f_X7_writesNumber 40 q13 q15).bind fun q17 =>
      (f_X7_writesTree d q17 (q2 + 1) p2).bind fun q19 =>
      (f_X7_writes q19 41).bind fun q21 =>
      some q21
    else
      some T
set_option maxHeartbeats 4000000 in
set_option maxRecDepth 100000 in
theorem c_X7_writesTree (l : Launch) (g : pq_g) (a : Nat → Nat) : ∀ (d : Nat) (T : ModS) (p1 : Int32) (p2 : Int32) (T1 : ModS), f_X7_writesTree d T p1 p2 = some T1 → pq_Mv l yX7_writesTree cX7_writesTree 4 (43 + d) g (modW g a T) [.ref (a 0), .int p1, .int p2] (modW g a T1) := by
  intro d
  induction d with
  | zero =>
    intro T p1 p2 T1 hf
    exact absurd hf (by simp [f_X7_writesTree])
  | succ d ihd =>
    intro T p1 p2 T1 hf
    rw [f_X7_writesTree] at hf
    refine pq_Mv.of (own := RX7) (by decide) rfl (Nat.le_of_ble_eq_true rfl) rfl ?_
    intro p e s m below meth c ls Q A S hP hK hD hS hA hl hend
    obtain ⟨hx, hb, hml, hown, hts⟩ := id S
    refine lv_aload_n hx hb dX7_writesTree_0 rfl (lv_at hl 0 rfl) ?_
    refine lv_iload_n hx hb dX7_writesTree_1 rfl (lv_at hl 1 rfl) ?_
    refine lv_iload_n hx hb dX7_writesTree_2 rfl (lv_at hl 2 rfl) ?_
    obtain ⟨q2, e1, hf⟩ := pq_bind hf
    refine pq_cV S (c_X7_top l g a T p1 p2 q2 e1) vv_X7_168 hK hP rfl rfl rfl rfl rfl hl.1 (Nat.le_of_ble_eq_true rfl) dX7_writesTree_3 (by omega) (by decide) ⟨Nat.le_refl _, Nat.le_refl _⟩ ?_
    refine lv_istore_n (lv' := [(3, .int q2), (0, .ref (a 0)), (1, .int p1), (2, .int p2)]) hx hb dX7_writesTree_6 rfl hl (by decide) rfl (fun ls hl => ?_)
    refine lv_iload_n hx hb dX7_writesTree_7 rfl (lv_at hl 0 rfl) ?_
    refine lv_if_ge (tgt := 12) hx hb dX7_writesTree_8 (by decide) (fun h3 => ?_) (fun h3 => ?_)
    · replace hf := pq_ifp h3 hf
      refine lv_aload_n hx hb dX7_writesTree_12 rfl (lv_at hl 1 rfl) ?_
      refine lv_bipush (v := 40) hx hb dX7_writesTree_13 (by decide) ?_
      obtain ⟨q5, e4, hf⟩ := pq_bind hf
      refine pq_cVv S (c_X7_writes l g a T 40 q5 e4) vv_X7_208 hK hP hD hS hA rfl rfl rfl rfl rfl hl.1 (Nat.le_of_ble_eq_true rfl) dX7_writesTree_15 (by omega) (by decide) ⟨Nat.le_refl _, Nat.le_refl _⟩ (fun H9 locs hk hP1 hS => ?_)
      replace hP := hP1
      replace hP : va_P g.1 pq_cl (modW g a q5) H9 := hP
      replace hD : va_D A (modW g a q5) := pq_adr hD (ad_X7 _ _)
      clear hk
      generalize H9 = H at hP hS ⊢
      refine lv_aload_n hx hb dX7_writesTree_18 rfl (lv_at hl 1 rfl) ?_
      refine lv_iload_n hx hb dX7_writesTree_19 rfl (lv_at hl 2 rfl) ?_
      refine lv_iload_n hx hb dX7_writesTree_20 rfl (lv_at hl 0 rfl) ?_
      refine lv_iconst (v := 1) hx hb dX7_writesTree_21 (by decide) ?_
      refine lv_isub hx hb dX7_writesTree_22 ?_
      obtain ⟨q7, e6, hf⟩ := pq_bind hf
      refine pq_cVv S (ihd q5 p1 (q2 - 1) q7 e6) vv_X7_211 hK hP hD hS hA rfl rfl rfl rfl rfl hl.1 (Nat.le_of_ble_eq_true rfl) dX7_writesTree_23 (by omega) (by decide) ⟨Nat.le_refl _, Nat.le_refl _⟩ (fun H9 locs hk hP1 hS => ?_)
      replace hP := hP1
      replace hP : va_P g.1 pq_cl (modW g a q7) H9 := hP
      replace hD : va_D A (modW g a q7) := pq_adr hD (ad_X7 _ _)
      clear hk
      generalize H9 = H at hP hS ⊢
      refine lv_aload_n hx hb dX7_writesTree_26 rfl (lv_at hl 1 rfl) ?_
      refine lv_aload_n hx hb dX7_writesTree_27 rfl (lv_at hl 1 rfl) ?_
      refine lv_iload_n hx hb dX7_writesTree_28 rfl (lv_at hl 0 rfl) ?_
      obtain ⟨q9, e8, hf⟩ := pq_bind hf
      refine pq_cV S (c_X7_key l g a q7 q2 q9 e8) vv_X7_57 hK hP rfl rfl rfl rfl rfl hl.1 (Nat.le_of_ble_eq_true rfl) dX7_writesTree_29 (by omega) (by decide) ⟨Nat.le_refl _, Nat.le_refl _⟩ ?_
      obtain ⟨q11, e10, hf⟩ := pq_bind hf
      refine pq_cVv S (c_X7_writesNumber l g a 40 q7 q9 q11 e10) vv_X7_205 hK hP hD hS hA rfl rfl rfl rfl rfl hl.1 (Nat.le_of_ble_eq_true rfl) dX7_writesTree_32 (by omega) (by decide) ⟨Nat.le_refl _, Nat.le_refl _⟩ (fun H9 locs hk hP1 hS => ?_)
      replace hP := hP1
      replace hP : va_P g.1 pq_cl (modW g a q11) H9 := hP
      replace hD : va_D A (modW g a q11) := pq_adr hD (ad_X7 _ _)
      clear hk
      generalize H9 = H at hP hS ⊢
      refine lv_aload_n hx hb dX7_writesTree_35 rfl (lv_at hl 1 rfl) ?_
      refine lv_bipush (v := 58) hx hb dX7_writesTree_36 (by decide) ?_
      obtain ⟨q13, e12, hf⟩ := pq_bind hf
      refine pq_cVv S (c_X7_writes l g a q11 58 q13 e12) vv_X7_208 hK hP hD hS hA rfl rfl rfl rfl rfl hl.1 (Nat.le_of_ble_eq_true rfl) dX7_writesTree_38 (by omega) (by decide) ⟨Nat.le_refl _, Nat.le_refl _⟩ (fun H9 locs hk hP1 hS => ?_)
      replace hP := hP1
      replace hP : va_P g.1 pq_cl (modW g a q13) H9 := hP
      replace hD : va_D A (modW g a q13) := pq_adr hD (ad_X7 _ _)
      clear hk
      generalize H9 = H at hP hS ⊢
      refine lv_aload_n hx hb dX7_writesTree_41 rfl (lv_at hl 1 rfl) ?_
      refine lv_aload_n hx hb dX7_writesTree_42 rfl (lv_at hl 1 rfl) ?_
      refine lv_iload_n hx hb dX7_writesTree_43 rfl (lv_at hl 0 rfl) ?_
      obtain ⟨q15, e14, hf⟩ := pq_bind hf
      refine pq_cV S (c_X7_priority l g a q13 q2 q15 e14) vv_X7_64 hK hP rfl rfl rfl rfl rfl hl.1 (Nat.le_of_ble_eq_true rfl) dX7_writesTree_44 (by omega) (by decide) ⟨Nat.le_refl _, Nat.le_refl _⟩ ?_
      obtain ⟨q17, e16, hf⟩ := pq_bind hf
      refine pq_cVv S (c_X7_writesNumber l g a 40 q13 q15 q17 e16) vv_X7_205 hK hP hD hS hA rfl rfl rfl rfl rfl hl.1 (Nat.le_of_ble_eq_true rfl) dX7_writesTree_47 (by omega) (by decide) ⟨Nat.le_refl _, Nat.le_refl _⟩ (fun H9 locs hk hP1 hS => ?_)
      replace hP := hP1
      replace hP : va_P g.1 pq_cl (modW g a q17) H9 := hP
      replace hD : va_D A (modW g a q17) := pq_adr hD (ad_X7 _ _)
      clear hk
      generalize H9 = H at hP hS ⊢
      refine lv_aload_n hx hb dX7_writesTree_50 rfl (lv_at hl 1 rfl) ?_
      refine lv_iload_n hx hb dX7_writesTree_51 rfl (lv_at hl 0 rfl) ?_
      refine lv_iconst (v := 1) hx hb dX7_writesTree_52 (by decide) ?_
      refine lv_iadd hx hb dX7_writesTree_53 ?_
      refine lv_iload_n hx hb dX7_writesTree_54 rfl (lv_at hl 3 rfl) ?_
      obtain ⟨q19, e18, hf⟩ := pq_bind hf
      refine pq_cVv S (ihd q17 (q2 + 1) p2 q19 e18) vv_X7_211 hK hP hD hS hA rfl rfl rfl rfl rfl hl.1 (Nat.le_of_ble_eq_true rfl) dX7_writesTree_55 (by omega) (by decide) ⟨Nat.le_refl _, Nat.le_refl _⟩ (fun H9 locs hk hP1 hS => ?_)
      replace hP := hP1
      replace hP : va_P g.1 pq_cl (modW g a q19) H9 := hP
      replace hD : va_D A (modW g a q19) := pq_adr hD (ad_X7 _ _)
      clear hk
      generalize H9 = H at hP hS ⊢
      refine lv_aload_n hx hb dX7_writesTree_58 rfl (lv_at hl 1 rfl) ?_
      refine lv_bipush (v := 41) hx hb dX7_writesTree_59 (by decide) ?_
      obtain ⟨q21, e20, hf⟩ := pq_bind hf
      refine pq_cVv S (c_X7_writes l g a q19 41 q21 e20) vv_X7_208 hK hP hD hS hA rfl rfl rfl rfl rfl hl.1 (Nat.le_of_ble_eq_true rfl) dX7_writesTree_61 (by omega) (by decide) ⟨Nat.le_refl _, Nat.le_refl _⟩ (fun H9 locs hk hP1 hS => ?_)
      replace hP := hP1
      replace hP : va_P g.1 pq_cl (modW g a q21) H9 := hP
      replace hD : va_D A (modW g a q21) := pq_adr hD (ad_X7 _ _)
      clear hk
      generalize H9 = H at hP hS ⊢
      exact hend _ _ _ _ dX7_writesTree_64 (by rw [← Option.some.inj hf]; exact hP) hS
    · replace hf := pq_ifn h3 hf
      exact hend _ _ _ _ dX7_writesTree_11 (by rw [← Option.some.inj hf]; exact hP) hS
def f_X7_writeTree (T : ModS) : Option (Int32 × (ModS)) :=
    (f_X7_writesTree 40 (0, T.2.1, T.2.2.1, T.2.2.2.1, T.2.2.2.2.1, T.2.2.2.2.2.1, T.2.2.2.2.2.2.1, T.2.2.2.2.2.2.2.1, T.2.2.2.2.2.2.2.2.1, 0, T.2.2.2.2.2.2.2.2.2.2.1, T.2.2.2.2.2.2.2.2.2.2.2.1, T.2.2.2.2.2.2.2.2.2.2.2.2.1, T.2.2.2.2.2.2.2.2.2.2.2.2.2.1, T.2.2.2.2.2.2.2.2.2.2.2.2.2.2.1, T.2.2.2.2.2.2.2.2.2.2.2.2.2.2.2.1, T.2.2.2.2.2.2.2.2.2.2.2.2.2.2.2.2) 0 ((T.2.1 (0 : Int32).toNatClampNeg) - 1)).bind fun q2 =>
    some (q2.2.2.2.2.2.2.2.2.2.1, q2)
set_option maxHeartbeats 4000000 in
set_option maxRecDepth 100000 in
theorem c_X7_writeTree (l : Launch) (g : pq_g) (a : Nat → Nat) (T : ModS) (r : Int32) (T1 : ModS) (hf : f_X7_writeTree T = some (r, T1)) : pq_Mi l yX7_writeTree cX7_writeTree 1 .int 84 g (modW g a T) [.ref (a 0)] r (modW g a T1) := by
  rw [f_X7_writeTree] at hf
  refine pq_Mi.of (own := RX7) (by decide) rfl (Nat.le_of_ble_eq_true rfl) rfl ?_
  intro p e s m below meth c ls Q A S hP hK hD hS hA hl hend
  obtain ⟨hx, hb, hml, hown, hts⟩ := id S
  refine lv_aload_n hx hb dX7_writeTree_0 rfl (lv_at hl 0 rfl) ?_
  refine lv_iconst (v := 0) hx hb dX7_writeTree_1 (by decide) ?_
  refine pq_putf S hK hP hD hS inX7 tyX7_ok nmX7 0 rfl rfl 0 (by decide) fl_X7_27 rfl rfl (ty := .int) rfl rfl rfl (Nat.le_of_ble_eq_true rfl) dX7_writeTree_2 (fun H locs hP hS => ?_)
  replace hP : va_P g.1 pq_cl (modW g a (0, T.2.1, T.2.2.1, T.2.2.2.1, T.2.2.2.2.1, T.2.2.2.2.2.1, T.2.2.2.2.2.2.1, T.2.2.2.2.2.2.2.1, T.2.2.2.2.2.2.2.2.1, T.2.2.2.2.2.2.2.2.2.1, T.2.2.2.2.2.2.2.2.2.2.1, T.2.2.2.2.2.2.2.2.2.2.2.1, T.2.2.2.2.2.2.2.2.2.2.2.2.1, T.2.2.2.2.2.2.2.2.2.2.2.2.2.1, T.2.2.2.2.2.2.2.2.2.2.2.2.2.2.1, T.2.2.2.2.2.2.2.2.2.2.2.2.2.2.2.1, T.2.2.2.2.2.2.2.2.2.2.2.2.2.2.2.2)) H := hP
  replace hD : va_D A (modW g a (0, T.2.1, T.2.2.1, T.2.2.2.1, T.2.2.2.2.1, T.2.2.2.2.2.1, T.2.2.2.2.2.2.1, T.2.2.2.2.2.2.2.1, T.2.2.2.2.2.2.2.2.1, T.2.2.2.2.2.2.2.2.2.1, T.2.2.2.2.2.2.2.2.2.2.1, T.2.2.2.2.2.2.2.2.2.2.2.1, T.2.2.2.2.2.2.2.2.2.2.2.2.1, T.2.2.2.2.2.2.2.2.2.2.2.2.2.1, T.2.2.2.2.2.2.2.2.2.2.2.2.2.2.1, T.2.2.2.2.2.2.2.2.2.2.2.2.2.2.2.1, T.2.2.2.2.2.2.2.2.2.2.2.2.2.2.2.2)) := pq_adr hD (ad_X7 _ _)
  refine lv_aload_n hx hb dX7_writeTree_5 rfl (lv_at hl 0 rfl) ?_
  refine lv_iconst (v := 0) hx hb dX7_writeTree_6 (by decide) ?_
  refine pq_putf S hK hP hD hS inX7 tyX7_ok nmX7 0 rfl rfl 9 (by decide) fl_X7_202 rfl rfl (ty := .int) rfl rfl rfl (Nat.le_of_ble_eq_true rfl) dX7_writeTree_7 (fun H locs hP hS => ?_)
  replace hP : va_P g.1 pq_cl (modW g a (0, T.2.1, T.2.2.1, T.2.2.2.1, T.2.2.2.2.1, T.2.2.2.2.2.1, T.2.2.2.2.2.2.1, T.2.2.2.2.2.2.2.1, T.2.2.2.2.2.2.2.2.1, 0, T.2.2.2.2.2.2.2.2.2.2.1, T.2.2.2.2.2.2.2.2.2.2.2.1, T.2.2.2.2.2.2.2.2.2.2.2.2.1, T.2.2.2.2.2.2.2.2.2.2.2.2.2.1, T.2.2.2.2.2.2.2.2.2.2.2.2.2.2.1, T.2.2.2.2.2.2.2.2.2.2.2.2.2.2.2.1, T.2.2.2.2.2.2.2.2.2.2.2.2.2.2.2.2)) H := hP
  replace hD : va_D A (modW g a (0, T.2.1, T.2.2.1, T.2.2.2.1, T.2.2.2.2.1, T.2.2.2.2.2.1, T.2.2.2.2.2.2.1, T.2.2.2.2.2.2.2.1, T.2.2.2.2.2.2.2.2.1, 0, T.2.2.2.2.2.2.2.2.2.2.1, T.2.2.2.2.2.2.2.2.2.2.2.1, T.2.2.2.2.2.2.2.2.2.2.2.2.1, T.2.2.2.2.2.2.2.2.2.2.2.2.2.1, T.2.2.2.2.2.2.2.2.2.2.2.2.2.2.1, T.2.2.2.2.2.2.2.2.2.2.2.2.2.2.2.1, T.2.2.2.2.2.2.2.2.2.2.2.2.2.2.2.2)) := pq_adr hD (ad_X7 _ _)
  refine lv_aload_n hx hb dX7_writeTree_10 rfl (lv_at hl 0 rfl) ?_
  refine lv_iconst (v := 0) hx hb dX7_writeTree_11 (by decide) ?_
  refine lv_aload_n hx hb dX7_writeTree_12 rfl (lv_at hl 0 rfl) ?_
  refine pq_get S hK hP inX7 0 rfl rfl 1 (by decide) fl_X7_9 rfl (v := .ref (a 1)) rfl dX7_writeTree_13 ?_
  refine lv_iconst (v := 0) hx hb dX7_writeTree_16 (by decide) ?_
  refine va_iald hx hb hK.1 hP 1 0 rfl rfl (show ¬ ((0 : Int32) < 0 ∨ 770 ≤ (0 : Int32).toNatClampNeg) by decide) dX7_writeTree_17 ?_
  refine lv_iconst (v := 1) hx hb dX7_writeTree_18 (by decide) ?_
  refine lv_isub hx hb dX7_writeTree_19 ?_
  obtain ⟨q2, e1, hf⟩ := pq_bind hf
  refine pq_cVv S (c_X7_writesTree l g a 40 (0, T.2.1, T.2.2.1, T.2.2.2.1, T.2.2.2.2.1, T.2.2.2.2.2.1, T.2.2.2.2.2.2.1, T.2.2.2.2.2.2.2.1, T.2.2.2.2.2.2.2.2.1, 0, T.2.2.2.2.2.2.2.2.2.2.1, T.2.2.2.2.2.2.2.2.2.2.2.1, T.2.2.2.2.2.2.2.2.2.2.2.2.1, T.2.2.2.2.2.2.2.2.2.2.2.2.2.1, T.2.2.2.2.2.2.2.2.2.2.2.2.2.2.1, T.2.2.2.2.2.2.2.2.2.2.2.2.2.2.2.1, T.2.2.2.2.2.2.2.2.2.2.2.2.2.2.2.2) 0 ((T.2.1 (0 : Int32).toNatClampNeg) - 1) q2 e1) vv_X7_211 hK hP hD hS hA rfl rfl rfl rfl rfl hl.1 (Nat.le_of_ble_eq_true rfl) dX7_writeTree_20 (by decide) (by decide) ⟨Nat.le_refl _, Nat.le_refl _⟩ (fun H9 locs hk hP1 hS => ?_)
  replace hP := hP1
  replace hP : va_P g.1 pq_cl (modW g a q2) H9 := hP
  replace hD : va_D A (modW g a q2) := pq_adr hD (ad_X7 _ _)
  clear hk
  generalize H9 = H at hP hS ⊢
  refine lv_aload_n hx hb dX7_writeTree_23 rfl (lv_at hl 0 rfl) ?_
  refine pq_get S hK hP inX7 0 rfl rfl 9 (by decide) fl_X7_202 rfl (v := .int q2.2.2.2.2.2.2.2.2.2.1) rfl dX7_writeTree_24 ?_
  obtain ⟨h8, h9⟩ := pq_pair hf
  exact hend _ _ _ _ _ dX7_writeTree_27 rfl h8 (by rw [← h9]; exact hP) hS
def f_X7_writeWindow_c61 (k17 : ModS → Int32 → Int32 → Option (Int32 × (ModS))) (T : ModS) (v1 : Int32) (v2 : Int32) : Option (Int32 × (ModS)) :=
    (f_X7_key T v2).bind fun q2 =>
    (f_X7_writesNumber 40 T q2).bind fun q4 =>
    k17 q4 v1 (v2 + 1)
def f_X7_writeWindow_c17 : Nat → ModS → Int32 → Int32 → Option (Int32 × (ModS))
  | 0, _, _, _ => none
  | n + 1, T, v1, v2 =>
    if (T.2.1 (0 : Int32).toNatClampNeg) ≤ v2 then
      some (T.2.2.2.2.2.2.2.2.2.1, T)
    else
      (f_X7_key T v2).bind fun q7 =>
      (f_X7_priority T v2).bind fun q9 =>
      (f_X7_isWithin T v1 q7 q9).bind fun q11 =>
      if q11 = 0 then
        f_X7_writeWindow_c17 n T v1 (v2 + 1)
      else
        if T.2.2.2.2.2.2.2.2.2.1 ≤ 0 then
          f_X7_writeWindow_c61 (f_X7_writeWindow_c17 n) T v1 v2
        else
          (f_X7_writes T 44).bind fun q15 =>
          f_X7_writeWindow_c61 (f_X7_writeWindow_c17 n) q15 v1 v2
def f_X7_writeWindow (T : ModS) (p1 : Int32) : Option (Int32 × (ModS)) :=
    (f_X7_isSet T p1).bind fun q17 =>
    if q17.1 = 0 then
      some (0, q17.2)
    else
      f_X7_writeWindow_c17 200 (q17.2.1, q17.2.2.1, q17.2.2.2.1, q17.2.2.2.2.1, q17.2.2.2.2.2.1, q17.2.2.2.2.2.2.1, q17.2.2.2.2.2.2.2.1, q17.2.2.2.2.2.2.2.2.1, q17.2.2.2.2.2.2.2.2.2.1, 0, q17.2.2.2.2.2.2.2.2.2.2.2.1, q17.2.2.2.2.2.2.2.2.2.2.2.2.1, q17.2.2.2.2.2.2.2.2.2.2.2.2.2.1, q17.2.2.2.2.2.2.2.2.2.2.2.2.2.2.1, q17.2.2.2.2.2.2.2.2.2.2.2.2.2.2.2.1, q17.2.2.2.2.2.2.2.2.2.2.2.2.2.2.2.2.1, q17.2.2.2.2.2.2.2.2.2.2.2.2.2.2.2.2.2) p1 0
set_option maxHeartbeats 4000000 in
set_option maxRecDepth 100000 in
theorem c_X7_writeWindow (l : Launch) (g : pq_g) (a : Nat → Nat) (T : ModS) (p1 : Int32) (r : Int32) (T1 : ModS) (hf : f_X7_writeWindow T p1 = some (r, T1)) : pq_Mi l yX7_writeWindow cX7_writeWindow 3 .int 43 g (modW g a T) [.ref (a 0), .int p1] r (modW g a T1) := by
  rw [f_X7_writeWindow] at hf
  refine pq_Mi.of (own := RX7) (by decide) rfl (Nat.le_of_ble_eq_true rfl) rfl ?_
  intro p e s m below meth c ls Q A S hP hK hD hS hA hl hend
  obtain ⟨hx, hb, hml, hown, hts⟩ := id S
  have B17 : ∀ (n17 : Nat) (T : ModS) (v1 : Int32) (v2 : Int32) (ls : Array Slot) (H : Heap) (locs : List Loc), va_P g.1 pq_cl (modW g a T) H → va_D A (modW g a T) → va_S A s.heap H locs → lv_has ls 3 [(0, .ref (a 0)), (1, .int v1), (2, .int v2)] → f_X7_writeWindow_c17 n17 T v1 v2 = some (r, T1) → W p l e (pq_rm 43 0 0) s m ([.ref (a 0), .int p1] : List Value).toArray below meth c H locs 0 0 Q (F0 m 17 ls []) := by
    intro n17
    induction n17 with
    | zero =>
      intro T v1 v2 ls H locs hP hD hS hl hf
      exact absurd hf (by simp [f_X7_writeWindow_c17])
    | succ n17 ih17 =>
      have B61 : ∀ (T : ModS) (v1 : Int32) (v2 : Int32) (ls : Array Slot) (H : Heap) (locs : List Loc), va_P g.1 pq_cl (modW g a T) H → va_D A (modW g a T) → va_S A s.heap H locs → lv_has ls 3 [(0, .ref (a 0)), (1, .int v1), (2, .int v2)] → f_X7_writeWindow_c61 (f_X7_writeWindow_c17 n17) T v1 v2 = some (r, T1) → W p l e (pq_rm 43 0 0) s m ([.ref (a 0), .int p1] : List Value).toArray below meth c H locs 0 0 Q (F0 m 61 ls []) := by
        intro T v1 v2 ls H locs hP hD hS hl hf
        rw [f_X7_writeWindow_c61] at hf
        refine lv_aload_n hx hb dX7_writeWindow_61 rfl (lv_at hl 0 rfl) ?_
        refine lv_aload_n hx hb dX7_writeWindow_62 rfl (lv_at hl 0 rfl) ?_
        refine lv_iload_n hx hb dX7_writeWindow_63 rfl (lv_at hl 2 rfl) ?_
        obtain ⟨q2, e1, hf⟩ := pq_bind hf
        refine pq_cV S (c_X7_key l g a T v2 q2 e1) vv_X7_57 hK hP rfl rfl rfl rfl rfl hl.1 (Nat.le_of_ble_eq_true rfl) dX7_writeWindow_64 (by decide) (by decide) ⟨Nat.le_refl _, Nat.le_refl _⟩ ?_
        obtain ⟨q4, e3, hf⟩ := pq_bind hf
        refine pq_cVv S (c_X7_writesNumber l g a 40 T q2 q4 e3) vv_X7_205 hK hP hD hS hA rfl rfl rfl rfl rfl hl.1 (Nat.le_of_ble_eq_true rfl) dX7_writeWindow_67 (by decide) (by decide) ⟨Nat.le_refl _, Nat.le_refl _⟩ (fun H9 locs hk hP1 hS => ?_)
        replace hP := hP1
        replace hP : va_P g.1 pq_cl (modW g a q4) H9 := hP
        replace hD : va_D A (modW g a q4) := pq_adr hD (ad_X7 _ _)
        clear hk
        generalize H9 = H at hP hS ⊢
        refine lv_iinc (v := (v2 + 1)) (lv' := [(2, .int (v2 + 1)), (0, .ref (a 0)), (1, .int v1)]) hx hb dX7_writeWindow_70 hl (k := 2) rfl rfl (by decide) rfl (fun ls hl => ?_)
        refine lv_goto (tgt := 17) hx hb dX7_writeWindow_73 (by decide) ?_
        exact ih17 q4 v1 (v2 + 1) ls _ _ hP hD hS (lv_sub hl [1, 2, 0] rfl) hf
      intro T v1 v2 ls H locs hP hD hS hl hf
      rw [f_X7_writeWindow_c17] at hf
      refine lv_iload_n hx hb dX7_writeWindow_17 rfl (lv_at hl 2 rfl) ?_
      refine lv_aload_n hx hb dX7_writeWindow_18 rfl (lv_at hl 0 rfl) ?_
      refine pq_get S hK hP inX7 0 rfl rfl 1 (by decide) fl_X7_9 rfl (v := .ref (a 1)) rfl dX7_writeWindow_19 ?_
      refine lv_iconst (v := 0) hx hb dX7_writeWindow_22 (by decide) ?_
      refine va_iald hx hb hK.1 hP 1 0 rfl rfl (show ¬ ((0 : Int32) < 0 ∨ 770 ≤ (0 : Int32).toNatClampNeg) by decide) dX7_writeWindow_23 ?_
      refine lv_icmp_ge (tgt := 76) hx hb dX7_writeWindow_24 (by decide) (fun h5 => ?_) (fun h5 => ?_)
      · replace hf := pq_ifp h5 hf
        refine lv_aload_n hx hb dX7_writeWindow_76 rfl (lv_at hl 0 rfl) ?_
        refine pq_get S hK hP inX7 0 rfl rfl 9 (by decide) fl_X7_202 rfl (v := .int T.2.2.2.2.2.2.2.2.2.1) rfl dX7_writeWindow_77 ?_
        obtain ⟨h8, h9⟩ := pq_pair hf
        exact hend _ _ _ _ _ dX7_writeWindow_80 rfl h8 (by rw [← h9]; exact hP) hS
      · replace hf := pq_ifn h5 hf
        refine lv_aload_n hx hb dX7_writeWindow_27 rfl (lv_at hl 0 rfl) ?_
        refine lv_iload_n hx hb dX7_writeWindow_28 rfl (lv_at hl 1 rfl) ?_
        refine lv_aload_n hx hb dX7_writeWindow_29 rfl (lv_at hl 0 rfl) ?_
        refine lv_iload_n hx hb dX7_writeWindow_30 rfl (lv_at hl 2 rfl) ?_
        obtain ⟨q7, e6, hf⟩ := pq_bind hf
        refine pq_cV S (c_X7_key l g a T v2 q7 e6) vv_X7_57 hK hP rfl rfl rfl rfl rfl hl.1 (Nat.le_of_ble_eq_true rfl) dX7_writeWindow_31 (by decide) (by decide) ⟨Nat.le_refl _, Nat.le_refl _⟩ ?_
        refine lv_aload_n hx hb dX7_writeWindow_34 rfl (lv_at hl 0 rfl) ?_
        refine lv_iload_n hx hb dX7_writeWindow_35 rfl (lv_at hl 2 rfl) ?_
        obtain ⟨q9, e8, hf⟩ := pq_bind hf
        refine pq_cV S (c_X7_priority l g a T v2 q9 e8) vv_X7_64 hK hP rfl rfl rfl rfl rfl hl.1 (Nat.le_of_ble_eq_true rfl) dX7_writeWindow_36 (by decide) (by decide) ⟨Nat.le_refl _, Nat.le_refl _⟩ ?_
        obtain ⟨q11, e10, hf⟩ := pq_bind hf
        refine pq_cV S (c_X7_isWithin l g a T v1 q7 q9 q11 e10) vv_X7_94 hK hP rfl rfl rfl rfl rfl hl.1 (Nat.le_of_ble_eq_true rfl) dX7_writeWindow_39 (by decide) (by decide) ⟨Nat.le_refl _, Nat.le_refl _⟩ ?_
        refine lv_if_ne (tgt := 48) hx hb dX7_writeWindow_42 (by decide) (fun h12 => ?_) (fun h12 => ?_)
        · replace hf := pq_ifn h12 hf
          refine lv_aload_n hx hb dX7_writeWindow_48 rfl (lv_at hl 0 rfl) ?_
          refine pq_get S hK hP inX7 0 rfl rfl 9 (by decide) fl_X7_202 rfl (v := .int T.2.2.2.2.2.2.2.2.2.1) rfl dX7_writeWindow_49 ?_
          refine lv_if_le (tgt := 61) hx hb dX7_writeWindow_52 (by decide) (fun h13 => ?_) (fun h13 => ?_)
          · replace hf := pq_ifp h13 hf
            exact B61 T v1 v2 ls _ _ hP hD hS (lv_sub hl [0, 1, 2] rfl) hf
          · replace hf := pq_ifn h13 hf
            refine lv_aload_n hx hb dX7_writeWindow_55 rfl (lv_at hl 0 rfl) ?_
            refine lv_bipush (v := 44) hx hb dX7_writeWindow_56 (by decide) ?_
            obtain ⟨q15, e14, hf⟩ := pq_bind hf
            refine pq_cVv S (c_X7_writes l g a T 44 q15 e14) vv_X7_208 hK hP hD hS hA rfl rfl rfl rfl rfl hl.1 (Nat.le_of_ble_eq_true rfl) dX7_writeWindow_58 (by decide) (by decide) ⟨Nat.le_refl _, Nat.le_refl _⟩ (fun H9 locs hk hP1 hS => ?_)
            replace hP := hP1
            replace hP : va_P g.1 pq_cl (modW g a q15) H9 := hP
            replace hD : va_D A (modW g a q15) := pq_adr hD (ad_X7 _ _)
            clear hk
            generalize H9 = H at hP hS ⊢
            exact B61 q15 v1 v2 ls _ _ hP hD hS (lv_sub hl [0, 1, 2] rfl) hf
        · replace hf := pq_ifp h12 hf
          refine lv_goto (tgt := 70) hx hb dX7_writeWindow_45 (by decide) ?_
          refine lv_iinc (v := (v2 + 1)) (lv' := [(2, .int (v2 + 1)), (0, .ref (a 0)), (1, .int v1)]) hx hb dX7_writeWindow_70 hl (k := 2) rfl rfl (by decide) rfl (fun ls hl => ?_)
          refine lv_goto (tgt := 17) hx hb dX7_writeWindow_73 (by decide) ?_
          exact ih17 T v1 (v2 + 1) ls _ _ hP hD hS (lv_sub hl [1, 2, 0] rfl) hf
  refine lv_aload_n hx hb dX7_writeWindow_0 rfl (lv_at hl 0 rfl) ?_
  refine lv_iload_n hx hb dX7_writeWindow_1 rfl (lv_at hl 1 rfl) ?_
  obtain ⟨q17, e16, hf⟩ := pq_bind hf
  refine pq_cVi S (c_X7_isSet l g a T p1 q17.1 q17.2 e16) vv_X7_199 hK hP hD hS hA rfl rfl rfl rfl rfl hl.1 (Nat.le_of_ble_eq_true rfl) dX7_writeWindow_2 (by decide) (by decide) ⟨Nat.le_refl _, Nat.le_refl _⟩ (fun H9 locs hk hP1 hS => ?_)
  replace hP := hP1
  replace hP : va_P g.1 pq_cl (modW g a q17.2) H9 := hP
  replace hD : va_D A (modW g a q17.2) := pq_adr hD (ad_X7 _ _)
  clear hk
  generalize H9 = H at hP hS ⊢
  refine lv_if_ne (tgt := 10) hx hb dX7_writeWindow_5 (by decide) (fun h18 => ?_) (fun h18 => ?_)
  · replace hf := pq_ifn h18 hf
    refine lv_aload_n hx hb dX7_writeWindow_10 rfl (lv_at hl 0 rfl) ?_
    refine lv_iconst (v := 0) hx hb dX7_writeWindow_11 (by decide) ?_
    refine pq_putf S hK hP hD hS inX7 tyX7_ok nmX7 0 rfl rfl 9 (by decide) fl_X7_202 rfl rfl (ty := .int) rfl rfl rfl (Nat.le_of_ble_eq_true rfl) dX7_writeWindow_12 (fun H locs hP hS => ?_)
    replace hP : va_P g.1 pq_cl (modW g a (q17.2.1, q17.2.2.1, q17.2.2.2.1, q17.2.2.2.2.1, q17.2.2.2.2.2.1, q17.2.2.2.2.2.2.1, q17.2.2.2.2.2.2.2.1, q17.2.2.2.2.2.2.2.2.1, q17.2.2.2.2.2.2.2.2.2.1, 0, q17.2.2.2.2.2.2.2.2.2.2.2.1, q17.2.2.2.2.2.2.2.2.2.2.2.2.1, q17.2.2.2.2.2.2.2.2.2.2.2.2.2.1, q17.2.2.2.2.2.2.2.2.2.2.2.2.2.2.1, q17.2.2.2.2.2.2.2.2.2.2.2.2.2.2.2.1, q17.2.2.2.2.2.2.2.2.2.2.2.2.2.2.2.2.1, q17.2.2.2.2.2.2.2.2.2.2.2.2.2.2.2.2.2)) H := hP
    replace hD : va_D A (modW g a (q17.2.1, q17.2.2.1, q17.2.2.2.1, q17.2.2.2.2.1, q17.2.2.2.2.2.1, q17.2.2.2.2.2.2.1, q17.2.2.2.2.2.2.2.1, q17.2.2.2.2.2.2.2.2.1, q17.2.2.2.2.2.2.2.2.2.1, 0, q17.2.2.2.2.2.2.2.2.2.2.2.1, q17.2.2.2.2.2.2.2.2.2.2.2.2.1, q17.2.2.2.2.2.2.2.2.2.2.2.2.2.1, q17.2.2.2.2.2.2.2.2.2.2.2.2.2.2.1, q17.2.2.2.2.2.2.2.2.2.2.2.2.2.2.2.1, q17.2.2.2.2.2.2.2.2.2.2.2.2.2.2.2.2.1, q17.2.2.2.2.2.2.2.2.2.2.2.2.2.2.2.2.2)) := pq_adr hD (ad_X7 _ _)
    refine lv_iconst (v := 0) hx hb dX7_writeWindow_15 (by decide) ?_
    refine lv_istore_n (lv' := [(2, .int 0), (0, .ref (a 0)), (1, .int p1)]) hx hb dX7_writeWindow_16 rfl hl (by decide) rfl (fun ls hl => ?_)
    exact B17 200 (q17.2.1, q17.2.2.1, q17.2.2.2.1, q17.2.2.2.2.1, q17.2.2.2.2.2.1, q17.2.2.2.2.2.2.1, q17.2.2.2.2.2.2.2.1, q17.2.2.2.2.2.2.2.2.1, q17.2.2.2.2.2.2.2.2.2.1, 0, q17.2.2.2.2.2.2.2.2.2.2.2.1, q17.2.2.2.2.2.2.2.2.2.2.2.2.1, q17.2.2.2.2.2.2.2.2.2.2.2.2.2.1, q17.2.2.2.2.2.2.2.2.2.2.2.2.2.2.1, q17.2.2.2.2.2.2.2.2.2.2.2.2.2.2.2.1, q17.2.2.2.2.2.2.2.2.2.2.2.2.2.2.2.2.1, q17.2.2.2.2.2.2.2.2.2.2.2.2.2.2.2.2.2) p1 0 ls _ _ hP hD hS (lv_sub hl [1, 2, 0] rfl) hf
  · replace hf := pq_ifp h18 hf
    refine lv_iconst (v := 0) hx hb dX7_writeWindow_8 (by decide) ?_
    obtain ⟨h8, h9⟩ := pq_pair hf
    exact hend _ _ _ _ _ dX7_writeWindow_9 rfl h8 (by rw [← h9]; exact hP) hS
def f_X7_outputAt (T : ModS) (p1 : Int32) : Option (Int32 × (ModS)) :=
    (f_X7_in p1 0 (T.2.2.2.2.2.2.2.2.2.1 - 1)).bind fun q2 =>
    (f_X7_isFine T q2).bind fun q4 =>
    if q4.1 = 0 then
      some (0, q4.2)
    else
      if (p1 < 0 ∨ 200 ≤ p1.toNatClampNeg) then none
      else
        if vp_nar .char (q4.2.2.2.2.2.2.2.2.2.1 p1.toNatClampNeg) = (q4.2.2.2.2.2.2.2.2.2.1 p1.toNatClampNeg) then
          some ((q4.2.2.2.2.2.2.2.2.2.1 p1.toNatClampNeg), q4.2)
        else none
set_option maxHeartbeats 4000000 in
set_option maxRecDepth 100000 in
theorem c_X7_outputAt (l : Launch) (g : pq_g) (a : Nat → Nat) (T : ModS) (p1 : Int32) (r : Int32) (T1 : ModS) (hf : f_X7_outputAt T p1 = some (r, T1)) : pq_Mi l yX7_outputAt cX7_outputAt 2 .char 2 g (modW g a T) [.ref (a 0), .int p1] r (modW g a T1) := by
  rw [f_X7_outputAt] at hf
  refine pq_Mi.of (own := RX7) (by decide) rfl (Nat.le_of_ble_eq_true rfl) rfl ?_
  intro p e s m below meth c ls Q A S hP hK hD hS hA hl hend
  obtain ⟨hx, hb, hml, hown, hts⟩ := id S
  refine lv_aload_n hx hb dX7_outputAt_0 rfl (lv_at hl 0 rfl) ?_
  refine lv_iload_n hx hb dX7_outputAt_1 rfl (lv_at hl 1 rfl) ?_
  refine lv_iconst (v := 0) hx hb dX7_outputAt_2 (by decide) ?_
  refine lv_aload_n hx hb dX7_outputAt_3 rfl (lv_at hl 0 rfl) ?_
  refine pq_get S hK hP inX7 0 rfl rfl 9 (by decide) fl_X7_202 rfl (v := .int T.2.2.2.2.2.2.2.2.2.1) rfl dX7_outputAt_4 ?_
  refine lv_iconst (v := 1) hx hb dX7_outputAt_7 (by decide) ?_
  refine lv_isub hx hb dX7_outputAt_8 ?_
  obtain ⟨q2, e1, hf⟩ := pq_bind hf
  refine pq_cS S (c_X7_in l g p1 0 (T.2.2.2.2.2.2.2.2.2.1 - 1) q2 e1) vs_X7_30 hK (hP.sub [] rfl) rfl rfl hl.1 (Nat.le_of_ble_eq_true rfl) dX7_outputAt_9 (by decide) (by decide) ⟨Nat.le_refl _, Nat.le_refl _⟩ ?_
  obtain ⟨q4, e3, hf⟩ := pq_bind hf
  refine pq_cVi S (c_X7_isFine l g a T q2 q4.1 q4.2 e3) vv_X7_53 hK hP hD hS hA rfl rfl rfl rfl rfl hl.1 (Nat.le_of_ble_eq_true rfl) dX7_outputAt_12 (by decide) (by decide) ⟨Nat.le_refl _, Nat.le_refl _⟩ (fun H9 locs hk hP1 hS => ?_)
  replace hP := hP1
  replace hP : va_P g.1 pq_cl (modW g a q4.2) H9 := hP
  replace hD : va_D A (modW g a q4.2) := pq_adr hD (ad_X7 _ _)
  clear hk
  generalize H9 = H at hP hS ⊢
  refine lv_if_eq (tgt := 27) hx hb dX7_outputAt_15 (by decide) (fun h5 => ?_) (fun h5 => ?_)
  · replace hf := pq_ifp h5 hf
    refine lv_iconst (v := 0) hx hb dX7_outputAt_27 (by decide) ?_
    obtain ⟨h8, h9⟩ := pq_pair hf
    exact hend _ _ _ _ _ dX7_outputAt_28 rfl h8 (by rw [← h9]; exact hP) hS
  · replace hf := pq_ifn h5 hf
    refine lv_aload_n hx hb dX7_outputAt_18 rfl (lv_at hl 0 rfl) ?_
    refine pq_get S hK hP inX7 0 rfl rfl 8 (by decide) fl_X7_13 rfl (v := .ref (a 2)) rfl dX7_outputAt_19 ?_
    refine lv_iload_n hx hb dX7_outputAt_22 rfl (lv_at hl 1 rfl) ?_
    by_cases h6 : (p1 < 0 ∨ 200 ≤ p1.toNatClampNeg)
    · exact absurd (pq_ifp h6 hf) (fun h9 => by cases h9)
    replace hf := pq_ifn h6 hf
    refine va_cald hx hb hK.1 hP 2 1 rfl rfl h6 dX7_outputAt_23 ?_
    refine lv_goto (tgt := 28) hx hb dX7_outputAt_24 (by decide) ?_
    by_cases h7 : vp_nar .char (q4.2.2.2.2.2.2.2.2.2.1 p1.toNatClampNeg) = (q4.2.2.2.2.2.2.2.2.2.1 p1.toNatClampNeg)
    case neg => exact absurd (pq_ifn h7 hf) (fun h9 => by cases h9)
    replace hf := pq_ifp h7 hf
    obtain ⟨h8, h9⟩ := pq_pair hf
    exact hend _ _ _ _ _ dX7_outputAt_28 (pq_nch h7) h8 (by rw [← h9]; exact hP) hS
def f_X7_appendInput (T : ModS) (p1 : Int32) : Option (Int32 × (ModS)) :=
    (f_X7_in p1 32 126).bind fun q2 =>
    if q2 = 0 then
      some (0, (1, T.2.1, T.2.2.1, T.2.2.2.1, T.2.2.2.2.1, T.2.2.2.2.2.1, T.2.2.2.2.2.2.1, T.2.2.2.2.2.2.2.1, T.2.2.2.2.2.2.2.2.1, T.2.2.2.2.2.2.2.2.2.1, T.2.2.2.2.2.2.2.2.2.2.1, T.2.2.2.2.2.2.2.2.2.2.2.1, T.2.2.2.2.2.2.2.2.2.2.2.2.1, T.2.2.2.2.2.2.2.2.2.2.2.2.2.1, T.2.2.2.2.2.2.2.2.2.2.2.2.2.2.1, T.2.2.2.2.2.2.2.2.2.2.2.2.2.2.2.1, T.2.2.2.2.2.2.2.2.2.2.2.2.2.2.2.2))
    else
      if T.2.2.2.2.2.2.2.2.2.2.2.1 = 60 then
        some (0, (2, T.2.1, T.2.2.1, T.2.2.2.1, T.2.2.2.2.1, T.2.2.2.2.2.1, T.2.2.2.2.2.2.1, T.2.2.2.2.2.2.2.1, T.2.2.2.2.2.2.2.2.1, T.2.2.2.2.2.2.2.2.2.1, T.2.2.2.2.2.2.2.2.2.2.1, T.2.2.2.2.2.2.2.2.2.2.2.1, T.2.2.2.2.2.2.2.2.2.2.2.2.1, T.2.2.2.2.2.2.2.2.2.2.2.2.2.1, T.2.2.2.2.2.2.2.2.2.2.2.2.2.2.1, T.2.2.2.2.2.2.2.2.2.2.2.2.2.2.2.1, T.2.2.2.2.2.2.2.2.2.2.2.2.2.2.2.2))
      else
        if (T.2.2.2.2.2.2.2.2.2.2.2.1 < 0 ∨ 60 ≤ T.2.2.2.2.2.2.2.2.2.2.2.1.toNatClampNeg) then none
        else
          some ((T.2.2.2.2.2.2.2.2.2.2.2.1 + 1), (0, T.2.1, T.2.2.1, T.2.2.2.1, T.2.2.2.2.1, T.2.2.2.2.2.1, T.2.2.2.2.2.2.1, T.2.2.2.2.2.2.2.1, T.2.2.2.2.2.2.2.2.1, T.2.2.2.2.2.2.2.2.2.1, (upd T.2.2.2.2.2.2.2.2.2.2.1 T.2.2.2.2.2.2.2.2.2.2.2.1.toNatClampNeg (vp_nar .char p1)), (T.2.2.2.2.2.2.2.2.2.2.2.1 + 1), T.2.2.2.2.2.2.2.2.2.2.2.2.1, T.2.2.2.2.2.2.2.2.2.2.2.2.2.1, T.2.2.2.2.2.2.2.2.2.2.2.2.2.2.1, T.2.2.2.2.2.2.2.2.2.2.2.2.2.2.2.1, T.2.2.2.2.2.2.2.2.2.2.2.2.2.2.2.2))
set_option maxHeartbeats 4000000 in
set_option maxRecDepth 100000 in
theorem c_X7_appendInput (l : Launch) (g : pq_g) (a : Nat → Nat) (T : ModS) (p1 : Int32) (r : Int32) (T1 : ModS) (hf : f_X7_appendInput T p1 = some (r, T1)) : pq_Mi l yX7_appendInput cX7_appendInput 2 .int 2 g (modW g a T) [.ref (a 0), .int p1] r (modW g a T1) := by
  rw [f_X7_appendInput] at hf
  refine pq_Mi.of (own := RX7) (by decide) rfl (Nat.le_of_ble_eq_true rfl) rfl ?_
  intro p e s m below meth c ls Q A S hP hK hD hS hA hl hend
  obtain ⟨hx, hb, hml, hown, hts⟩ := id S
  refine lv_aload_n hx hb dX7_appendInput_0 rfl (lv_at hl 0 rfl) ?_
  refine lv_iload_n hx hb dX7_appendInput_1 rfl (lv_at hl 1 rfl) ?_
  refine lv_bipush (v := 32) hx hb dX7_appendInput_2 (by decide) ?_
  refine lv_bipush (v := 126) hx hb dX7_appendInput_4 (by decide) ?_
  obtain ⟨q2, e1, hf⟩ := pq_bind hf
  refine pq_cS S (c_X7_in l g p1 32 126 q2 e1) vs_X7_30 hK (hP.sub [] rfl) rfl rfl hl.1 (Nat.le_of_ble_eq_true rfl) dX7_appendInput_6 (by decide) (by decide) ⟨Nat.le_refl _, Nat.le_refl _⟩ ?_
  refine lv_if_ne (tgt := 16) hx hb dX7_appendInput_9 (by decide) (fun h3 => ?_) (fun h3 => ?_)
  · replace hf := pq_ifn h3 hf
    refine lv_aload_n hx hb dX7_appendInput_16 rfl (lv_at hl 0 rfl) ?_
    refine pq_get S hK hP inX7 0 rfl rfl 11 (by decide) fl_X7_214 rfl (v := .int T.2.2.2.2.2.2.2.2.2.2.2.1) rfl dX7_appendInput_17 ?_
    refine lv_bipush (v := 60) hx hb dX7_appendInput_20 (by decide) ?_
    refine lv_icmp_ne (tgt := 29) hx hb dX7_appendInput_22 (by decide) (fun h4 => ?_) (fun h4 => ?_)
    · replace hf := pq_ifn h4 hf
      refine lv_iconst (v := 0) hx hb dX7_appendInput_29 (by decide) ?_
      refine pq_putf S hK hP hD hS inX7 tyX7_ok nmX7 0 rfl rfl 0 (by decide) fl_X7_27 rfl rfl (ty := .int) rfl rfl rfl (Nat.le_of_ble_eq_true rfl) dX7_appendInput_30 (fun H locs hP hS => ?_)
      replace hP : va_P g.1 pq_cl (modW g a (0, T.2.1, T.2.2.1, T.2.2.2.1, T.2.2.2.2.1, T.2.2.2.2.2.1, T.2.2.2.2.2.2.1, T.2.2.2.2.2.2.2.1, T.2.2.2.2.2.2.2.2.1, T.2.2.2.2.2.2.2.2.2.1, T.2.2.2.2.2.2.2.2.2.2.1, T.2.2.2.2.2.2.2.2.2.2.2.1, T.2.2.2.2.2.2.2.2.2.2.2.2.1, T.2.2.2.2.2.2.2.2.2.2.2.2.2.1, T.2.2.2.2.2.2.2.2.2.2.2.2.2.2.1, T.2.2.2.2.2.2.2.2.2.2.2.2.2.2.2.1, T.2.2.2.2.2.2.2.2.2.2.2.2.2.2.2.2)) H := hP
      replace hD : va_D A (modW g a (0, T.2.1, T.2.2.1, T.2.2.2.1, T.2.2.2.2.1, T.2.2.2.2.2.1, T.2.2.2.2.2.2.1, T.2.2.2.2.2.2.2.1, T.2.2.2.2.2.2.2.2.1, T.2.2.2.2.2.2.2.2.2.1, T.2.2.2.2.2.2.2.2.2.2.1, T.2.2.2.2.2.2.2.2.2.2.2.1, T.2.2.2.2.2.2.2.2.2.2.2.2.1, T.2.2.2.2.2.2.2.2.2.2.2.2.2.1, T.2.2.2.2.2.2.2.2.2.2.2.2.2.2.1, T.2.2.2.2.2.2.2.2.2.2.2.2.2.2.2.1, T.2.2.2.2.2.2.2.2.2.2.2.2.2.2.2.2)) := pq_adr hD (ad_X7 _ _)
      refine lv_aload_n hx hb dX7_appendInput_33 rfl (lv_at hl 0 rfl) ?_
      refine pq_get S hK hP inX7 0 rfl rfl 0 (by decide) fl_X7_27 rfl (v := .int 0) rfl dX7_appendInput_34 ?_
      refine lv_if_eq (tgt := 42) hx hb dX7_appendInput_37 (by decide) (fun _ => ?_) (fun h9 => absurd h9 (by decide))
      refine lv_aload_n hx hb dX7_appendInput_42 rfl (lv_at hl 0 rfl) ?_
      refine pq_get S hK hP inX7 0 rfl rfl 10 (by decide) fl_X7_17 rfl (v := .ref (a 3)) rfl dX7_appendInput_43 ?_
      refine lv_aload_n hx hb dX7_appendInput_46 rfl (lv_at hl 0 rfl) ?_
      refine pq_get S hK hP inX7 0 rfl rfl 11 (by decide) fl_X7_214 rfl (v := .int T.2.2.2.2.2.2.2.2.2.2.2.1) rfl dX7_appendInput_47 ?_
      refine lv_iload_n hx hb dX7_appendInput_50 rfl (lv_at hl 1 rfl) ?_
      by_cases h5 : (T.2.2.2.2.2.2.2.2.2.2.2.1 < 0 ∨ 60 ≤ T.2.2.2.2.2.2.2.2.2.2.2.1.toNatClampNeg)
      · exact absurd (pq_ifp h5 hf) (fun h9 => by cases h9)
      replace hf := pq_ifn h5 hf
      refine va_cast hx hb hK.1 hP hD hS 3 1 rfl rfl h5 dX7_appendInput_51 (fun H locs hP _ hS => ?_)
      replace hP : va_P g.1 pq_cl (modW g a (0, T.2.1, T.2.2.1, T.2.2.2.1, T.2.2.2.2.1, T.2.2.2.2.2.1, T.2.2.2.2.2.2.1, T.2.2.2.2.2.2.2.1, T.2.2.2.2.2.2.2.2.1, T.2.2.2.2.2.2.2.2.2.1, (upd T.2.2.2.2.2.2.2.2.2.2.1 T.2.2.2.2.2.2.2.2.2.2.2.1.toNatClampNeg (vp_nar .char p1)), T.2.2.2.2.2.2.2.2.2.2.2.1, T.2.2.2.2.2.2.2.2.2.2.2.2.1, T.2.2.2.2.2.2.2.2.2.2.2.2.2.1, T.2.2.2.2.2.2.2.2.2.2.2.2.2.2.1, T.2.2.2.2.2.2.2.2.2.2.2.2.2.2.2.1, T.2.2.2.2.2.2.2.2.2.2.2.2.2.2.2.2)) H := hP
      replace hD : va_D A (modW g a (0, T.2.1, T.2.2.1, T.2.2.2.1, T.2.2.2.2.1, T.2.2.2.2.2.1, T.2.2.2.2.2.2.1, T.2.2.2.2.2.2.2.1, T.2.2.2.2.2.2.2.2.1, T.2.2.2.2.2.2.2.2.2.1, (upd T.2.2.2.2.2.2.2.2.2.2.1 T.2.2.2.2.2.2.2.2.2.2.2.1.toNatClampNeg (vp_nar .char p1)), T.2.2.2.2.2.2.2.2.2.2.2.1, T.2.2.2.2.2.2.2.2.2.2.2.2.1, T.2.2.2.2.2.2.2.2.2.2.2.2.2.1, T.2.2.2.2.2.2.2.2.2.2.2.2.2.2.1, T.2.2.2.2.2.2.2.2.2.2.2.2.2.2.2.1, T.2.2.2.2.2.2.2.2.2.2.2.2.2.2.2.2)) := pq_adr hD (ad_X7 _ _)
      refine lv_aload_n hx hb dX7_appendInput_52 rfl (lv_at hl 0 rfl) ?_
      refine lv_dup hx hb dX7_appendInput_53 rfl ?_
      refine pq_get S hK hP inX7 0 rfl rfl 11 (by decide) fl_X7_214 rfl (v := .int T.2.2.2.2.2.2.2.2.2.2.2.1) rfl dX7_appendInput_54 ?_
      refine lv_iconst (v := 1) hx hb dX7_appendInput_57 (by decide) ?_
      refine lv_iadd hx hb dX7_appendInput_58 ?_
      refine pq_putf S hK hP hD hS inX7 tyX7_ok nmX7 0 rfl rfl 11 (by decide) fl_X7_214 rfl rfl (ty := .int) rfl rfl rfl (Nat.le_of_ble_eq_true rfl) dX7_appendInput_59 (fun H locs hP hS => ?_)
      replace hP : va_P g.1 pq_cl (modW g a (0, T.2.1, T.2.2.1, T.2.2.2.1, T.2.2.2.2.1, T.2.2.2.2.2.1, T.2.2.2.2.2.2.1, T.2.2.2.2.2.2.2.1, T.2.2.2.2.2.2.2.2.1, T.2.2.2.2.2.2.2.2.2.1, (upd T.2.2.2.2.2.2.2.2.2.2.1 T.2.2.2.2.2.2.2.2.2.2.2.1.toNatClampNeg (vp_nar .char p1)), (T.2.2.2.2.2.2.2.2.2.2.2.1 + 1), T.2.2.2.2.2.2.2.2.2.2.2.2.1, T.2.2.2.2.2.2.2.2.2.2.2.2.2.1, T.2.2.2.2.2.2.2.2.2.2.2.2.2.2.1, T.2.2.2.2.2.2.2.2.2.2.2.2.2.2.2.1, T.2.2.2.2.2.2.2.2.2.2.2.2.2.2.2.2)) H := hP
      replace hD : va_D A (modW g a (0, T.2.1, T.2.2.1, T.2.2.2.1, T.2.2.2.2.1, T.2.2.2.2.2.1, T.2.2.2.2.2.2.1, T.2.2.2.2.2.2.2.1, T.2.2.2.2.2.2.2.2.1, T.2.2.2.2.2.2.2.2.2.1, (upd T.2.2.2.2.2.2.2.2.2.2.1 T.2.2.2.2.2.2.2.2.2.2.2.1.toNatClampNeg (vp_nar .char p1)), (T.2.2.2.2.2.2.2.2.2.2.2.1 + 1), T.2.2.2.2.2.2.2.2.2.2.2.2.1, T.2.2.2.2.2.2.2.2.2.2.2.2.2.1, T.2.2.2.2.2.2.2.2.2.2.2.2.2.2.1, T.2.2.2.2.2.2.2.2.2.2.2.2.2.2.2.1, T.2.2.2.2.2.2.2.2.2.2.2.2.2.2.2.2)) := pq_adr hD (ad_X7 _ _)
      refine lv_aload_n hx hb dX7_appendInput_62 rfl (lv_at hl 0 rfl) ?_
      refine pq_get S hK hP inX7 0 rfl rfl 11 (by decide) fl_X7_214 rfl (v := .int (T.2.2.2.2.2.2.2.2.2.2.2.1 + 1)) rfl dX7_appendInput_63 ?_
      obtain ⟨h8, h9⟩ := pq_pair hf
      exact hend _ _ _ _ _ dX7_appendInput_66 rfl h8 (by rw [← h9]; exact hP) hS
    · replace hf := pq_ifp h4 hf
      refine lv_iconst (v := 2) hx hb dX7_appendInput_25 (by decide) ?_
      refine lv_goto (tgt := 30) hx hb dX7_appendInput_26 (by decide) ?_
      refine pq_putf S hK hP hD hS inX7 tyX7_ok nmX7 0 rfl rfl 0 (by decide) fl_X7_27 rfl rfl (ty := .int) rfl rfl rfl (Nat.le_of_ble_eq_true rfl) dX7_appendInput_30 (fun H locs hP hS => ?_)
      replace hP : va_P g.1 pq_cl (modW g a (2, T.2.1, T.2.2.1, T.2.2.2.1, T.2.2.2.2.1, T.2.2.2.2.2.1, T.2.2.2.2.2.2.1, T.2.2.2.2.2.2.2.1, T.2.2.2.2.2.2.2.2.1, T.2.2.2.2.2.2.2.2.2.1, T.2.2.2.2.2.2.2.2.2.2.1, T.2.2.2.2.2.2.2.2.2.2.2.1, T.2.2.2.2.2.2.2.2.2.2.2.2.1, T.2.2.2.2.2.2.2.2.2.2.2.2.2.1, T.2.2.2.2.2.2.2.2.2.2.2.2.2.2.1, T.2.2.2.2.2.2.2.2.2.2.2.2.2.2.2.1, T.2.2.2.2.2.2.2.2.2.2.2.2.2.2.2.2)) H := hP
      replace hD : va_D A (modW g a (2, T.2.1, T.2.2.1, T.2.2.2.1, T.2.2.2.2.1, T.2.2.2.2.2.1, T.2.2.2.2.2.2.1, T.2.2.2.2.2.2.2.1, T.2.2.2.2.2.2.2.2.1, T.2.2.2.2.2.2.2.2.2.1, T.2.2.2.2.2.2.2.2.2.2.1, T.2.2.2.2.2.2.2.2.2.2.2.1, T.2.2.2.2.2.2.2.2.2.2.2.2.1, T.2.2.2.2.2.2.2.2.2.2.2.2.2.1, T.2.2.2.2.2.2.2.2.2.2.2.2.2.2.1, T.2.2.2.2.2.2.2.2.2.2.2.2.2.2.2.1, T.2.2.2.2.2.2.2.2.2.2.2.2.2.2.2.2)) := pq_adr hD (ad_X7 _ _)
      refine lv_aload_n hx hb dX7_appendInput_33 rfl (lv_at hl 0 rfl) ?_
      refine pq_get S hK hP inX7 0 rfl rfl 0 (by decide) fl_X7_27 rfl (v := .int 2) rfl dX7_appendInput_34 ?_
      refine lv_if_eq (tgt := 42) hx hb dX7_appendInput_37 (by decide) (fun h9 => absurd h9 (by decide)) (fun _ => ?_)
      refine lv_iconst (v := 0) hx hb dX7_appendInput_40 (by decide) ?_
      obtain ⟨h8, h9⟩ := pq_pair hf
      exact hend _ _ _ _ _ dX7_appendInput_41 rfl h8 (by rw [← h9]; exact hP) hS
  · replace hf := pq_ifp h3 hf
    refine lv_iconst (v := 1) hx hb dX7_appendInput_12 (by decide) ?_
    refine lv_goto (tgt := 30) hx hb dX7_appendInput_13 (by decide) ?_
    refine pq_putf S hK hP hD hS inX7 tyX7_ok nmX7 0 rfl rfl 0 (by decide) fl_X7_27 rfl rfl (ty := .int) rfl rfl rfl (Nat.le_of_ble_eq_true rfl) dX7_appendInput_30 (fun H locs hP hS => ?_)
    replace hP : va_P g.1 pq_cl (modW g a (1, T.2.1, T.2.2.1, T.2.2.2.1, T.2.2.2.2.1, T.2.2.2.2.2.1, T.2.2.2.2.2.2.1, T.2.2.2.2.2.2.2.1, T.2.2.2.2.2.2.2.2.1, T.2.2.2.2.2.2.2.2.2.1, T.2.2.2.2.2.2.2.2.2.2.1, T.2.2.2.2.2.2.2.2.2.2.2.1, T.2.2.2.2.2.2.2.2.2.2.2.2.1, T.2.2.2.2.2.2.2.2.2.2.2.2.2.1, T.2.2.2.2.2.2.2.2.2.2.2.2.2.2.1, T.2.2.2.2.2.2.2.2.2.2.2.2.2.2.2.1, T.2.2.2.2.2.2.2.2.2.2.2.2.2.2.2.2)) H := hP
    replace hD : va_D A (modW g a (1, T.2.1, T.2.2.1, T.2.2.2.1, T.2.2.2.2.1, T.2.2.2.2.2.1, T.2.2.2.2.2.2.1, T.2.2.2.2.2.2.2.1, T.2.2.2.2.2.2.2.2.1, T.2.2.2.2.2.2.2.2.2.1, T.2.2.2.2.2.2.2.2.2.2.1, T.2.2.2.2.2.2.2.2.2.2.2.1, T.2.2.2.2.2.2.2.2.2.2.2.2.1, T.2.2.2.2.2.2.2.2.2.2.2.2.2.1, T.2.2.2.2.2.2.2.2.2.2.2.2.2.2.1, T.2.2.2.2.2.2.2.2.2.2.2.2.2.2.2.1, T.2.2.2.2.2.2.2.2.2.2.2.2.2.2.2.2)) := pq_adr hD (ad_X7 _ _)
    refine lv_aload_n hx hb dX7_appendInput_33 rfl (lv_at hl 0 rfl) ?_
    refine pq_get S hK hP inX7 0 rfl rfl 0 (by decide) fl_X7_27 rfl (v := .int 1) rfl dX7_appendInput_34 ?_
    refine lv_if_eq (tgt := 42) hx hb dX7_appendInput_37 (by decide) (fun h9 => absurd h9 (by decide)) (fun _ => ?_)
    refine lv_iconst (v := 0) hx hb dX7_appendInput_40 (by decide) ?_
    obtain ⟨h8, h9⟩ := pq_pair hf
    exact hend _ _ _ _ _ dX7_appendInput_41 rfl h8 (by rw [← h9]; exact hP) hS
def f_X7_sign (T : ModS) : Option (Int32) :=
    if T.2.2.2.2.2.2.2.2.2.2.2.1 ≤ T.2.2.2.2.2.2.2.2.2.2.2.2.1 then
      some (-1)
    else
      if (T.2.2.2.2.2.2.2.2.2.2.2.2.1 < 0 ∨ 60 ≤ T.2.2.2.2.2.2.2.2.2.2.2.2.1.toNatClampNeg) then none
      else
        some (T.2.2.2.2.2.2.2.2.2.2.1 T.2.2.2.2.2.2.2.2.2.2.2.2.1.toNatClampNeg)
set_option maxHeartbeats 4000000 in
set_option maxRecDepth 100000 in
theorem c_X7_sign (l : Launch) (g : pq_g) (a : Nat → Nat) (T : ModS) (r : Int32) (hf : f_X7_sign T = some r) : pq_R l yX7_sign cX7_sign 1 .int 1 g (modW g a T) [.ref (a 0)] r := by
  rw [f_X7_sign] at hf
  refine pq_R.of (own := RX7) (by decide) rfl (Nat.le_of_ble_eq_true rfl) rfl ?_
  intro p e s m below meth c ls Q S hP hK hl hend
  obtain ⟨hx, hb, hml, hown, hts⟩ := id S
  refine lv_aload_n hx hb dX7_sign_0 rfl (lv_at hl 0 rfl) ?_
  refine pq_get S hK hP inX7 0 rfl rfl 12 (by decide) fl_X7_217 rfl (v := .int T.2.2.2.2.2.2.2.2.2.2.2.2.1) rfl dX7_sign_1 ?_
  refine lv_aload_n hx hb dX7_sign_4 rfl (lv_at hl 0 rfl) ?_
  refine pq_get S hK hP inX7 0 rfl rfl 11 (by decide) fl_X7_214 rfl (v := .int T.2.2.2.2.2.2.2.2.2.2.2.1) rfl dX7_sign_5 ?_
  refine lv_icmp_ge (tgt := 23) hx hb dX7_sign_8 (by decide) (fun h1 => ?_) (fun h1 => ?_)
  · replace hf := pq_ifp h1 hf
    refine lv_iconst (v := (-1)) hx hb dX7_sign_23 (by decide) ?_
    exact hend _ _ _ dX7_sign_24 rfl hf
  · replace hf := pq_ifn h1 hf
    refine lv_aload_n hx hb dX7_sign_11 rfl (lv_at hl 0 rfl) ?_
    refine pq_get S hK hP inX7 0 rfl rfl 10 (by decide) fl_X7_17 rfl (v := .ref (a 3)) rfl dX7_sign_12 ?_
    refine lv_aload_n hx hb dX7_sign_15 rfl (lv_at hl 0 rfl) ?_
    refine pq_get S hK hP inX7 0 rfl rfl 12 (by decide) fl_X7_217 rfl (v := .int T.2.2.2.2.2.2.2.2.2.2.2.2.1) rfl dX7_sign_16 ?_
    by_cases h2 : (T.2.2.2.2.2.2.2.2.2.2.2.2.1 < 0 ∨ 60 ≤ T.2.2.2.2.2.2.2.2.2.2.2.2.1.toNatClampNeg)
    · exact absurd (pq_ifp h2 hf) (fun h9 => by cases h9)
    replace hf := pq_ifn h2 hf
    refine va_cald hx hb hK.1 hP 3 1 rfl rfl h2 dX7_sign_19 ?_
    refine lv_goto (tgt := 24) hx hb dX7_sign_20 (by decide) ?_
    exact hend _ _ _ dX7_sign_24 rfl hf
def f_X7_needs (T : ModS) (p1 : Int32) : Option (ModS) :=
    if T.2.2.2.2.2.2.2.2.2.2.2.2.2.1 < 0 then
      (f_X7_sign T).bind fun q3 =>
      if q3 = p1 then
        some (T.1, T.2.1, T.2.2.1, T.2.2.2.1, T.2.2.2.2.1, T.2.2.2.2.2.1, T.2.2.2.2.2.2.1, T.2.2.2.2.2.2.2.1, T.2.2.2.2.2.2.2.2.1, T.2.2.2.2.2.2.2.2.2.1, T.2.2.2.2.2.2.2.2.2.2.1, T.2.2.2.2.2.2.2.2.2.2.2.1, (T.2.2.2.2.2.2.2.2.2.2.2.2.1 + 1), T.2.2.2.2.2.2.2.2.2.2.2.2.2.1, T.2.2.2.2.2.2.2.2.2.2.2.2.2.2.1, T.2.2.2.2.2.2.2.2.2.2.2.2.2.2.2.1, T.2.2.2.2.2.2.2.2.2.2.2.2.2.2.2.2)
      else
        some (T.1, T.2.1, T.2.2.1, T.2.2.2.1, T.2.2.2.2.1, T.2.2.2.2.2.1, T.2.2.2.2.2.2.1, T.2.2.2.2.2.2.2.1, T.2.2.2.2.2.2.2.2.1, T.2.2.2.2.2.2.2.2.2.1, T.2.2.2.2.2.2.2.2.2.2.1, T.2.2.2.2.2.2.2.2.2.2.2.1, T.2.2.2.2.2.2.2.2.2.2.2.2.1, T.2.2.2.2.2.2.2.2.2.2.2.2.1, T.2.2.2.2.2.2.2.2.2.2.2.2.2.2.1, T.2.2.2.2.2.2.2.2.2.2.2.2.2.2.2.1, T.2.2.2.2.2.2.2.2.2.2.2.2.2.2.2.2)
    else
      some T
set_option maxHeartbeats 4000000 in
set_option maxRecDepth 100000 in
theorem c_X7_needs (l : Launch) (g : pq_g) (a : Nat → Nat) (T : ModS) (p1 : Int32) (T1 : ModS) (hf : f_X7_needs T p1 = some T1) : pq_Mv l yX7_needs cX7_needs 2 2 g (modW g a T) [.ref (a 0), .int p1] (modW g a T1) := by
  rw [f_X7_needs] at hf
  refine pq_Mv.of (own := RX7) (by decide) rfl (Nat.le_of_ble_eq_true rfl) rfl ?_
  intro p e s m below meth c ls Q A S hP hK hD hS hA hl hend
  obtain ⟨hx, hb, hml, hown, hts⟩ := id S
  refine lv_aload_n hx hb dX7_needs_0 rfl (lv_at hl 0 rfl) ?_
  refine pq_get S hK hP inX7 0 rfl rfl 13 (by decide) fl_X7_220 rfl (v := .int T.2.2.2.2.2.2.2.2.2.2.2.2.2.1) rfl dX7_needs_1 ?_
  refine lv_if_lt (tgt := 8) hx hb dX7_needs_4 (by decide) (fun h1 => ?_) (fun h1 => ?_)
  · replace hf := pq_ifp h1 hf
    refine lv_aload_n hx hb dX7_needs_8 rfl (lv_at hl 0 rfl) ?_
    obtain ⟨q3, e2, hf⟩ := pq_bind hf
    refine pq_cV S (c_X7_sign l g a T q3 e2) vv_X7_223 hK hP rfl rfl rfl rfl rfl hl.1 (Nat.le_of_ble_eq_true rfl) dX7_needs_9 (by decide) (by decide) ⟨Nat.le_refl _, Nat.le_refl _⟩ ?_
    refine lv_iload_n hx hb dX7_needs_12 rfl (lv_at hl 1 rfl) ?_
    refine lv_icmp_eq (tgt := 25) hx hb dX7_needs_13 (by decide) (fun h4 => ?_) (fun h4 => ?_)
    · replace hf := pq_ifp h4 hf
      refine lv_aload_n hx hb dX7_needs_25 rfl (lv_at hl 0 rfl) ?_
      refine lv_dup hx hb dX7_needs_26 rfl ?_
      refine pq_get S hK hP inX7 0 rfl rfl 12 (by decide) fl_X7_217 rfl (v := .int T.2.2.2.2.2.2.2.2.2.2.2.2.1) rfl dX7_needs_27 ?_
      refine lv_iconst (v := 1) hx hb dX7_needs_30 (by decide) ?_
      refine lv_iadd hx hb dX7_needs_31 ?_
      refine pq_putf S hK hP hD hS inX7 tyX7_ok nmX7 0 rfl rfl 12 (by decide) fl_X7_217 rfl rfl (ty := .int) rfl rfl rfl (Nat.le_of_ble_eq_true rfl) dX7_needs_32 (fun H locs hP hS => ?_)
      replace hP : va_P g.1 pq_cl (modW g a (T.1, T.2.1, T.2.2.1, T.2.2.2.1, T.2.2.2.2.1, T.2.2.2.2.2.1, T.2.2.2.2.2.2.1, T.2.2.2.2.2.2.2.1, T.2.2.2.2.2.2.2.2.1, T.2.2.2.2.2.2.2.2.2.1, T.2.2.2.2.2.2.2.2.2.2.1, T.2.2.2.2.2.2.2.2.2.2.2.1, (T.2.2.2.2.2.2.2.2.2.2.2.2.1 + 1), T.2.2.2.2.2.2.2.2.2.2.2.2.2.1, T.2.2.2.2.2.2.2.2.2.2.2.2.2.2.1, T.2.2.2.2.2.2.2.2.2.2.2.2.2.2.2.1, T.2.2.2.2.2.2.2.2.2.2.2.2.2.2.2.2)) H := hP
      replace hD : va_D A (modW g a (T.1, T.2.1, T.2.2.1, T.2.2.2.1, T.2.2.2.2.1, T.2.2.2.2.2.1, T.2.2.2.2.2.2.1, T.2.2.2.2.2.2.2.1, T.2.2.2.2.2.2.2.2.1, T.2.2.2.2.2.2.2.2.2.1, T.2.2.2.2.2.2.2.2.2.2.1, T.2.2.2.2.2.2.2.2.2.2.2.1, (T.2.2.2.2.2.2.2.2.2.2.2.2.1 + 1), T.2.2.2.2.2.2.2.2.2.2.2.2.2.1, T.2.2.2.2.2.2.2.2.2.2.2.2.2.2.1, T.2.2.2.2.2.2.2.2.2.2.2.2.2.2.2.1, T.2.2.2.2.2.2.2.2.2.2.2.2.2.2.2.2)) := pq_adr hD (ad_X7 _ _)
      exact hend _ _ _ _ dX7_needs_35 (by rw [← Option.some.inj hf]; exact hP) hS
    · replace hf := pq_ifn h4 hf
      refine lv_aload_n hx hb dX7_needs_16 rfl (lv_at hl 0 rfl) ?_
      refine lv_aload_n hx hb dX7_needs_17 rfl (lv_at hl 0 rfl) ?_
      refine pq_get S hK hP inX7 0 rfl rfl 12 (by decide) fl_X7_217 rfl (v := .int T.2.2.2.2.2.2.2.2.2.2.2.2.1) rfl dX7_needs_18 ?_
      refine pq_putf S hK hP hD hS inX7 tyX7_ok nmX7 0 rfl rfl 13 (by decide) fl_X7_220 rfl rfl (ty := .int) rfl rfl rfl (Nat.le_of_ble_eq_true rfl) dX7_needs_21 (fun H locs hP hS => ?_)
      replace hP : va_P g.1 pq_cl (modW g a (T.1, T.2.1, T.2.2.1, T.2.2.2.1, T.2.2.2.2.1, T.2.2.2.2.2.1, T.2.2.2.2.2.2.1, T.2.2.2.2.2.2.2.1, T.2.2.2.2.2.2.2.2.1, T.2.2.2.2.2.2.2.2.2.1, T.2.2.2.2.2.2.2.2.2.2.1, T.2.2.2.2.2.2.2.2.2.2.2.1, T.2.2.2.2.2.2.2.2.2.2.2.2.1, T.2.2.2.2.2.2.2.2.2.2.2.2.1, T.2.2.2.2.2.2.2.2.2.2.2.2.2.2.1, T.2.2.2.2.2.2.2.2.2.2.2.2.2.2.2.1, T.2.2.2.2.2.2.2.2.2.2.2.2.2.2.2.2)) H := hP
      replace hD : va_D A (modW g a (T.1, T.2.1, T.2.2.1, T.2.2.2.1, T.2.2.2.2.1, T.2.2.2.2.2.1, T.2.2.2.2.2.2.1, T.2.2.2.2.2.2.2.1, T.2.2.2.2.2.2.2.2.1, T.2.2.2.2.2.2.2.2.2.1, T.2.2.2.2.2.2.2.2.2.2.1, T.2.2.2.2.2.2.2.2.2.2.2.1, T.2.2.2.2.2.2.2.2.2.2.2.2.1, T.2.2.2.2.2.2.2.2.2.2.2.2.1, T.2.2.2.2.2.2.2.2.2.2.2.2.2.2.1, T.2.2.2.2.2.2.2.2.2.2.2.2.2.2.2.1, T.2.2.2.2.2.2.2.2.2.2.2.2.2.2.2.2)) := pq_adr hD (ad_X7 _ _)
      exact hend _ _ _ _ dX7_needs_24 (by rw [← Option.some.inj hf]; exact hP) hS
  · replace hf := pq_ifn h1 hf
    exact hend _ _ _ _ dX7_needs_7 (by rw [← Option.some.inj hf]; exact hP) hS
def f_X7_number_c37 : Nat → ModS → Int32 → Int32 → Int32 → Option (Int32 × (ModS))
  | 0, _, _, _, _ => none
  | n + 1, T, v1, v2, v3 =>
    if v1 ≤ v3 then
      some (v2, T)
    else
      (f_X7_sign T).bind fun q3 =>
      (f_X7_in q3 48 57).bind fun q5 =>
      if q5 = 0 then
        some (v2, T)
      else
        (f_X7_sign T).bind fun q8 =>
        f_X7_number_c37 n (T.1, T.2.1, T.2.2.1, T.2.2.2.1, T.2.2.2.2.1, T.2.2.2.2.2.1, T.2.2.2.2.2.2.1, T.2.2.2.2.2.2.2.1, T.2.2.2.2.2.2.2.2.1, T.2.2.2.2.2.2.2.2.2.1, T.2.2.2.2.2.2.2.2.2.2.1, T.2.2.2.2.2.2.2.2.2.2.2.1, (T.2.2.2.2.2.2.2.2.2.2.2.2.1 + 1), T.2.2.2.2.2.2.2.2.2.2.2.2.2.1, T.2.2.2.2.2.2.2.2.2.2.2.2.2.2.1, T.2.2.2.2.2.2.2.2.2.2.2.2.2.2.2.1, T.2.2.2.2.2.2.2.2.2.2.2.2.2.2.2.2) v1 (((10 * v2) + q8) - 48) (v3 + 1)
def f_X7_number (T : ModS) (p1 : Int32) : Option (Int32 × (ModS)) :=
    if T.2.2.2.2.2.2.2.2.2.2.2.2.2.1 < 0 then
      (f_X7_sign T).bind fun q11 =>
      (f_X7_in q11 48 57).bind fun q13 =>
      if q13 = 0 then
        some (0, (T.1, T.2.1, T.2.2.1, T.2.2.2.1, T.2.2.2.2.1, T.2.2.2.2.2.1, T.2.2.2.2.2.2.1, T.2.2.2.2.2.2.2.1, T.2.2.2.2.2.2.2.2.1, T.2.2.2.2.2.2.2.2.2.1, T.2.2.2.2.2.2.2.2.2.2.1, T.2.2.2.2.2.2.2.2.2.2.2.1, T.2.2.2.2.2.2.2.2.2.2.2.2.1, T.2.2.2.2.2.2.2.2.2.2.2.2.1, T.2.2.2.2.2.2.2.2.2.2.2.2.2.2.1, T.2.2.2.2.2.2.2.2.2.2.2.2.2.2.2.1, T.2.2.2.2.2.2.2.2.2.2.2.2.2.2.2.2))
      else
        f_X7_number_c37 200 T p1 0 0
    else
      some (0, T)
set_option maxHeartbeats 4000000 in
set_option maxRecDepth 100000 in
theorem c_X7_number (l : Launch) (g : pq_g) (a : Nat → Nat) (T : ModS) (p1 : Int32) (r : Int32) (T1 : ModS) (hf : f_X7_number T p1 = some (r, T1)) : pq_Mi l yX7_number cX7_number 4 .int 2 g (modW g a T) [.ref (a 0), .int p1] r (modW g a T1) := by
  rw [f_X7_number] at hf
  refine pq_Mi.of (own := RX7) (by decide) rfl (Nat.le_of_ble_eq_true rfl) rfl ?_
  intro p e s m below meth c ls Q A S hP hK hD hS hA hl hend
  obtain ⟨hx, hb, hml, hown, hts⟩ := id S
  have B37 : ∀ (n37 : Nat) (T : ModS) (v1 : Int32) (v2 : Int32) (v3 : Int32) (ls : Array Slot) (H : Heap) (locs : List Loc), va_P g.1 pq_cl (modW g a T) H → va_D A (modW g a T) → va_S A s.heap H locs → lv_has ls 4 [(0, .ref (a 0)), (1, .int v1), (2, .int v2), (3, .int v3)] → f_X7_number_c37 n37 T v1 v2 v3 = some (r, T1) → W p l e (pq_rm 2 0 0) s m ([.ref (a 0), .int p1] : List Value).toArray below meth c H locs 0 0 Q (F0 m 37 ls []) := by
    intro n37
    induction n37 with
    | zero =>
      intro T v1 v2 v3 ls H locs hP hD hS hl hf
      exact absurd hf (by simp [f_X7_number_c37])
    | succ n37 ih37 =>
      intro T v1 v2 v3 ls H locs hP hD hS hl hf
      rw [f_X7_number_c37] at hf
      refine lv_iload_n hx hb dX7_number_37 rfl (lv_at hl 3 rfl) ?_
      refine lv_iload_n hx hb dX7_number_38 rfl (lv_at hl 1 rfl) ?_
      refine lv_icmp_ge (tgt := 85) hx hb dX7_number_39 (by decide) (fun h1 => ?_) (fun h1 => ?_)
      · replace hf := pq_ifp h1 hf
        refine lv_iload_n hx hb dX7_number_85 rfl (lv_at hl 2 rfl) ?_
        obtain ⟨h8, h9⟩ := pq_pair hf
        exact hend _ _ _ _ _ dX7_number_86 rfl h8 (by rw [← h9]; exact hP) hS
      · replace hf := pq_ifn h1 hf
        refine lv_aload_n hx hb dX7_number_42 rfl (lv_at hl 0 rfl) ?_
        obtain ⟨q3, e2, hf⟩ := pq_bind hf
        refine pq_cV S (c_X7_sign l g a T q3 e2) vv_X7_223 hK hP rfl rfl rfl rfl rfl hl.1 (Nat.le_of_ble_eq_true rfl) dX7_number_43 (by decide) (by decide) ⟨Nat.le_refl _, Nat.le_refl _⟩ ?_
        refine lv_bipush (v := 48) hx hb dX7_number_46 (by decide) ?_
        refine lv_bipush (v := 57) hx hb dX7_number_48 (by decide) ?_
        obtain ⟨q5, e4, hf⟩ := pq_bind hf
        refine pq_cS S (c_X7_in l g q3 48 57 q5 e4) vs_X7_30 hK (hP.sub [] rfl) rfl rfl hl.1 (Nat.le_of_ble_eq_true rfl) dX7_number_50 (by decide) (by decide) ⟨Nat.le_refl _, Nat.le_refl _⟩ ?_
        refine lv_if_eq (tgt := 85) hx hb dX7_number_53 (by decide) (fun h6 => ?_) (fun h6 => ?_)
        · replace hf := pq_ifp h6 hf
          refine lv_iload_n hx hb dX7_number_85 rfl (lv_at hl 2 rfl) ?_
          obtain ⟨h8, h9⟩ := pq_pair hf
          exact hend _ _ _ _ _ dX7_number_86 rfl h8 (by rw [← h9]; exact hP) hS
        · replace hf := pq_ifn h6 hf
          refine lv_bipush (v := 10) hx hb dX7_number_56 (by decide) ?_
          refine lv_iload_n hx hb dX7_number_58 rfl (lv_at hl 2 rfl) ?_
          refine lv_imul hx hb dX7_number_59 ?_
          refine lv_aload_n hx hb dX7_number_60 rfl (lv_at hl 0 rfl) ?_
          obtain ⟨q8, e7, hf⟩ := pq_bind hf
          refine pq_cV S (c_X7_sign l g a T q8 e7) vv_X7_223 hK hP rfl rfl rfl rfl rfl hl.1 (Nat.le_of_ble_eq_true rfl) dX7_number_61 (by decide) (by decide) ⟨Nat.le_refl _, Nat.le_refl _⟩ ?_
          refine lv_iadd hx hb dX7_number_64 ?_
          refine lv_bipush (v := 48) hx hb dX7_number_65 (by decide) ?_
          refine lv_isub hx hb dX7_number_67 ?_
          refine lv_istore_n (lv' := [(2, .int (((10 * v2) + q8) - 48)), (0, .ref (a 0)), (1, .int v1), (3, .int v3)]) hx hb dX7_number_68 rfl hl (by decide) rfl (fun ls hl => ?_)
          refine lv_aload_n hx hb dX7_number_69 rfl (lv_at hl 1 rfl) ?_
          refine lv_dup hx hb dX7_number_70 rfl ?_
          refine pq_get S hK hP inX7 0 rfl rfl 12 (by decide) fl_X7_217 rfl (v := .int T.2.2.2.2.2.2.2.2.2.2.2.2.1) rfl dX7_number_71 ?_
          refine lv_iconst (v := 1) hx hb dX7_number_74 (by decide) ?_
          refine lv_iadd hx hb dX7_number_75 ?_
          refine pq_putf S hK hP hD hS inX7 tyX7_ok nmX7 0 rfl rfl 12 (by decide) fl_X7_217 rfl rfl (ty := .int) rfl rfl rfl (Nat.le_of_ble_eq_true rfl) dX7_number_76 (fun H locs hP hS => ?_)
          replace hP : va_P g.1 pq_cl (modW g a (T.1, T.2.1, T.2.2.1, T.2.2.2.1, T.2.2.2.2.1, T.2.2.2.2.2.1, T.2.2.2.2.2.2.1, T.2.2.2.2.2.2.2.1, T.2.2.2.2.2.2.2.2.1, T.2.2.2.2.2.2.2.2.2.1, T.2.2.2.2.2.2.2.2.2.2.1, T.2.2.2.2.2.2.2.2.2.2.2.1, (T.2.2.2.2.2.2.2.2.2.2.2.2.1 + 1), T.2.2.2.2.2.2.2.2.2.2.2.2.2.1, T.2.2.2.2.2.2.2.2.2.2.2.2.2.2.1, T.2.2.2.2.2.2.2.2.2.2.2.2.2.2.2.1, T.2.2.2.2.2.2.2.2.2.2.2.2.2.2.2.2)) H := hP
          replace hD : va_D A (modW g a (T.1, T.2.1, T.2.2.1, T.2.2.2.1, T.2.2.2.2.1, T.2.2.2.2.2.1, T.2.2.2.2.2.2.1, T.2.2.2.2.2.2.2.1, T.2.2.2.2.2.2.2.2.1, T.2.2.2.2.2.2.2.2.2.1, T.2.2.2.2.2.2.2.2.2.2.1, T.2.2.2.2.2.2.2.2.2.2.2.1, (T.2.2.2.2.2.2.2.2.2.2.2.2.1 + 1), T.2.2.2.2.2.2.2.2.2.2.2.2.2.1, T.2.2.2.2.2.2.2.2.2.2.2.2.2.2.1, T.2.2.2.2.2.2.2.2.2.2.2.2.2.2.2.1, T.2.2.2.2.2.2.2.2.2.2.2.2.2.2.2.2)) := pq_adr hD (ad_X7 _ _)
          refine lv_iinc (v := (v3 + 1)) (lv' := [(3, .int (v3 + 1)), (2, .int (((10 * v2) + q8) - 48)), (0, .ref (a 0)), (1, .int v1)]) hx hb dX7_number_79 hl (k := 3) rfl rfl (by decide) rfl (fun ls hl => ?_)
          refine lv_goto (tgt := 37) hx hb dX7_number_82 (by decide) ?_
          exact ih37 (T.1, T.2.1, T.2.2.1, T.2.2.2.1, T.2.2.2.2.1, T.2.2.2.2.2.1, T.2.2.2.2.2.2.1, T.2.2.2.2.2.2.2.1, T.2.2.2.2.2.2.2.2.1, T.2.2.2.2.2.2.2.2.2.1, T.2.2.2.2.2.2.2.2.2.2.1, T.2.2.2.2.2.2.2.2.2.2.2.1, (T.2.2.2.2.2.2.2.2.2.2.2.2.1 + 1), T.2.2.2.2.2.2.2.2.2.2.2.2.2.1, T.2.2.2.2.2.2.2.2.2.2.2.2.2.2.1, T.2.2.2.2.2.2.2.2.2.2.2.2.2.2.2.1, T.2.2.2.2.2.2.2.2.2.2.2.2.2.2.2.2) v1 (((10 * v2) + q8) - 48) (v3 + 1) ls _ _ hP hD hS (lv_sub hl [2, 3, 1, 0] rfl) hf
  refine lv_aload_n hx hb dX7_number_0 rfl (lv_at hl 0 rfl) ?_
  refine pq_get S hK hP inX7 0 rfl rfl 13 (by decide) fl_X7_220 rfl (v := .int T.2.2.2.2.2.2.2.2.2.2.2.2.2.1) rfl dX7_number_1 ?_
  refine lv_if_lt (tgt := 9) hx hb dX7_number_4 (by decide) (fun h9 => ?_) (fun h9 => ?_)
  · replace hf := pq_ifp h9 hf
    refine lv_aload_n hx hb dX7_number_9 rfl (lv_at hl 0 rfl) ?_
    obtain ⟨q11, e10, hf⟩ := pq_bind hf
    refine pq_cV S (c_X7_sign l g a T q11 e10) vv_X7_223 hK hP rfl rfl rfl rfl rfl hl.1 (Nat.le_of_ble_eq_true rfl) dX7_number_10 (by decide) (by decide) ⟨Nat.le_refl _, Nat.le_refl _⟩ ?_
    refine lv_bipush (v := 48) hx hb dX7_number_13 (by decide) ?_
    refine lv_bipush (v := 57) hx hb dX7_number_15 (by decide) ?_
    obtain ⟨q13, e12, hf⟩ := pq_bind hf
    refine pq_cS S (c_X7_in l g q11 48 57 q13 e12) vs_X7_30 hK (hP.sub [] rfl) rfl rfl hl.1 (Nat.le_of_ble_eq_true rfl) dX7_number_17 (by decide) (by decide) ⟨Nat.le_refl _, Nat.le_refl _⟩ ?_
    refine lv_if_ne (tgt := 33) hx hb dX7_number_20 (by decide) (fun h14 => ?_) (fun h14 => ?_)
    · replace hf := pq_ifn h14 hf
      refine lv_iconst (v := 0) hx hb dX7_number_33 (by decide) ?_
      refine lv_istore_n (lv' := [(2, .int 0), (0, .ref (a 0)), (1, .int p1)]) hx hb dX7_number_34 rfl hl (by decide) rfl (fun ls hl => ?_)
      refine lv_iconst (v := 0) hx hb dX7_number_35 (by decide) ?_
      refine lv_istore_n (lv' := [(3, .int 0), (2, .int 0), (0, .ref (a 0)), (1, .int p1)]) hx hb dX7_number_36 rfl hl (by decide) rfl (fun ls hl => ?_)
      exact B37 200 T p1 0 0 ls _ _ hP hD hS (lv_sub hl [2, 3, 1, 0] rfl) hf
    · replace hf := pq_ifp h14 hf
      refine lv_aload_n hx hb dX7_number_23 rfl (lv_at hl 0 rfl) ?_
      refine lv_aload_n hx hb dX7_number_24 rfl (lv_at hl 0 rfl) ?_
      refine pq_get S hK hP inX7 0 rfl rfl 12 (by decide) fl_X7_217 rfl (v := .int T.2.2.2.2.2.2.2.2.2.2.2.2.1) rfl dX7_number_25 ?_
      refine pq_putf S hK hP hD hS inX7 tyX7_ok nmX7 0 rfl rfl 13 (by decide) fl_X7_220 rfl rfl (ty := .int) rfl rfl rfl (Nat.le_of_ble_eq_true rfl) dX7_number_28 (fun H locs hP hS => ?_)
      replace hP : va_P g.1 pq_cl (modW g a (T.1, T.2.1, T.2.2.1, T.2.2.2.1, T.2.2.2.2.1, T.2.2.2.2.2.1, T.2.2.2.2.2.2.1, T.2.2.2.2.2.2.2.1, T.2.2.2.2.2.2.2.2.1, T.2.2.2.2.2.2.2.2.2.1, T.2.2.2.2.2.2.2.2.2.2.1, T.2.2.2.2.2.2.2.2.2.2.2.1, T.2.2.2.2.2.2.2.2.2.2.2.2.1, T.2.2.2.2.2.2.2.2.2.2.2.2.1, T.2.2.2.2.2.2.2.2.2.2.2.2.2.2.1, T.2.2.2.2.2.2.2.2.2.2.2.2.2.2.2.1, T.2.2.2.2.2.2.2.2.2.2.2.2.2.2.2.2)) H := hP
      replace hD : va_D A (modW g a (T.1, T.2.1, T.2.2.1, T.2.2.2.1, T.2.2.2.2.1, T.2.2.2.2.2.1, T.2.2.2.2.2.2.1, T.2.2.2.2.2.2.2.1, T.2.2.2.2.2.2.2.2.1, T.2.2.2.2.2.2.2.2.2.1, T.2.2.2.2.2.2.2.2.2.2.1, T.2.2.2.2.2.2.2.2.2.2.2.1, T.2.2.2.2.2.2.2.2.2.2.2.2.1, T.2.2.2.2.2.2.2.2.2.2.2.2.1, T.2.2.2.2.2.2.2.2.2.2.2.2.2.2.1, T.2.2.2.2.2.2.2.2.2.2.2.2.2.2.2.1, T.2.2.2.2.2.2.2.2.2.2.2.2.2.2.2.2)) := pq_adr hD (ad_X7 _ _)
      refine lv_iconst (v := 0) hx hb dX7_number_31 (by decide) ?_
      obtain ⟨h8, h9⟩ := pq_pair hf
      exact hend _ _ _ _ _ dX7_number_32 rfl h8 (by rw [← h9]; exact hP) hS
  · replace hf := pq_ifn h9 hf
    refine lv_iconst (v := 0) hx hb dX7_number_7 (by decide) ?_
    obtain ⟨h8, h9⟩ := pq_pair hf
    exact hend _ _ _ _ _ dX7_number_8 rfl h8 (by rw [← h9]; exact hP) hS
def f_X7_behind (T : ModS) (p1 : Int32) : Option (Int32 × (ModS)) :=
    (f_X7_needs T p1).bind fun q2 =>
    (f_X7_number q2 2).bind fun q4 =>
    some (q4.1, q4.2)
set_option maxHeartbeats 4000000 in
set_option maxRecDepth 100000 in
theorem c_X7_behind (l : Launch) (g : pq_g) (a : Nat → Nat) (T : ModS) (p1 : Int32) (r : Int32) (T1 : ModS) (hf : f_X7_behind T p1 = some (r, T1)) : pq_Mi l yX7_behind cX7_behind 2 .int 3 g (modW g a T) [.ref (a 0), .int p1] r (modW g a T1) := by
  rw [f_X7_behind] at hf
  refine pq_Mi.of (own := RX7) (by decide) rfl (Nat.le_of_ble_eq_true rfl) rfl ?_
  intro p e s m below meth c ls Q A S hP hK hD hS hA hl hend
  obtain ⟨hx, hb, hml, hown, hts⟩ := id S
  refine lv_aload_n hx hb dX7_behind_0 rfl (lv_at hl 0 rfl) ?_
  refine lv_iload_n hx hb dX7_behind_1 rfl (lv_at hl 1 rfl) ?_
  obtain ⟨q2, e1, hf⟩ := pq_bind hf
  refine pq_cVv S (c_X7_needs l g a T p1 q2 e1) vv_X7_226 hK hP hD hS hA rfl rfl rfl rfl rfl hl.1 (Nat.le_of_ble_eq_true rfl) dX7_behind_2 (by decide) (by decide) ⟨Nat.le_refl _, Nat.le_refl _⟩ (fun H9 locs hk hP1 hS => ?_)
  replace hP := hP1
  replace hP : va_P g.1 pq_cl (modW g a q2) H9 := hP
  replace hD : va_D A (modW g a q2) := pq_adr hD (ad_X7 _ _)
  clear hk
  generalize H9 = H at hP hS ⊢
  refine lv_aload_n hx hb dX7_behind_5 rfl (lv_at hl 0 rfl) ?_
  refine lv_iconst (v := 2) hx hb dX7_behind_6 (by decide) ?_
  obtain ⟨q4, e3, hf⟩ := pq_bind hf
  refine pq_cVi S (c_X7_number l g a q2 2 q4.1 q4.2 e3) vv_X7_229 hK hP hD hS hA rfl rfl rfl rfl rfl hl.1 (Nat.le_of_ble_eq_true rfl) dX7_behind_7 (by decide) (by decide) ⟨Nat.le_refl _, Nat.le_refl _⟩ (fun H9 locs hk hP1 hS => ?_)
  replace hP := hP1
  replace hP : va_P g.1 pq_cl (modW g a q4.2) H9 := hP
  replace hD : va_D A (modW g a q4.2) := pq_adr hD (ad_X7 _ _)
  clear hk
  generalize H9 = H at hP hS ⊢
  obtain ⟨h8, h9⟩ := pq_pair hf
  exact hend _ _ _ _ _ dX7_behind_10 rfl h8 (by rw [← h9]; exact hP) hS
def f_X7_command_c97 (T : ModS) (v1 : Int32) (v2 : Int32) : Option (ModS) :=
    if (v1 < 0 ∨ 366 ≤ v1.toNatClampNeg) then none
    else
      if v2 = 119 then
        (f_X7_number (T.1, T.2.1, T.2.2.1, T.2.2.2.1, T.2.2.2.2.1, T.2.2.2.2.2.1, T.2.2.2.2.2.2.1, T.2.2.2.2.2.2.2.1, T.2.2.2.2.2.2.2.2.1, T.2.2.2.2.2.2.2.2.2.1, T.2.2.2.2.2.2.2.2.2.2.1, T.2.2.2.2.2.2.2.2.2.2.2.1, (T.2.2.2.2.2.2.2.2.2.2.2.2.1 + 1), T.2.2.2.2.2.2.2.2.2.2.2.2.2.1, T.2.2.2.2.2.2.2.2.2.2.2.2.2.2.1, (upd T.2.2.2.2.2.2.2.2.2.2.2.2.2.2.2.1 v1.toNatClampNeg v2), T.2.2.2.2.2.2.2.2.2.2.2.2.2.2.2.2) 1).bind fun q4 =>
        if ((v1 + 1) < 0 ∨ 366 ≤ (v1 + 1).toNatClampNeg) then none
        else
          if v2 = 105 then
            (f_X7_behind (q4.2.1, q4.2.2.1, q4.2.2.2.1, q4.2.2.2.2.1, q4.2.2.2.2.2.1, q4.2.2.2.2.2.2.1, q4.2.2.2.2.2.2.2.1, q4.2.2.2.2.2.2.2.2.1, q4.2.2.2.2.2.2.2.2.2.1, q4.2.2.2.2.2.2.2.2.2.2.1, q4.2.2.2.2.2.2.2.2.2.2.2.1, q4.2.2.2.2.2.2.2.2.2.2.2.2.1, q4.2.2.2.2.2.2.2.2.2.2.2.2.2.1, q4.2.2.2.2.2.2.2.2.2.2.2.2.2.2.1, q4.2.2.2.2.2.2.2.2.2.2.2.2.2.2.2.1, (upd q4.2.2.2.2.2.2.2.2.2.2.2.2.2.2.2.2.1 (v1 + 1).toNatClampNeg q4.1), q4.2.2.2.2.2.2.2.2.2.2.2.2.2.2.2.2.2) 58).bind fun q8 =>
            if ((v1 + 2) < 0 ∨ 366 ≤ (v1 + 2).toNatClampNeg) then none
            else
              some (q8.2.1, q8.2.2.1, q8.2.2.2.1, q8.2.2.2.2.1, q8.2.2.2.2.2.1, q8.2.2.2.2.2.2.1, q8.2.2.2.2.2.2.2.1, q8.2.2.2.2.2.2.2.2.1, q8.2.2.2.2.2.2.2.2.2.1, q8.2.2.2.2.2.2.2.2.2.2.1, q8.2.2.2.2.2.2.2.2.2.2.2.1, q8.2.2.2.2.2.2.2.2.2.2.2.2.1, q8.2.2.2.2.2.2.2.2.2.2.2.2.2.1, q8.2.2.2.2.2.2.2.2.2.2.2.2.2.2.1, q8.2.2.2.2.2.2.2.2.2.2.2.2.2.2.2.1, (upd q8.2.2.2.2.2.2.2.2.2.2.2.2.2.2.2.2.1 (v1 + 2).toNatClampNeg q8.1), q8.2.2.2.2.2.2.2.2.2.2.2.2.2.2.2.2.2)
          else
            if v2 = 109 then
              (f_X7_behind (q4.2.1, q4.2.2.1, q4.2.2.2.1, q4.2.2.2.2.1, q4.2.2.2.2.2.1, q4.2.2.2.2.2.2.1, q4.2.2.2.2.2.2.2.1, q4.2.2.2.2.2.2.2.2.1, q4.2.2.2.2.2.2.2.2.2.1, q4.2.2.2.2.2.2.2.2.2.2.1, q4.2.2.2.2.2.2.2.2.2.2.2.1, q4.2.2.2.2.2.2.2.2.2.2.2.2.1, q4.2.2.2.2.2.2.2.2.2.2.2.2.2.1, q4.2.2.2.2.2.2.2.2.2.2.2.2.2.2.1, q4.2.2.2.2.2.2.2.2.2.2.2.2.2.2.2.1, (upd q4.2.2.2.2.2.2.2.2.2.2.2.2.2.2.2.2.1 (v1 + 1).toNatClampNeg q4.1), q4.2.2.2.2.2.2.2.2.2.2.2.2.2.2.2.2.2) 62).bind fun q12 =>
              if ((v1 + 2) < 0 ∨ 366 ≤ (v1 + 2).toNatClampNeg) then none
              else
                some (q12.2.1, q12.2.2.1, q12.2.2.2.1, q12.2.2.2.2.1, q12.2.2.2.2.2.1, q12.2.2.2.2.2.2.1, q12.2.2.2.2.2.2.2.1, q12.2.2.2.2.2.2.2.2.1, q12.2.2.2.2.2.2.2.2.2.1, q12.2.2.2.2.2.2.2.2.2.2.1, q12.2.2.2.2.2.2.2.2.2.2.2.1, q12.2.2.2.2.2.2.2.2.2.2.2.2.1, q12.2.2.2.2.2.2.2.2.2.2.2.2.2.1, q12.2.2.2.2.2.2.2.2.2.2.2.2.2.2.1, q12.2.2.2.2.2.2.2.2.2.2.2.2.2.2.2.1, (upd q12.2.2.2.2.2.2.2.2.2.2.2.2.2.2.2.2.1 (v1 + 2).toNatClampNeg q12.1), q12.2.2.2.2.2.2.2.2.2.2.2.2.2.2.2.2.2)
            else
              if v2 = 112 then
                (f_X7_behind (q4.2.1, q4.2.2.1, q4.2.2.2.1, q4.2.2.2.2.1, q4.2.2.2.2.2.1, q4.2.2.2.2.2.2.1, q4.2.2.2.2.2.2.2.1, q4.2.2.2.2.2.2.2.2.1, q4.2.2.2.2.2.2.2.2.2.1, q4.2.2.2.2.2.2.2.2.2.2.1, q4.2.2.2.2.2.2.2.2.2.2.2.1, q4.2.2.2.2.2.2.2.2.2.2.2.2.1, q4.2.2.2.2.2.2.2.2.2.2.2.2.2.1, q4.2.2.2.2.2.2.2.2.2.2.2.2.2.2.1, q4.2.2.2.2.2.2.2.2.2.2.2.2.2.2.2.1, (upd q4.2.2.2.2.2.2.2.2.2.2.2.2.2.2.2.2.1 (v1 + 1).toNatClampNeg q4.1), q4.2.2.2.2.2.2.2.2.2.2.2.2.2.2.2.2.2) 58).bind fun q16 =>
                if ((v1 + 2) < 0 ∨ 366 ≤ (v1 + 2).toNatClampNeg) then none
                else
                  some (q16.2.1, q16.2.2.1, q16.2.2.2.1, q16.2.2.2.2.1, q16.2.2.2.2.2.1, q16.2.2.2.2.2.2.1, q16.2.2.2.2.2.2.2.1, q16.2.2.2.2.2.2.2.2.1, q16.2.2.2.2.2.2.2.2.2.1, q16.2.2.2.2.2.2.2.2.2.2.1, q16.2.2.2.2.2.2.2.2.2.2.2.1, q16.2.2.2.2.2.2.2.2.2.2.2.2.1, q16.2.2.2.2.2.2.2.2.2.2.2.2.2.1, q16.2.2.2.2.2.2.2.2.2.2.2.2.2.2.1, q16.2.2.2.2.2.2.2.2.2.2.2.2.2.2.2.1, (upd q16.2.2.2.2.2.2.2.2.2.2.2.2.2.2.2.2.1 (v1 + 2).toNatClampNeg q16.1), q16.2.2.2.2.2.2.2.2.2.2.2.2.2.2.2.2.2)
              else
                if v2 = 114 then
                  (f_X7_behind (q4.2.1, q4.2.2.1, q4.2.2.2.1, q4.2.2.2.2.1, q4.2.2.2.2.2.1, q4.2.2.2.2.2.2.1, q4.2.2.2.2.2.2.2.1, q4.2.2.2.2.2.2.2.2.1, q4.2.2.2.2.2.2.2.2.2.1, q4.2.2.2.2.2.2.2.2.2.2.1, q4.2.2.2.2.2.2.2.2.2.2.2.1, q4.2.2.2.2.2.2.2.2.2.2.2.2.1, q4.2.2.2.2.2.2.2.2.2.2.2.2.2.1, q4.2.2.2.2.2.2.2.2.2.2.2.2.2.2.1, q4.2.2.2.2.2.2.2.2.2.2.2.2.2.2.2.1, (upd q4.2.2.2.2.2.2.2.2.2.2.2.2.2.2.2.2.1 (v1 + 1).toNatClampNeg q4.1), q4.2.2.2.2.2.2.2.2.2.2.2.2.2.2.2.2.2) 45).bind fun q20 =>
                  if ((v1 + 2) < 0 ∨ 366 ≤ (v1 + 2).toNatClampNeg) then none
                  else
                    some (q20.2.1, q20.2.2.1, q20.2.2.2.1, q20.2.2.2.2.1, q20.2.2.2.2.2.1, q20.2.2.2.2.2.2.1, q20.2.2.2.2.2.2.2.1, q20.2.2.2.2.2.2.2.2.1, q20.2.2.2.2.2.2.2.2.2.1, q20.2.2.2.2.2.2.2.2.2.2.1, q20.2.2.2.2.2.2.2.2.2.2.2.1, q20.2.2.2.2.2.2.2.2.2.2.2.2.1, q20.2.2.2.2.2.2.2.2.2.2.2.2.2.1, q20.2.2.2.2.2.2.2.2.2.2.2.2.2.2.1, q20.2.2.2.2.2.2.2.2.2.2.2.2.2.2.2.1, (upd q20.2.2.2.2.2.2.2.2.2.2.2.2.2.2.2.2.1 (v1 + 2).toNatClampNeg q20.1), q20.2.2.2.2.2.2.2.2.2.2.2.2.2.2.2.2.2)
                else
                  if v2 = 119 then
                    (f_X7_behind (q4.2.1, q4.2.2.1, q4.2.2.2.1, q4.2.2.2.2.1, q4.2.2.2.2.2.1, q4.2.2.2.2.2.2.1, q4.2.2.2.2.2.2.2.1, q4.2.2.2.2.2.2.2.2.1, q4.2.2.2.2.2.2.2.2.2.1, q4.2.2.2.2.2.2.2.2.2.2.1, q4.2.2.2.2.2.2.2.2.2.2.2.1, q4.2.2.2.2.2.2.2.2.2.2.2.2.1, q4.2.2.2.2.2.2.2.2.2.2.2.2.2.1, q4.2.2.2.2.2.2.2.2.2.2.2.2.2.2.1, q4.2.2.2.2.2.2.2.2.2.2.2.2.2.2.2.1, (upd q4.2.2.2.2.2.2.2.2.2.2.2.2.2.2.2.2.1 (v1 + 1).toNatClampNeg q4.1), q4.2.2.2.2.2.2.2.2.2.2.2.2.2.2.2.2.2) 61).bind fun q24 =>
                    if ((v1 + 2) < 0 ∨ 366 ≤ (v1 + 2).toNatClampNeg) then none
                    else
                      (f_X7_behind (q24.2.1, q24.2.2.1, q24.2.2.2.1, q24.2.2.2.2.1, q24.2.2.2.2.2.1, q24.2.2.2.2.2.2.1, q24.2.2.2.2.2.2.2.1, q24.2.2.2.2.2.2.2.2.1, q24.2.2.2.2.2.2.2.2.2.1, q24.2.2.2.2.2.2.2.2.2.2.1, q24.2.2.2.2.2.2.2.2.2.2.2.1, q24.2.2.2.2.2.2.2.2.2.2.2.2.1, q24.2.2.2.2.2.2.2.2.2.2.2.2.2.1, q24.2.2.2.2.2.2.2.2.2.2.2.2.2.2.1, q24.2.2.2.2.2.2.2.2.2.2.2.2.2.2.2.1, (upd q24.2.2.2.2.2.2.2.2.2.2.2.2.2.2.2.2.1 (v1 + 2).toNatClampNeg q24.1), q24.2.2.2.2.2.2.2.2.2.2.2.2.2.2.2.2.2) 45).bind fun q27 =>
                      if ((v1 + 3) < 0 ∨ 366 ≤ (v1 + 3).toNatClampNeg) then none
                      else
                        (f_X7_behind (q27.2.1, q27.2.2.1, q27.2.2.2.1, q27.2.2.2.2.1, q27.2.2.2.2.2.1, q27.2.2.2.2.2.2.1, q27.2.2.2.2.2.2.2.1, q27.2.2.2.2.2.2.2.2.1, q27.2.2.2.2.2.2.2.2.2.1, q27.2.2.2.2.2.2.2.2.2.2.1, q27.2.2.2.2.2.2.2.2.2.2.2.1, q27.2.2.2.2.2.2.2.2.2.2.2.2.1, q27.2.2.2.2.2.2.2.2.2.2.2.2.2.1, q27.2.2.2.2.2.2.2.2.2.2.2.2.2.2.1, q27.2.2.2.2.2.2.2.2.2.2.2.2.2.2.2.1, (upd q27.2.2.2.2.2.2.2.2.2.2.2.2.2.2.2.2.1 (v1 + 3).toNatClampNeg q27.1), q27.2.2.2.2.2.2.2.2.2.2.2.2.2.2.2.2.2) 94).bind fun q30 =>
                        if ((v1 + 4) < 0 ∨ 366 ≤ (v1 + 4).toNatClampNeg) then none
                        else
                          (f_X7_behind (q30.2.1, q30.2.2.1, q30.2.2.2.1, q30.2.2.2.2.1, q30.2.2.2.2.2.1, q30.2.2.2.2.2.2.1, q30.2.2.2.2.2.2.2.1, q30.2.2.2.2.2.2.2.2.1, q30.2.2.2.2.2.2.2.2.2.1, q30.2.2.2.2.2.2.2.2.2.2.1, q30.2.2.2.2.2.2.2.2.2.2.2.1, q30.2.2.2.2.2.2.2.2.2.2.2.2.1, q30.2.2.2.2.2.2.2.2.2.2.2.2.2.1, q30.2.2.2.2.2.2.2.2.2.2.2.2.2.2.1, q30.2.2.2.2.2.2.2.2.2.2.2.2.2.2.2.1, (upd q30.2.2.2.2.2.2.2.2.2.2.2.2.2.2.2.2.1 (v1 + 4).toNatClampNeg q30.1), q30.2.2.2.2.2.2.2.2.2.2.2.2.2.2.2.2.2) 47).bind fun q33 =>
                          if ((v1 + 5) < 0 ∨ 366 ≤ (v1 + 5).toNatClampNeg) then none
                          else
                            some (q33.2.1, q33.2.2.1, q33.2.2.2.1, q33.2.2.2.2.1, q33.2.2.2.2.2.1, q33.2.2.2.2.2.2.1, q33.2.2.2.2.2.2.2.1, q33.2.2.2.2.2.2.2.2.1, q33.2.2.2.2.2.2.2.2.2.1, q33.2.2.2.2.2.2.2.2.2.2.1, q33.2.2.2.2.2.2.2.2.2.2.2.1, q33.2.2.2.2.2.2.2.2.2.2.2.2.1, q33.2.2.2.2.2.2.2.2.2.2.2.2.2.1, q33.2.2.2.2.2.2.2.2.2.2.2.2.2.2.1, q33.2.2.2.2.2.2.2.2.2.2.2.2.2.2.2.1, (upd q33.2.2.2.2.2.2.2.2.2.2.2.2.2.2.2.2.1 (v1 + 5).toNatClampNeg q33.1), q33.2.2.2.2.2.2.2.2.2.2.2.2.2.2.2.2.2)
                  else
                    some (q4.2.1, q4.2.2.1, q4.2.2.2.1, q4.2.2.2.2.1, q4.2.2.2.2.2.1, q4.2.2.2.2.2.2.1, q4.2.2.2.2.2.2.2.1, q4.2.2.2.2.2.2.2.2.1, q4.2.2.2.2.2.2.2.2.2.1, q4.2.2.2.2.2.2.2.2.2.2.1, q4.2.2.2.2.2.2.2.2.2.2.2.1, q4.2.2.2.2.2.2.2.2.2.2.2.2.1, q4.2.2.2.2.2.2.2.2.2.2.2.2.2.1, q4.2.2.2.2.2.2.2.2.2.2.2.2.2.2.1, q4.2.2.2.2.2.2.2.2.2.2.2.2.2.2.2.1, (upd q4.2.2.2.2.2.2.2.2.2.2.2.2.2.2.2.2.1 (v1 + 1).toNatClampNeg q4.1), q4.2.2.2.2.2.2.2.2.2.2.2.2.2.2.2.2.2)
      else
        if v2 = 120 then
          (f_X7_number (T.1, T.2.1, T.2.2.1, T.2.2.2.1, T.2.2.2.2.1, T.2.2.2.2.2.1, T.2.2.2.2.2.2.1, T.2.2.2.2.2.2.2.1, T.2.2.2.2.2.2.2.2.1, T.2.2.2.2.2.2.2.2.2.1, T.2.2.2.2.2.2.2.2.2.2.1, T.2.2.2.2.2.2.2.2.2.2.2.1, (T.2.2.2.2.2.2.2.2.2.2.2.2.1 + 1), T.2.2.2.2.2.2.2.2.2.2.2.2.2.1, T.2.2.2.2.2.2.2.2.2.2.2.2.2.2.1, (upd T.2.2.2.2.2.2.2.2.2.2.2.2.2.2.2.1 v1.toNatClampNeg v2), T.2.2.2.2.2.2.2.2.2.2.2.2.2.2.2.2) 1).bind fun q69 =>
          if ((v1 + 1) < 0 ∨ 366 ≤ (v1 + 1).toNatClampNeg) then none
          else
            if v2 = 105 then
              (f_X7_behind (q69.2.1, q69.2.2.1, q69.2.2.2.1, q69.2.2.2.2.1, q69.2.2.2.2.2.1, q69.2.2.2.2.2.2.1, q69.2.2.2.2.2.2.2.1, q69.2.2.2.2.2.2.2.2.1, q69.2.2.2.2.2.2.2.2.2.1, q69.2.2.2.2.2.2.2.2.2.2.1, q69.2.2.2.2.2.2.2.2.2.2.2.1, q69.2.2.2.2.2.2.2.2.2.2.2.2.1, q69.2.2.2.2.2.2.2.2.2.2.2.2.2.1, q69.2.2.2.2.2.2.2.2.2.2.2.2.2.2.1, q69.2.2.2.2.2.2.2.2.2.2.2.2.2.2.2.1, (upd q69.2.2.2.2.2.2.2.2.2.2.2.2.2.2.2.2.1 (v1 + 1).toNatClampNeg q69.1), q69.2.2.2.2.2.2.2.2.2.2.2.2.2.2.2.2.2) 58).bind fun q73 =>
              if ((v1 + 2) < 0 ∨ 366 ≤ (v1 + 2).toNatClampNeg) then none
              else
                some (q73.2.1, q73.2.2.1, q73.2.2.2.1, q73.2.2.2.2.1, q73.2.2.2.2.2.1, q73.2.2.2.2.2.2.1, q73.2.2.2.2.2.2.2.1, q73.2.2.2.2.2.2.2.2.1, q73.2.2.2.2.2.2.2.2.2.1, q73.2.2.2.2.2.2.2.2.2.2.1, q73.2.2.2.2.2.2.2.2.2.2.2.1, q73.2.2.2.2.2.2.2.2.2.2.2.2.1, q73.2.2.2.2.2.2.2.2.2.2.2.2.2.1, q73.2.2.2.2.2.2.2.2.2.2.2.2.2.2.1, q73.2.2.2.2.2.2.2.2.2.2.2.2.2.2.2.1, (upd q73.2.2.2.2.2.2.2.2.2.2.2.2.2.2.2.2.1 (v1 + 2).toNatClampNeg q73.1), q73.2.2.2.2.2.2.2.2.2.2.2.2.2.2.2.2.2)
            else
              if v2 = 109 then
                (f_X7_behind (q69.2.1, q69.2.2.1, q69.2.2.2.1, q69.2.2.2.2.1, q69.2.2.2.2.2.1, q69.2.2.2.2.2.2.1, q69.2.2.2.2.2.2.2.1, q69.2.2.2.2.2.2.2.2.1, q69.2.2.2.2.2.2.2.2.2.1, q69.2.2.2.2.2.2.2.2.2.2.1, q69.2.2.2.2.2.2.2.2.2.2.2.1, q69.2.2.2.2.2.2.2.2.2.2.2.2.1, q69.2.2.2.2.2.2.2.2.2.2.2.2.2.1, q69.2.2.2.2.2.2.2.2.2.2.2.2.2.2.1, q69.2.2.2.2.2.2.2.2.2.2.2.2.2.2.2.1, (upd q69.2.2.2.2.2.2.2.2.2.2.2.2.2.2.2.2.1 (v1 + 1).toNatClampNeg q69.1), q69.2.2.2.2.2.2.2.2.2.2.2.2.2.2.2.2.2) 62).bind fun q77 =>
                if ((v1 + 2) < 0 ∨ 366 ≤ (v1 + 2).toNatClampNeg) then none
                else
                  some (q77.2.1, q77.2.2.1, q77.2.2.2.1, q77.2.2.2.2.1, q77.2.2.2.2.2.1, q77.2.2.2.2.2.2.1, q77.2.2.2.2.2.2.2.1, q77.2.2.2.2.2.2.2.2.1, q77.2.2.2.2.2.2.2.2.2.1, q77.2.2.2.2.2.2.2.2.2.2.1, q77.2.2.2.2.2.2.2.2.2.2.2.1, q77.2.2.2.2.2.2.2.2.2.2.2.2.1, q77.2.2.2.2.2.2.2.2.2.2.2.2.2.1, q77.2.2.2.2.2.2.2.2.2.2.2.2.2.2.1, q77.2.2.2.2.2.2.2.2.2.2.2.2.2.2.2.1, (upd q77.2.2.2.2.2.2.2.2.2.2.2.2.2.2.2.2.1 (v1 + 2).toNatClampNeg q77.1), q77.2.2.2.2.2.2.2.2.2.2.2.2.2.2.2.2.2)
              else
                if v2 = 112 then
                  (f_X7_behind (q69.2.1, q69.2.2.1, q69.2.2.2.1, q69.2.2.2.2.1, q69.2.2.2.2.2.1, q69.2.2.2.2.2.2.1, q69.2.2.2.2.2.2.2.1, q69.2.2.2.2.2.2.2.2.1, q69.2.2.2.2.2.2.2.2.2.1, q69.2.2.2.2.2.2.2.2.2.2.1, q69.2.2.2.2.2.2.2.2.2.2.2.1, q69.2.2.2.2.2.2.2.2.2.2.2.2.1, q69.2.2.2.2.2.2.2.2.2.2.2.2.2.1, q69.2.2.2.2.2.2.2.2.2.2.2.2.2.2.1, q69.2.2.2.2.2.2.2.2.2.2.2.2.2.2.2.1, (upd q69.2.2.2.2.2.2.2.2.2.2.2.2.2.2.2.2.1 (v1 + 1).toNatClampNeg q69.1), q69.2.2.2.2.2.2.2.2.2.2.2.2.2.2.2.2.2) 58).bind fun q81 =>
                  if ((v1 + 2) < 0 ∨ 366 ≤ (v1 + 2).toNatClampNeg) then none
                  else
                    some (q81.2.1, q81.2.2.1, q81.2.2.2.1, q81.2.2.2.2.1, q81.2.2.2.2.2.1, q81.2.2.2.2.2.2.1, q81.2.2.2.2.2.2.2.1, q81.2.2.2.2.2.2.2.2.1, q81.2.2.2.2.2.2.2.2.2.1, q81.2.2.2.2.2.2.2.2.2.2.1, q81.2.2.2.2.2.2.2.2.2.2.2.1, q81.2.2.2.2.2.2.2.2.2.2.2.2.1, q81.2.2.2.2.2.2.2.2.2.2.2.2.2.1, q81.2.2.2.2.2.2.2.2.2.2.2.2.2.2.1, q81.2.2.2.2.2.2.2.2.2.2.2.2.2.2.2.1, (upd q81.2.2.2.2.2.2.2.2.2.2.2.2.2.2.2.2.1 (v1 + 2).toNatClampNeg q81.1), q81.2.2.2.2.2.2.2.2.2.2.2.2.2.2.2.2.2)
                else
                  if v2 = 114 then
                    (f_X7_behind (q69.2.1, q69.2.2.1, q69.2.2.2.1, q69.2.2.2.2.1, q69.2.2.2.2.2.1, q69.2.2.2.2.2.2.1, q69.2.2.2.2.2.2.2.1, q69.2.2.2.2.2.2.2.2.1, q69.2.2.2.2.2.2.2.2.2.1, q69.2.2.2.2.2.2.2.2.2.2.1, q69.2.2.2.2.2.2.2.2.2.2.2.1, q69.2.2.2.2.2.2.2.2.2.2.2.2.1, q69.2.2.2.2.2.2.2.2.2.2.2.2.2.1, q69.2.2.2.2.2.2.2.2.2.2.2.2.2.2.1, q69.2.2.2.2.2.2.2.2.2.2.2.2.2.2.2.1, (upd q69.2.2.2.2.2.2.2.2.2.2.2.2.2.2.2.2.1 (v1 + 1).toNatClampNeg q69.1), q69.2.2.2.2.2.2.2.2.2.2.2.2.2.2.2.2.2) 45).bind fun q85 =>
                    if ((v1 + 2) < 0 ∨ 366 ≤ (v1 + 2).toNatClampNeg) then none
                    else
                      some (q85.2.1, q85.2.2.1, q85.2.2.2.1, q85.2.2.2.2.1, q85.2.2.2.2.2.1, q85.2.2.2.2.2.2.1, q85.2.2.2.2.2.2.2.1, q85.2.2.2.2.2.2.2.2.1, q85.2.2.2.2.2.2.2.2.2.1, q85.2.2.2.2.2.2.2.2.2.2.1, q85.2.2.2.2.2.2.2.2.2.2.2.1, q85.2.2.2.2.2.2.2.2.2.2.2.2.1, q85.2.2.2.2.2.2.2.2.2.2.2.2.2.1, q85.2.2.2.2.2.2.2.2.2.2.2.2.2.2.1, q85.2.2.2.2.2.2.2.2.2.2.2.2.2.2.2.1, (upd q85.2.2.2.2.2.2.2.2.2.2.2.2.2.2.2.2.1 (v1 + 2).toNatClampNeg q85.1), q85.2.2.2.2.2.2.2.2.2.2.2.2.2.2.2.2.2)
                  else
                    if v2 = 119 then
                      (f_X7_behind (q69.2.1, q69.2.2.1, q69.2.2.2.1, q69.2.2.2.2.1, q69.2.2.2.2.2.1, q69.2.2.2.2.2.2.1, q69.2.2.2.2.2.2.2.1, q69.2.2.2.2.2.2.2.2.1, q69.2.2.2.2.2.2.2.2.2.1, q69.2.2.2.2.2.2.2.2.2.2.1, q69.2.2.2.2.2.2.2.2.2.2.2.1, q69.2.2.2.2.2.2.2.2.2.2.2.2.1, q69.2.2.2.2.2.2.2.2.2.2.2.2.2.1, q69.2.2.2.2.2.2.2.2.2.2.2.2.2.2.1, q69.2.2.2.2.2.2.2.2.2.2.2.2.2.2.2.1, (upd q69.2.2.2.2.2.2.2.2.2.2.2.2.2.2.2.2.1 (v1 + 1).toNatClampNeg q69.1), q69.2.2.2.2.2.2.2.2.2.2.2.2.2.2.2.2.2) 61).bind fun q89 =>
                      if ((v1 + 2) < 0 ∨ 366 ≤ (v1 + 2).toNatClampNeg) then none
                      else
                        (f_X7_behind (q89.2.1, q89.2.2.1, q89.2.2.2.1, q89.2.2.2.2.1, q89.2.2.2.2.2.1, q89.2.2.2.2.2.2.1, q89.2.2.2.2.2.2.2.1, q89.2.2.2.2.2.2.2.2.1, q89.2.2.2.2.2.2.2.2.2.1, q89.2.2.2.2.2.2.2.2.2.2.1, q89.2.2.2.2.2.2.2.2.2.2.2.1, q89.2.2.2.2.2.2.2.2.2.2.2.2.1, q89.2.2.2.2.2.2.2.2.2.2.2.2.2.1, q89.2.2.2.2.2.2.2.2.2.2.2.2.2.2.1, q89.2.2.2.2.2.2.2.2.2.2.2.2.2.2.2.1, (upd q89.2.2.2.2.2.2.2.2.2.2.2.2.2.2.2.2.1 (v1 + 2).toNatClampNeg q89.1), q89.2.2.2.2.2.2.2.2.2.2.2.2.2.2.2.2.2) 45).bind fun q92 =>
                        if ((v1 + 3) < 0 ∨ 366 ≤ (v1 + 3).toNatClampNeg) then none
                        else
                          (f_X7_behind (q92.2.1, q92.2.2.1, q92.2.2.2.1, q92.2.2.2.2.1, q92.2.2.2.2.2.1, q92.2.2.2.2.2.2.1, q92.2.2.2.2.2.2.2.1, q92.2.2.2.2.2.2.2.2.1, q92.2.2.2.2.2.2.2.2.2.1, q92.2.2.2.2.2.2.2.2.2.2.1, q92.2.2.2.2.2.2.2.2.2.2.2.1, q92.2.2.2.2.2.2.2.2.2.2.2.2.1, q92.2.2.2.2.2.2.2.2.2.2.2.2.2.1, q92.2.2.2.2.2.2.2.2.2.2.2.2.2.2.1, q92.2.2.2.2.2.2.2.2.2.2.2.2.2.2.2.1, (upd q92.2.2.2.2.2.2.2.2.2.2.2.2.2.2.2.2.1 (v1 + 3).toNatClampNeg q92.1), q92.2.2.2.2.2.2.2.2.2.2.2.2.2.2.2.2.2) 94).bind fun q95 =>
                          if ((v1 + 4) < 0 ∨ 366 ≤ (v1 + 4).toNatClampNeg) then none
                          else
                            (f_X7_behind (q95.2.1, q95.2.2.1, q95.2.2.2.1, q95.2.2.2.2.1, q95.2.2.2.2.2.1, q95.2.2.2.2.2.2.1, q95.2.2.2.2.2.2.2.1, q95.2.2.2.2.2.2.2.2.1, q95.2.2.2.2.2.2.2.2.2.1, q95.2.2.2.2.2.2.2.2.2.2.1, q95.2.2.2.2.2.2.2.2.2.2.2.1, q95.2.2.2.2.2.2.2.2.2.2.2.2.1, q95.2.2.2.2.2.2.2.2.2.2.2.2.2.1, q95.2.2.2.2.2.2.2.2.2.2.2.2.2.2.1, q95.2.2.2.2.2.2.2.2.2.2.2.2.2.2.2.1, (upd q95.2.2.2.2.2.2.2.2.2.2.2.2.2.2.2.2.1 (v1 + 4).toNatClampNeg q95.1), q95.2.2.2.2.2.2.2.2.2.2.2.2.2.2.2.2.2) 47).bind fun q98 =>
                            if ((v1 + 5) < 0 ∨ 366 ≤ (v1 + 5).toNatClampNeg) then none
                            else
                              some (q98.2.1, q98.2.2.1, q98.2.2.2.1, q98.2.2.2.2.1, q98.2.2.2.2.2.1, q98.2.2.2.2.2.2.1, q98.2.2.2.2.2.2.2.1, q98.2.2.2.2.2.2.2.2.1, q98.2.2.2.2.2.2.2.2.2.1, q98.2.2.2.2.2.2.2.2.2.2.1, q98.2.2.2.2.2.2.2.2.2.2.2.1, q98.2.2.2.2.2.2.2.2.2.2.2.2.1, q98.2.2.2.2.2.2.2.2.2.2.2.2.2.1, q98.2.2.2.2.2.2.2.2.2.2.2.2.2.2.1, q98.2.2.2.2.2.2.2.2.2.2.2.2.2.2.2.1, (upd q98.2.2.2.2.2.2.2.2.2.2.2.2.2.2.2.2.1 (v1 + 5).toNatClampNeg q98.1), q98.2.2.2.2.2.2.2.2.2.2.2.2.2.2.2.2.2)
                    else
                      some (q69.2.1, q69.2.2.1, q69.2.2.2.1, q69.2.2.2.2.1, q69.2.2.2.2.2.1, q69.2.2.2.2.2.2.1, q69.2.2.2.2.2.2.2.1, q69.2.2.2.2.2.2.2.2.1, q69.2.2.2.2.2.2.2.2.2.1, q69.2.2.2.2.2.2.2.2.2.2.1, q69.2.2.2.2.2.2.2.2.2.2.2.1, q69.2.2.2.2.2.2.2.2.2.2.2.2.1, q69.2.2.2.2.2.2.2.2.2.2.2.2.2.1, q69.2.2.2.2.2.2.2.2.2.2.2.2.2.2.1, q69.2.2.2.2.2.2.2.2.2.2.2.2.2.2.2.1, (upd q69.2.2.2.2.2.2.2.2.2.2.2.2.2.2.2.2.1 (v1 + 1).toNatClampNeg q69.1), q69.2.2.2.2.2.2.2.2.2.2.2.2.2.2.2.2.2)
        else
          (f_X7_number (T.1, T.2.1, T.2.2.1, T.2.2.2.1, T.2.2.2.2.1, T.2.2.2.2.2.1, T.2.2.2.2.2.2.1, T.2.2.2.2.2.2.2.1, T.2.2.2.2.2.2.2.2.1, T.2.2.2.2.2.2.2.2.2.1, T.2.2.2.2.2.2.2.2.2.2.1, T.2.2.2.2.2.2.2.2.2.2.2.1, (T.2.2.2.2.2.2.2.2.2.2.2.2.1 + 1), T.2.2.2.2.2.2.2.2.2.2.2.2.2.1, T.2.2.2.2.2.2.2.2.2.2.2.2.2.2.1, (upd T.2.2.2.2.2.2.2.2.2.2.2.2.2.2.2.1 v1.toNatClampNeg v2), T.2.2.2.2.2.2.2.2.2.2.2.2.2.2.2.2) 2).bind fun q37 =>
          if ((v1 + 1) < 0 ∨ 366 ≤ (v1 + 1).toNatClampNeg) then none
          else
            if v2 = 105 then
              (f_X7_behind (q37.2.1, q37.2.2.1, q37.2.2.2.1, q37.2.2.2.2.1, q37.2.2.2.2.2.1, q37.2.2.2.2.2.2.1, q37.2.2.2.2.2.2.2.1, q37.2.2.2.2.2.2.2.2.1, q37.2.2.2.2.2.2.2.2.2.1, q37.2.2.2.2.2.2.2.2.2.2.1, q37.2.2.2.2.2.2.2.2.2.2.2.1, q37.2.2.2.2.2.2.2.2.2.2.2.2.1, q37.2.2.2.2.2.2.2.2.2.2.2.2.2.1, q37.2.2.2.2.2.2.2.2.2.2.2.2.2.2.1, q37.2.2.2.2.2.2.2.2.2.2.2.2.2.2.2.1, (upd q37.2.2.2.2.2.2.2.2.2.2.2.2.2.2.2.2.1 (v1 + 1).toNatClampNeg q37.1), q37.2.2.2.2.2.2.2.2.2.2.2.2.2.2.2.2.2) 58).bind fun q41 =>
              if ((v1 + 2) < 0 ∨ 366 ≤ (v1 + 2).toNatClampNeg) then none
              else
                some (q41.2.1, q41.2.2.1, q41.2.2.2.1, q41.2.2.2.2.1, q41.2.2.2.2.2.1, q41.2.2.2.2.2.2.1, q41.2.2.2.2.2.2.2.1, q41.2.2.2.2.2.2.2.2.1, q41.2.2.2.2.2.2.2.2.2.1, q41.2.2.2.2.2.2.2.2.2.2.1, q41.2.2.2.2.2.2.2.2.2.2.2.1, q41.2.2.2.2.2.2.2.2.2.2.2.2.1, q41.2.2.2.2.2.2.2.2.2.2.2.2.2.1, q41.2.2.2.2.2.2.2.2.2.2.2.2.2.2.1, q41.2.2.2.2.2.2.2.2.2.2.2.2.2.2.2.1, (upd q41.2.2.2.2.2.2.2.2.2.2.2.2.2.2.2.2.1 (v1 + 2).toNatClampNeg q41.1), q41.2.2.2.2.2.2.2.2.2.2.2.2.2.2.2.2.2)
            else
              if v2 = 109 then
                (f_X7_behind (q37.2.1, q37.2.2.1, q37.2.2.2.1, q37.2.2.2.2.1, q37.2.2.2.2.2.1, q37.2.2.2.2.2.2.1, q37.2.2.2.2.2.2.2.1, q37.2.2.2.2.2.2.2.2.1, q37.2.2.2.2.2.2.2.2.2.1, q37.2.2.2.2.2.2.2.2.2.2.1, q37.2.2.2.2.2.2.2.2.2.2.2.1, q37.2.2.2.2.2.2.2.2.2.2.2.2.1, q37.2.2.2.2.2.2.2.2.2.2.2.2.2.1, q37.2.2.2.2.2.2.2.2.2.2.2.2.2.2.1, q37.2.2.2.2.2.2.2.2.2.2.2.2.2.2.2.1, (upd q37.2.2.2.2.2.2.2.2.2.2.2.2.2.2.2.2.1 (v1 + 1).toNatClampNeg q37.1), q37.2.2.2.2.2.2.2.2.2.2.2.2.2.2.2.2.2) 62).bind fun q45 =>
                if ((v1 + 2) < 0 ∨ 366 ≤ (v1 + 2).toNatClampNeg) then none
                else
                  some (q45.2.1, q45.2.2.1, q45.2.2.2.1, q45.2.2.2.2.1, q45.2.2.2.2.2.1, q45.2.2.2.2.2.2.1, q45.2.2.2.2.2.2.2.1, q45.2.2.2.2.2.2.2.2.1, q45.2.2.2.2.2.2.2.2.2.1, q45.2.2.2.2.2.2.2.2.2.2.1, q45.2.2.2.2.2.2.2.2.2.2.2.1, q45.2.2.2.2.2.2.2.2.2.2.2.2.1, q45.2.2.2.2.2.2.2.2.2.2.2.2.2.1, q45.2.2.2.2.2.2.2.2.2.2.2.2.2.2.1, q45.2.2.2.2.2.2.2.2.2.2.2.2.2.2.2.1, (upd q45.2.2.2.2.2.2.2.2.2.2.2.2.2.2.2.2.1 (v1 + 2).toNatClampNeg q45.1), q45.2.2.2.2.2.2.2.2.2.2.2.2.2.2.2.2.2)
              else
                if v2 = 112 then
                  (f_X7_behind (q37.2.1, q37.2.2.1, q37.2.2.2.1, q37.2.2.2.2.1, q37.2.2.2.2.2.1, q37.2.2.2.2.2.2.1, q37.2.2.2.2.2.2.2.1, q37.2.2.2.2.2.2.2.2.1, q37.2.2.2.2.2.2.2.2.2.1, q37.2.2.2.2.2.2.2.2.2.2.1, q37.2.2.2.2.2.2.2.2.2.2.2.1, q37.2.2.2.2.2.2.2.2.2.2.2.2.1, q37.2.2.2.2.2.2.2.2.2.2.2.2.2.1, q37.2.2.2.2.2.2.2.2.2.2.2.2.2.2.1, q37.2.2.2.2.2.2.2.2.2.2.2.2.2.2.2.1, (upd q37.2.2.2.2.2.2.2.2.2.2.2.2.2.2.2.2.1 (v1 + 1).toNatClampNeg q37.1), q37.2.2.2.2.2.2.2.2.2.2.2.2.2.2.2.2.2) 58).bind fun q49 =>
                  if ((v1 + 2) < 0 ∨ 366 ≤ (v1 + 2).toNatClampNeg) then none
                  else
                    some (q49.2.1, q49.2.2.1, q49.2.2.2.1, q49.2.2.2.2.1, q49.2.2.2.2.2.1, q49.2.2.2.2.2.2.1, q49.2.2.2.2.2.2.2.1, q49.2.2.2.2.2.2.2.2.1, q49.2.2.2.2.2.2.2.2.2.1, q49.2.2.2.2.2.2.2.2.2.2.1, q49.2.2.2.2.2.2.2.2.2.2.2.1, q49.2.2.2.2.2.2.2.2.2.2.2.2.1, q49.2.2.2.2.2.2.2.2.2.2.2.2.2.1, q49.2.2.2.2.2.2.2.2.2.2.2.2.2.2.1, q49.2.2.2.2.2.2.2.2.2.2.2.2.2.2.2.1, (upd q49.2.2.2.2.2.2.2.2.2.2.2.2.2.2.2.2.1 (v1 + 2).toNatClampNeg q49.1), q49.2.2.2.2.2.2.2.2.2.2.2.2.2.2.2.2.2)
                else
                  if v2 = 114 then
                    (f_X7_behind (q37.2.1, q37.2.2.1, q37.2.2.2.1, q37.2.2.2.2.1, q37.2.2.2.2.2.1, q37.2.2.2.2.2.2.1, q37.2.2.2.2.2.2.2.1, q37.2.2.2.2.2.2.2.2.1, q37.2.2.2.2.2.2.2.2.2.1, q37.2.2.2.2.2.2.2.2.2.2.1, q37.2.2.2.2.2.2.2.2.2.2.2.1, q37.2.2.2.2.2.2.2.2.2.2.2.2.1, q37.2.2.2.2.2.2.2.2.2.2.2.2.2.1, q37.2.2.2.2.2.2.2.2.2.2.2.2.2.2.1, q37.2.2.2.2.2.2.2.2.2.2.2.2.2.2.2.1, (upd q37.2.2.2.2.2.2.2.2.2.2.2.2.2.2.2.2.1 (v1 + 1).toNatClampNeg q37.1), q37.2.2.2.2.2.2.2.2.2.2.2.2.2.2.2.2.2) 45).bind fun q53 =>
                    if ((v1 + 2) < 0 ∨ 366 ≤ (v1 + 2).toNatClampNeg) then none
                    else
                      some (q53.2.1, q53.2.2.1, q53.2.2.2.1, q53.2.2.2.2.1, q53.2.2.2.2.2.1, q53.2.2.2.2.2.2.1, q53.2.2.2.2.2.2.2.1, q53.2.2.2.2.2.2.2.2.1, q53.2.2.2.2.2.2.2.2.2.1, q53.2.2.2.2.2.2.2.2.2.2.1, q53.2.2.2.2.2.2.2.2.2.2.2.1, q53.2.2.2.2.2.2.2.2.2.2.2.2.1, q53.2.2.2.2.2.2.2.2.2.2.2.2.2.1, q53.2.2.2.2.2.2.2.2.2.2.2.2.2.2.1, q53.2.2.2.2.2.2.2.2.2.2.2.2.2.2.2.1, (upd q53.2.2.2.2.2.2.2.2.2.2.2.2.2.2.2.2.1 (v1 + 2).toNatClampNeg q53.1), q53.2.2.2.2.2.2.2.2.2.2.2.2.2.2.2.2.2)
                  else
                    if v2 = 119 then
                      (f_X7_behind (q37.2.1, q37.2.2.1, q37.2.2.2.1, q37.2.2.2.2.1, q37.2.2.2.2.2.1, q37.2.2.2.2.2.2.1, q37.2.2.2.2.2.2.2.1, q37.2.2.2.2.2.2.2.2.1, q37.2.2.2.2.2.2.2.2.2.1, q37.2.2.2.2.2.2.2.2.2.2.1, q37.2.2.2.2.2.2.2.2.2.2.2.1, q37.2.2.2.2.2.2.2.2.2.2.2.2.1, q37.2.2.2.2.2.2.2.2.2.2.2.2.2.1, q37.2.2.2.2.2.2.2.2.2.2.2.2.2.2.1, q37.2.2.2.2.2.2.2.2.2.2.2.2.2.2.2.1, (upd q37.2.2.2.2.2.2.2.2.2.2.2.2.2.2.2.2.1 (v1 + 1).toNatClampNeg q37.1), q37.2.2.2.2.2.2.2.2.2.2.2.2.2.2.2.2.2) 61).bind fun q57 =>
                      if ((v1 + 2) < 0 ∨ 366 ≤ (v1 + 2).toNatClampNeg) then none
                      else
                        (f_X7_behind (q57.2.1, q57.2.2.1, q57.2.2.2.1, q57.2.2.2.2.1, q57.2.2.2.2.2.1, q57.2.2.2.2.2.2.1, q57.2.2.2.2.2.2.2.1, q57.2.2.2.2.2.2.2.2.1, q57.2.2.2.2.2.2.2.2.2.1, q57.2.2.2.2.2.2.2.2.2.2.1, q57.2.2.2.2.2.2.2.2.2.2.2.1, q57.2.2.2.2.2.2.2.2.2.2.2.2.1, q57.2.2.2.2.2.2.2.2.2.2.2.2.2.1, q57.2.2.2.2.2.2.2.2.2.2.2.2.2.2.1, q57.2.2.2.2.2.2.2.2.2.2.2.2.2.2.2.1, (upd q57.2.2.2.2.2.2.2.2.2.2.2.2.2.2.2.2.1 (v1 + 2).toNatClampNeg q57.1), q57.2.2.2.2.2.2.2.2.2.2.2.2.2.2.2.2.2) 45).bind fun q60 =>
                        if ((v1 + 3) < 0 ∨ 366 ≤ (v1 + 3).toNatClampNeg) then none
                        else
                          (f_X7_behind (q60.2.1, q60.2.2.1, q60.2.2.2.1, q60.2.2.2.2.1, q60.2.2.2.2.2.1, q60.2.2.2.2.2.2.1, q60.2.2.2.2.2.2.2.1, q60.2.2.2.2.2.2.2.2.1, q60.2.2.2.2.2.2.2.2.2.1, q60.2.2.2.2.2.2.2.2.2.2.1, q60.2.2.2.2.2.2.2.2.2.2.2.1, q60.2.2.2.2.2.2.2.2.2.2.2.2.1, q60.2.2.2.2.2.2.2.2.2.2.2.2.2.1, q60.2.2.2.2.2.2.2.2.2.2.2.2.2.2.1, q60.2.2.2.2.2.2.2.2.2.2.2.2.2.2.2.1, (upd q60.2.2.2.2.2.2.2.2.2.2.2.2.2.2.2.2.1 (v1 + 3).toNatClampNeg q60.1), q60.2.2.2.2.2.2.2.2.2.2.2.2.2.2.2.2.2) 94).bind fun q63 =>
                          if ((v1 + 4) < 0 ∨ 366 ≤ (v1 + 4).toNatClampNeg) then none
                          else
                            (f_X7_behind (q63.2.1, q63.2.2.1, q63.2.2.2.1, q63.2.2.2.2.1, q63.2.2.2.2.2.1, q63.2.2.2.2.2.2.1, q63.2.2.2.2.2.2.2.1, q63.2.2.2.2.2.2.2.2.1, q63.2.2.2.2.2.2.2.2.2.1, q63.2.2.2.2.2.2.2.2.2.2.1, q63.2.2.2.2.2.2.2.2.2.2.2.1, q63.2.2.2.2.2.2.2.2.2.2.2.2.1, q63.2.2.2.2.2.2.2.2.2.2.2.2.2.1, q63.2.2.2.2.2.2.2.2.2.2.2.2.2.2.1, q63.2.2.2.2.2.2.2.2.2.2.2.2.2.2.2.1, (upd q63.2.2.2.2.2.2.2.2.2.2.2.2.2.2.2.2.1 (v1 + 4).toNatClampNeg q63.1), q63.2.2.2.2.2.2.2.2.2.2.2.2.2.2.2.2.2) 47).bind fun q66 =>
                            if ((v1 + 5) < 0 ∨ 366 ≤ (v1 + 5).toNatClampNeg) then none
                            else
                              some (q66.2.1, q66.2.2.1, q66.2.2.2.1, q66.2.2.2.2.1, q66.2.2.2.2.2.1, q66.2.2.2.2.2.2.1, q66.2.2.2.2.2.2.2.1, q66.2.2.2.2.2.2.2.2.1, q66.2.2.2.2.2.2.2.2.2.1, q66.2.2.2.2.2.2.2.2.2.2.1, q66.2.2.2.2.2.2.2.2.2.2.2.1, q66.2.2.2.2.2.2.2.2.2.2.2.2.1, q66.2.2.2.2.2.2.2.2.2.2.2.2.2.1, q66.2.2.2.2.2.2.2.2.2.2.2.2.2.2.1, q66.2.2.2.2.2.2.2.2.2.2.2.2.2.2.2.1, (upd q66.2.2.2.2.2.2.2.2.2.2.2.2.2.2.2.2.1 (v1 + 5).toNatClampNeg q66.1), q66.2.2.2.2.2.2.2.2.2.2.2.2.2.2.2.2.2)
                    else
                      some (q37.2.1, q37.2.2.1, q37.2.2.2.1, q37.2.2.2.2.1, q37.2.2.2.2.2.1, q37.2.2.2.2.2.2.1, q37.2.2.2.2.2.2.2.1, q37.2.2.2.2.2.2.2.2.1, q37.2.2.2.2.2.2.2.2.2.1, q37.2.2.2.2.2.2.2.2.2.2.1, q37.2.2.2.2.2.2.2.2.2.2.2.1, q37.2.2.2.2.2.2.2.2.2.2.2.2.1, q37.2.2.2.2.2.2.2.2.2.2.2.2.2.1, q37.2.2.2.2.2.2.2.2.2.2.2.2.2.2.1, q37.2.2.2.2.2.2.2.2.2.2.2.2.2.2.2.1, (upd q37.2.2.2.2.2.2.2.2.2.2.2.2.2.2.2.2.1 (v1 + 1).toNatClampNeg q37.1), q37.2.2.2.2.2.2.2.2.2.2.2.2.2.2.2.2.2)
def f_X7_command_c25 : Nat → ModS → Int32 → Int32 → Int32 → Option (ModS)
  | 0, _, _, _, _ => none
  | n + 1, T, v1, v2, v3 =>
    if 6 ≤ v3 then
      if v2 = 105 then
        f_X7_command_c97 T v1 v2
      else
        if v2 = 100 then
          f_X7_command_c97 T v1 v2
        else
          if v2 = 112 then
            f_X7_command_c97 T v1 v2
          else
            if v2 = 109 then
              f_X7_command_c97 T v1 v2
            else
              if v2 = 114 then
                f_X7_command_c97 T v1 v2
              else
                if v2 = 119 then
                  f_X7_command_c97 T v1 v2
                else
                  if v2 = 120 then
                    f_X7_command_c97 T v1 v2
                  else
                    some (T.1, T.2.1, T.2.2.1, T.2.2.2.1, T.2.2.2.2.1, T.2.2.2.2.2.1, T.2.2.2.2.2.2.1, T.2.2.2.2.2.2.2.1, T.2.2.2.2.2.2.2.2.1, T.2.2.2.2.2.2.2.2.2.1, T.2.2.2.2.2.2.2.2.2.2.1, T.2.2.2.2.2.2.2.2.2.2.2.1, T.2.2.2.2.2.2.2.2.2.2.2.2.1, T.2.2.2.2.2.2.2.2.2.2.2.2.1, T.2.2.2.2.2.2.2.2.2.2.2.2.2.2.1, T.2.2.2.2.2.2.2.2.2.2.2.2.2.2.2.1, T.2.2.2.2.2.2.2.2.2.2.2.2.2.2.2.2)
    else
      if ((v1 + v3) < 0 ∨ 366 ≤ (v1 + v3).toNatClampNeg) then none
      else
        f_X7_command_c25 n (T.1, T.2.1, T.2.2.1, T.2.2.2.1, T.2.2.2.2.1, T.2.2.2.2.2.1, T.2.2.2.2.2.2.1, T.2.2.2.2.2.2.2.1, T.2.2.2.2.2.2.2.2.1, T.2.2.2.2.2.2.2.2.2.1, T.2.2.2.2.2.2.2.2.2.2.1, T.2.2.2.2.2.2.2.2.2.2.2.1, T.2.2.2.2.2.2.2.2.2.2.2.2.1, T.2.2.2.2.2.2.2.2.2.2.2.2.2.1, T.2.2.2.2.2.2.2.2.2.2.2.2.2.2.1, (upd T.2.2.2.2.2.2.2.2.2.2.2.2.2.2.2.1 (v1 + v3).toNatClampNeg 0), T.2.2.2.2.2.2.2.2.2.2.2.2.2.2.2.2) v1 v2 (v3 + 1)
def f_X7_command (T : ModS) : Option (ModS) :=
    (f_X7_sign (T.1, T.2.1, T.2.2.1, T.2.2.2.1, T.2.2.2.2.1, T.2.2.2.2.2.1, T.2.2.2.2.2.2.1, T.2.2.2.2.2.2.2.1, T.2.2.2.2.2.2.2.2.1, T.2.2.2.2.2.2.2.2.2.1, T.2.2.2.2.2.2.2.2.2.2.1, T.2.2.2.2.2.2.2.2.2.2.2.1, T.2.2.2.2.2.2.2.2.2.2.2.2.1, T.2.2.2.2.2.2.2.2.2.2.2.2.2.1, T.2.2.2.2.2.2.2.2.2.2.2.2.2.2.1, T.2.2.2.2.2.2.2.2.2.2.2.2.2.2.2.1, (T.2.2.2.2.2.2.2.2.2.2.2.2.2.2.2.2 + 1))).bind fun q110 =>
    f_X7_command_c25 200 (T.1, T.2.1, T.2.2.1, T.2.2.2.1, T.2.2.2.2.1, T.2.2.2.2.2.1, T.2.2.2.2.2.2.1, T.2.2.2.2.2.2.2.1, T.2.2.2.2.2.2.2.2.1, T.2.2.2.2.2.2.2.2.2.1, T.2.2.2.2.2.2.2.2.2.2.1, T.2.2.2.2.2.2.2.2.2.2.2.1, T.2.2.2.2.2.2.2.2.2.2.2.2.1, T.2.2.2.2.2.2.2.2.2.2.2.2.2.1, T.2.2.2.2.2.2.2.2.2.2.2.2.2.2.1, T.2.2.2.2.2.2.2.2.2.2.2.2.2.2.2.1, (T.2.2.2.2.2.2.2.2.2.2.2.2.2.2.2.2 + 1)) (6 * T.2.2.2.2.2.2.2.2.2.2.2.2.2.2.2.2) q110 0
set_option maxHeartbeats 4000000 in
set_option maxRecDepth 100000 in
theorem c_X7_command (l : Launch) (g : pq_g) (a : Nat → Nat) (T : ModS) (T1 : ModS) (hf : f_X7_command T = some T1) : pq_Mv l yX7_command cX7_command 4 4 g (modW g a T) [.ref (a 0)] (modW g a T1) := by
  rw [f_X7_command] at hf
  refine pq_Mv.of (own := RX7) (by decide) rfl (Nat.le_of_ble_eq_true rfl) rfl ?_
  intro p e s m below meth c ls Q A S hP hK hD hS hA hl hend
  obtain ⟨hx, hb, hml, hown, hts⟩ := id S
  have B97 : ∀ (T : ModS) (v1 : Int32) (v2 : Int32) (ls : Array Slot) (H : Heap) (locs : List Loc), va_P g.1 pq_cl (modW g a T) H → va_D A (modW g a T) → va_S A s.heap H locs → lv_has ls 4 [(0, .ref (a 0)), (1, .int v1), (2, .int v2)] → f_X7_command_c97 T v1 v2 = some T1 → W p l e (pq_rm 4 0 0) s m ([.ref (a 0)] : List Value).toArray below meth c H locs 0 0 Q (F0 m 97 ls []) := by
    intro T v1 v2 ls H locs hP hD hS hl hf
    rw [f_X7_command_c97] at hf
    refine lv_aload_n hx hb dX7_command_97 rfl (lv_at hl 0 rfl) ?_
    refine lv_dup hx hb dX7_command_98 rfl ?_
    refine pq_get S hK hP inX7 0 rfl rfl 12 (by decide) fl_X7_217 rfl (v := .int T.2.2.2.2.2.2.2.2.2.2.2.2.1) rfl dX7_command_99 ?_
    refine lv_iconst (v := 1) hx hb dX7_command_102 (by decide) ?_
    refine lv_iadd hx hb dX7_command_103 ?_
    refine pq_putf S hK hP hD hS inX7 tyX7_ok nmX7 0 rfl rfl 12 (by decide) fl_X7_217 rfl rfl (ty := .int) rfl rfl rfl (Nat.le_of_ble_eq_true rfl) dX7_command_104 (fun H locs hP hS => ?_)
    replace hP : va_P g.1 pq_cl (modW g a (T.1, T.2.1, T.2.2.1, T.2.2.2.1, T.2.2.2.2.1, T.2.2.2.2.2.1, T.2.2.2.2.2.2.1, T.2.2.2.2.2.2.2.1, T.2.2.2.2.2.2.2.2.1, T.2.2.2.2.2.2.2.2.2.1, T.2.2.2.2.2.2.2.2.2.2.1, T.2.2.2.2.2.2.2.2.2.2.2.1, (T.2.2.2.2.2.2.2.2.2.2.2.2.1 + 1), T.2.2.2.2.2.2.2.2.2.2.2.2.2.1, T.2.2.2.2.2.2.2.2.2.2.2.2.2.2.1, T.2.2.2.2.2.2.2.2.2.2.2.2.2.2.2.1, T.2.2.2.2.2.2.2.2.2.2.2.2.2.2.2.2)) H := hP
    replace hD : va_D A (modW g a (T.1, T.2.1, T.2.2.1, T.2.2.2.1, T.2.2.2.2.1, T.2.2.2.2.2.1, T.2.2.2.2.2.2.1, T.2.2.2.2.2.2.2.1, T.2.2.2.2.2.2.2.2.1, T.2.2.2.2.2.2.2.2.2.1, T.2.2.2.2.2.2.2.2.2.2.1, T.2.2.2.2.2.2.2.2.2.2.2.1, (T.2.2.2.2.2.2.2.2.2.2.2.2.1 + 1), T.2.2.2.2.2.2.2.2.2.2.2.2.2.1, T.2.2.2.2.2.2.2.2.2.2.2.2.2.2.1, T.2.2.2.2.2.2.2.2.2.2.2.2.2.2.2.1, T.2.2.2.2.2.2.2.2.2.2.2.2.2.2.2.2)) := pq_adr hD (ad_X7 _ _)
    refine lv_aload_n hx hb dX7_command_107 rfl (lv_at hl 0 rfl) ?_
    refine pq_get S hK hP inX7 0 rfl rfl 15 (by decide) fl_X7_24 rfl (v := .ref (a 4)) rfl dX7_command_108 ?_
    refine lv_iload_n hx hb dX7_command_111 rfl (lv_at hl 1 rfl) ?_
    refine lv_iload_n hx hb dX7_command_112 rfl (lv_at hl 2 rfl) ?_
    by_cases h1 : (v1 < 0 ∨ 366 ≤ v1.toNatClampNeg)
    · exact absurd (pq_ifp h1 hf) (fun h9 => by cases h9)
    replace hf := pq_ifn h1 hf
    refine va_iast hx hb hK.1 hP hD hS 4 0 rfl rfl h1 dX7_command_113 (fun H locs hP _ hS => ?_)
    replace hP : va_P g.1 pq_cl (modW g a (T.1, T.2.1, T.2.2.1, T.2.2.2.1, T.2.2.2.2.1, T.2.2.2.2.2.1, T.2.2.2.2.2.2.1, T.2.2.2.2.2.2.2.1, T.2.2.2.2.2.2.2.2.1, T.2.2.2.2.2.2.2.2.2.1, T.2.2.2.2.2.2.2.2.2.2.1, T.2.2.2.2.2.2.2.2.2.2.2.1, (T.2.2.2.2.2.2.2.2.2.2.2.2.1 + 1), T.2.2.2.2.2.2.2.2.2.2.2.2.2.1, T.2.2.2.2.2.2.2.2.2.2.2.2.2.2.1, (upd T.2.2.2.2.2.2.2.2.2.2.2.2.2.2.2.1 v1.toNatClampNeg v2), T.2.2.2.2.2.2.2.2.2.2.2.2.2.2.2.2)) H := hP
    replace hD : va_D A (modW g a (T.1, T.2.1, T.2.2.1, T.2.2.2.1, T.2.2.2.2.1, T.2.2.2.2.2.1, T.2.2.2.2.2.2.1, T.2.2.2.2.2.2.2.1, T.2.2.2.2.2.2.2.2.1, T.2.2.2.2.2.2.2.2.2.1, T.2.2.2.2.2.2.2.2.2.2.1, T.2.2.2.2.2.2.2.2.2.2.2.1, (T.2.2.2.2.2.2.2.2.2.2.2.2.1 + 1), T.2.2.2.2.2.2.2.2.2.2.2.2.2.1, T.2.2.2.2.2.2.2.2.2.2.2.2.2.2.1, (upd T.2.2.2.2.2.2.2.2.2.2.2.2.2.2.2.1 v1.toNatClampNeg v2), T.2.2.2.2.2.2.2.2.2.2.2.2.2.2.2.2)) := pq_adr hD (ad_X7 _ _)
    refine lv_aload_n hx hb dX7_command_114 rfl (lv_at hl 0 rfl) ?_
    refine pq_get S hK hP inX7 0 rfl rfl 15 (by decide) fl_X7_24 rfl (v := .ref (a 4)) rfl dX7_command_115 ?_
    refine lv_iload_n hx hb dX7_command_118 rfl (lv_at hl 1 rfl) ?_
    refine lv_iconst (v := 1) hx hb dX7_command_119 (by decide) ?_
    refine lv_iadd hx hb dX7_command_120 ?_
    refine lv_aload_n hx hb dX7_command_121 rfl (lv_at hl 0 rfl) ?_
    refine lv_iload_n hx hb dX7_command_122 rfl (lv_at hl 2 rfl) ?_
    refine lv_bipush (v := 119) hx hb dX7_command_123 (by decide) ?_
    refine lv_icmp_eq (tgt := 134) hx hb dX7_command_125 (by decide) (fun h2 => ?_) (fun h2 => ?_)
    · replace hf := pq_ifp h2 hf
      refine lv_iconst (v := 1) hx hb dX7_command_134 (by decide) ?_
      refine lv_goto (tgt := 139) hx hb dX7_command_135 (by decide) ?_
      obtain ⟨q4, e3, hf⟩ := pq_bind hf
      refine pq_cVi S (c_X7_number l g a (T.1, T.2.1, T.2.2.1, T.2.2.2.1, T.2.2.2.2.1, T.2.2.2.2.2.1, T.2.2.2.2.2.2.1, T.2.2.2.2.2.2.2.1, T.2.2.2.2.2.2.2.2.1, T.2.2.2.2.2.2.2.2.2.1, T.2.2.2.2.2.2.2.2.2.2.1, T.2.2.2.2.2.2.2.2.2.2.2.1, (T.2.2.2.2.2.2.2.2.2.2.2.2.1 + 1), T.2.2.2.2.2.2.2.2.2.2.2.2.2.1, T.2.2.2.2.2.2.2.2.2.2.2.2.2.2.1, (upd T.2.2.2.2.2.2.2.2.2.2.2.2.2.2.2.1 v1.toNatClampNeg v2), T.2.2.2.2.2.2.2.2.2.2.2.2.2.2.2.2) 1 q4.1 q4.2 e3) vv_X7_229 hK hP hD hS hA rfl rfl rfl rfl rfl hl.1 (Nat.le_of_ble_eq_true rfl) dX7_command_139 (by decide) (by decide) ⟨Nat.le_refl _, Nat.le_refl _⟩ (fun H9 locs hk hP1 hS => ?_)
      replace hP := hP1
      replace hP : va_P g.1 pq_cl (modW g a q4.2) H9 := hP
      replace hD : va_D A (modW g a q4.2) := pq_adr hD (ad_X7 _ _)
      clear hk
      generalize H9 = H at hP hS ⊢
      by_cases h5 : ((v1 + 1) < 0 ∨ 366 ≤ (v1 + 1).toNatClampNeg)
      · exact absurd (pq_ifp h5 hf) (fun h9 => by cases h9)
      replace hf := pq_ifn h5 hf
      refine va_iast hx hb hK.1 hP hD hS 4 0 rfl rfl h5 dX7_command_142 (fun H locs hP _ hS => ?_)
      replace hP : va_P g.1 pq_cl (modW g a (q4.2.1, q4.2.2.1, q4.2.2.2.1, q4.2.2.2.2.1, q4.2.2.2.2.2.1, q4.2.2.2.2.2.2.1, q4.2.2.2.2.2.2.2.1, q4.2.2.2.2.2.2.2.2.1, q4.2.2.2.2.2.2.2.2.2.1, q4.2.2.2.2.2.2.2.2.2.2.1, q4.2.2.2.2.2.2.2.2.2.2.2.1, q4.2.2.2.2.2.2.2.2.2.2.2.2.1, q4.2.2.2.2.2.2.2.2.2.2.2.2.2.1, q4.2.2.2.2.2.2.2.2.2.2.2.2.2.2.1, q4.2.2.2.2.2.2.2.2.2.2.2.2.2.2.2.1, (upd q4.2.2.2.2.2.2.2.2.2.2.2.2.2.2.2.2.1 (v1 + 1).toNatClampNeg q4.1), q4.2.2.2.2.2.2.2.2.2.2.2.2.2.2.2.2.2)) H := hP
      replace hD : va_D A (modW g a (q4.2.1, q4.2.2.1, q4.2.2.2.1, q4.2.2.2.2.1, q4.2.2.2.2.2.1, q4.2.2.2.2.2.2.1, q4.2.2.2.2.2.2.2.1, q4.2.2.2.2.2.2.2.2.1, q4.2.2.2.2.2.2.2.2.2.1, q4.2.2.2.2.2.2.2.2.2.2.1, q4.2.2.2.2.2.2.2.2.2.2.2.1, q4.2.2.2.2.2.2.2.2.2.2.2.2.1, q4.2.2.2.2.2.2.2.2.2.2.2.2.2.1, q4.2.2.2.2.2.2.2.2.2.2.2.2.2.2.1, q4.2.2.2.2.2.2.2.2.2.2.2.2.2.2.2.1, (upd q4.2.2.2.2.2.2.2.2.2.2.2.2.2.2.2.2.1 (v1 + 1).toNatClampNeg q4.1), q4.2.2.2.2.2.2.2.2.2.2.2.2.2.2.2.2.2)) := pq_adr hD (ad_X7 _ _)
      refine lv_iload_n hx hb dX7_command_143 rfl (lv_at hl 2 rfl) ?_
      by_cases h6 : v2 = 105
      · replace hf := pq_ifp h6 hf
        refine lv_tableIn (off := 76) (tgt := 220) hx hb dX7_command_144 (by rw [h6]; decide) (by rw [h6]; decide) (by rw [h6]; rfl) (by decide) ?_
        refine lv_aload_n hx hb dX7_command_220 rfl (lv_at hl 0 rfl) ?_
        refine pq_get S hK hP inX7 0 rfl rfl 15 (by decide) fl_X7_24 rfl (v := .ref (a 4)) rfl dX7_command_221 ?_
        refine lv_iload_n hx hb dX7_command_224 rfl (lv_at hl 1 rfl) ?_
        refine lv_iconst (v := 2) hx hb dX7_command_225 (by decide) ?_
        refine lv_iadd hx hb dX7_command_226 ?_
        refine lv_aload_n hx hb dX7_command_227 rfl (lv_at hl 0 rfl) ?_
        refine lv_bipush (v := 58) hx hb dX7_command_228 (by decide) ?_
        obtain ⟨q8, e7, hf⟩ := pq_bind hf
        refine pq_cVi S (c_X7_behind l g a (q4.2.1, q4.2.2.1, q4.2.2.2.1, q4.2.2.2.2.1, q4.2.2.2.2.2.1, q4.2.2.2.2.2.2.1, q4.2.2.2.2.2.2.2.1, q4.2.2.2.2.2.2.2.2.1, q4.2.2.2.2.2.2.2.2.2.1, q4.2.2.2.2.2.2.2.2.2.2.1, q4.2.2.2.2.2.2.2.2.2.2.2.1, q4.2.2.2.2.2.2.2.2.2.2.2.2.1, q4.2.2.2.2.2.2.2.2.2.2.2.2.2.1, q4.2.2.2.2.2.2.2.2.2.2.2.2.2.2.1, q4.2.2.2.2.2.2.2.2.2.2.2.2.2.2.2.1, (upd q4.2.2.2.2.2.2.2.2.2.2.2.2.2.2.2.2.1 (v1 + 1).toNatClampNeg q4.1), q4.2.2.2.2.2.2.2.2.2.2.2.2.2.2.2.2.2) 58 q8.1 q8.2 e7) vv_X7_235 hK hP hD hS hA rfl rfl rfl rfl rfl hl.1 (Nat.le_of_ble_eq_true rfl) dX7_command_230 (by decide) (by decide) ⟨Nat.le_refl _, Nat.le_refl _⟩ (fun H9 locs hk hP1 hS => ?_)
        replace hP := hP1
        replace hP : va_P g.1 pq_cl (modW g a q8.2) H9 := hP
        replace hD : va_D A (modW g a q8.2) := pq_adr hD (ad_X7 _ _)
        clear hk
        generalize H9 = H at hP hS ⊢
        by_cases h9 : ((v1 + 2) < 0 ∨ 366 ≤ (v1 + 2).toNatClampNeg)
        · exact absurd (pq_ifp h9 hf) (fun h9 => by cases h9)
        replace hf := pq_ifn h9 hf
        refine va_iast hx hb hK.1 hP hD hS 4 0 rfl rfl h9 dX7_command_233 (fun H locs hP _ hS => ?_)
        replace hP : va_P g.1 pq_cl (modW g a (q8.2.1, q8.2.2.1, q8.2.2.2.1, q8.2.2.2.2.1, q8.2.2.2.2.2.1, q8.2.2.2.2.2.2.1, q8.2.2.2.2.2.2.2.1, q8.2.2.2.2.2.2.2.2.1, q8.2.2.2.2.2.2.2.2.2.1, q8.2.2.2.2.2.2.2.2.2.2.1, q8.2.2.2.2.2.2.2.2.2.2.2.1, q8.2.2.2.2.2.2.2.2.2.2.2.2.1, q8.2.2.2.2.2.2.2.2.2.2.2.2.2.1, q8.2.2.2.2.2.2.2.2.2.2.2.2.2.2.1, q8.2.2.2.2.2.2.2.2.2.2.2.2.2.2.2.1, (upd q8.2.2.2.2.2.2.2.2.2.2.2.2.2.2.2.2.1 (v1 + 2).toNatClampNeg q8.1), q8.2.2.2.2.2.2.2.2.2.2.2.2.2.2.2.2.2)) H := hP
        replace hD : va_D A (modW g a (q8.2.1, q8.2.2.1, q8.2.2.2.1, q8.2.2.2.2.1, q8.2.2.2.2.2.1, q8.2.2.2.2.2.2.1, q8.2.2.2.2.2.2.2.1, q8.2.2.2.2.2.2.2.2.1, q8.2.2.2.2.2.2.2.2.2.1, q8.2.2.2.2.2.2.2.2.2.2.1, q8.2.2.2.2.2.2.2.2.2.2.2.1, q8.2.2.2.2.2.2.2.2.2.2.2.2.1, q8.2.2.2.2.2.2.2.2.2.2.2.2.2.1, q8.2.2.2.2.2.2.2.2.2.2.2.2.2.2.1, q8.2.2.2.2.2.2.2.2.2.2.2.2.2.2.2.1, (upd q8.2.2.2.2.2.2.2.2.2.2.2.2.2.2.2.2.1 (v1 + 2).toNatClampNeg q8.1), q8.2.2.2.2.2.2.2.2.2.2.2.2.2.2.2.2.2)) := pq_adr hD (ad_X7 _ _)
        refine lv_goto (tgt := 330) hx hb dX7_command_234 (by decide) ?_
        exact hend _ _ _ _ dX7_command_330 (by rw [← Option.some.inj hf]; exact hP) hS
      replace hf := pq_ifn h6 hf
      by_cases h10 : v2 = 109
      · replace hf := pq_ifp h10 hf
        refine lv_tableIn (off := 93) (tgt := 237) hx hb dX7_command_144 (by rw [h10]; decide) (by rw [h10]; decide) (by rw [h10]; rfl) (by decide) ?_
        refine lv_aload_n hx hb dX7_command_237 rfl (lv_at hl 0 rfl) ?_
        refine pq_get S hK hP inX7 0 rfl rfl 15 (by decide) fl_X7_24 rfl (v := .ref (a 4)) rfl dX7_command_238 ?_
        refine lv_iload_n hx hb dX7_command_241 rfl (lv_at hl 1 rfl) ?_
        refine lv_iconst (v := 2) hx hb dX7_command_242 (by decide) ?_
        refine lv_iadd hx hb dX7_command_243 ?_
        refine lv_aload_n hx hb dX7_command_244 rfl (lv_at hl 0 rfl) ?_
        refine lv_bipush (v := 62) hx hb dX7_command_245 (by decide) ?_
        obtain ⟨q12, e11, hf⟩ := pq_bind hf
        refine pq_cVi S (c_X7_behind l g a (q4.2.1, q4.2.2.1, q4.2.2.2.1, q4.2.2.2.2.1, q4.2.2.2.2.2.1, q4.2.2.2.2.2.2.1, q4.2.2.2.2.2.2.2.1, q4.2.2.2.2.2.2.2.2.1, q4.2.2.2.2.2.2.2.2.2.1, q4.2.2.2.2.2.2.2.2.2.2.1, q4.2.2.2.2.2.2.2.2.2.2.2.1, q4.2.2.2.2.2.2.2.2.2.2.2.2.1, q4.2.2.2.2.2.2.2.2.2.2.2.2.2.1, q4.2.2.2.2.2.2.2.2.2.2.2.2.2.2.1, q4.2.2.2.2.2.2.2.2.2.2.2.2.2.2.2.1, (upd q4.2.2.2.2.2.2.2.2.2.2.2.2.2.2.2.2.1 (v1 + 1).toNatClampNeg q4.1), q4.2.2.2.2.2.2.2.2.2.2.2.2.2.2.2.2.2) 62 q12.1 q12.2 e11) vv_X7_235 hK hP hD hS hA rfl rfl rfl rfl rfl hl.1 (Nat.le_of_ble_eq_true rfl) dX7_command_247 (by decide) (by decide) ⟨Nat.le_refl _, Nat.le_refl _⟩ (fun H9 locs hk hP1 hS => ?_)
        replace hP := hP1
        replace hP : va_P g.1 pq_cl (modW g a q12.2) H9 := hP
        replace hD : va_D A (modW g a q12.2) := pq_adr hD (ad_X7 _ _)
        clear hk
        generalize H9 = H at hP hS ⊢
        by_cases h13 : ((v1 + 2) < 0 ∨ 366 ≤ (v1 + 2).toNatClampNeg)
        · exact absurd (pq_ifp h13 hf) (fun h9 => by cases h9)
        replace hf := pq_ifn h13 hf
        refine va_iast hx hb hK.1 hP hD hS 4 0 rfl rfl h13 dX7_command_250 (fun H locs hP _ hS => ?_)
        replace hP : va_P g.1 pq_cl (modW g a (q12.2.1, q12.2.2.1, q12.2.2.2.1, q12.2.2.2.2.1, q12.2.2.2.2.2.1, q12.2.2.2.2.2.2.1, q12.2.2.2.2.2.2.2.1, q12.2.2.2.2.2.2.2.2.1, q12.2.2.2.2.2.2.2.2.2.1, q12.2.2.2.2.2.2.2.2.2.2.1, q12.2.2.2.2.2.2.2.2.2.2.2.1, q12.2.2.2.2.2.2.2.2.2.2.2.2.1, q12.2.2.2.2.2.2.2.2.2.2.2.2.2.1, q12.2.2.2.2.2.2.2.2.2.2.2.2.2.2.1, q12.2.2.2.2.2.2.2.2.2.2.2.2.2.2.2.1, (upd q12.2.2.2.2.2.2.2.2.2.2.2.2.2.2.2.2.1 (v1 + 2).toNatClampNeg q12.1), q12.2.2.2.2.2.2.2.2.2.2.2.2.2.2.2.2.2)) H := hP
        replace hD : va_D A (modW g a (q12.2.1, q12.2.2.1, q12.2.2.2.1, q12.2.2.2.2.1, q12.2.2.2.2.2.1, q12.2.2.2.2.2.2.1, q12.2.2.2.2.2.2.2.1, q12.2.2.2.2.2.2.2.2.1, q12.2.2.2.2.2.2.2.2.2.1, q12.2.2.2.2.2.2.2.2.2.2.1, q12.2.2.2.2.2.2.2.2.2.2.2.1, q12.2.2.2.2.2.2.2.2.2.2.2.2.1, q12.2.2.2.2.2.2.2.2.2.2.2.2.2.1, q12.2.2.2.2.2.2.2.2.2.2.2.2.2.2.1, q12.2.2.2.2.2.2.2.2.2.2.2.2.2.2.2.1, (upd q12.2.2.2.2.2.2.2.2.2.2.2.2.2.2.2.2.1 (v1 + 2).toNatClampNeg q12.1), q12.2.2.2.2.2.2.2.2.2.2.2.2.2.2.2.2.2)) := pq_adr hD (ad_X7 _ _)
        refine lv_goto (tgt := 330) hx hb dX7_command_251 (by decide) ?_
        exact hend _ _ _ _ dX7_command_330 (by rw [← Option.some.inj hf]; exact hP) hS
      replace hf := pq_ifn h10 hf
      by_cases h14 : v2 = 112
      · replace hf := pq_ifp h14 hf
        refine lv_tableIn (off := 76) (tgt := 220) hx hb dX7_command_144 (by rw [h14]; decide) (by rw [h14]; decide) (by rw [h14]; rfl) (by decide) ?_
        refine lv_aload_n hx hb dX7_command_220 rfl (lv_at hl 0 rfl) ?_
        refine pq_get S hK hP inX7 0 rfl rfl 15 (by decide) fl_X7_24 rfl (v := .ref (a 4)) rfl dX7_command_221 ?_
        refine lv_iload_n hx hb dX7_command_224 rfl (lv_at hl 1 rfl) ?_
        refine lv_iconst (v := 2) hx hb dX7_command_225 (by decide) ?_
        refine lv_iadd hx hb dX7_command_226 ?_
        refine lv_aload_n hx hb dX7_command_227 rfl (lv_at hl 0 rfl) ?_
        refine lv_bipush (v := 58) hx hb dX7_command_228 (by decide) ?_
        obtain ⟨q16, e15, hf⟩ := pq_bind hf
        refine pq_cVi S (c_X7_behind l g a (q4.2.1, q4.2.2.1, q4.2.2.2.1, q4.2.2.2.2.1, q4.2.2.2.2.2.1, q4.2.2.2.2.2.2.1, q4.2.2.2.2.2.2.2.1, q4.2.2.2.2.2.2.2.2.1, q4.2.2.2.2.2.2.2.2.2.1, q4.2.2.2.2.2.2.2.2.2.2.1, q4.2.2.2.2.2.2.2.2.2.2.2.1, q4.2.2.2.2.2.2.2.2.2.2.2.2.1, q4.2.2.2.2.2.2.2.2.2.2.2.2.2.1, q4.2.2.2.2.2.2.2.2.2.2.2.2.2.2.1, q4.2.2.2.2.2.2.2.2.2.2.2.2.2.2.2.1, (upd q4.2.2.2.2.2.2.2.2.2.2.2.2.2.2.2.2.1 (v1 + 1).toNatClampNeg q4.1), q4.2.2.2.2.2.2.2.2.2.2.2.2.2.2.2.2.2) 58 q16.1 q16.2 e15) vv_X7_235 hK hP hD hS hA rfl rfl rfl rfl rfl hl.1 (Nat.le_of_ble_eq_true rfl) dX7_command_230 (by decide) (by decide) ⟨Nat.le_refl _, Nat.le_refl _⟩ (fun H9 locs hk hP1 hS => ?_)
        replace hP := hP1
        replace hP : va_P g.1 pq_cl (modW g a q16.2) H9 := hP
        replace hD : va_D A (modW g a q16.2) := pq_adr hD (ad_X7 _ _)
        clear hk
        generalize H9 = H at hP hS ⊢
        by_cases h17 : ((v1 + 2) < 0 ∨ 366 ≤ (v1 + 2).toNatClampNeg)
        · exact absurd (pq_ifp h17 hf) (fun h9 => by cases h9)
        replace hf := pq_ifn h17 hf
        refine va_iast hx hb hK.1 hP hD hS 4 0 rfl rfl h17 dX7_command_233 (fun H locs hP _ hS => ?_)
        replace hP : va_P g.1 pq_cl (modW g a (q16.2.1, q16.2.2.1, q16.2.2.2.1, q16.2.2.2.2.1, q16.2.2.2.2.2.1, q16.2.2.2.2.2.2.1, q16.2.2.2.2.2.2.2.1, q16.2.2.2.2.2.2.2.2.1, q16.2.2.2.2.2.2.2.2.2.1, q16.2.2.2.2.2.2.2.2.2.2.1, q16.2.2.2.2.2.2.2.2.2.2.2.1, q16.2.2.2.2.2.2.2.2.2.2.2.2.1, q16.2.2.2.2.2.2.2.2.2.2.2.2.2.1, q16.2.2.2.2.2.2.2.2.2.2.2.2.2.2.1, q16.2.2.2.2.2.2.2.2.2.2.2.2.2.2.2.1, (upd q16.2.2.2.2.2.2.2.2.2.2.2.2.2.2.2.2.1 (v1 + 2).toNatClampNeg q16.1), q16.2.2.2.2.2.2.2.2.2.2.2.2.2.2.2.2.2)) H := hP
        replace hD : va_D A (modW g a (q16.2.1, q16.2.2.1, q16.2.2.2.1, q16.2.2.2.2.1, q16.2.2.2.2.2.1, q16.2.2.2.2.2.2.1, q16.2.2.2.2.2.2.2.1, q16.2.2.2.2.2.2.2.2.1, q16.2.2.2.2.2.2.2.2.2.1, q16.2.2.2.2.2.2.2.2.2.2.1, q16.2.2.2.2.2.2.2.2.2.2.2.1, q16.2.2.2.2.2.2.2.2.2.2.2.2.1, q16.2.2.2.2.2.2.2.2.2.2.2.2.2.1, q16.2.2.2.2.2.2.2.2.2.2.2.2.2.2.1, q16.2.2.2.2.2.2.2.2.2.2.2.2.2.2.2.1, (upd q16.2.2.2.2.2.2.2.2.2.2.2.2.2.2.2.2.1 (v1 + 2).toNatClampNeg q16.1), q16.2.2.2.2.2.2.2.2.2.2.2.2.2.2.2.2.2)) := pq_adr hD (ad_X7 _ _)
        refine lv_goto (tgt := 330) hx hb dX7_command_234 (by decide) ?_
        exact hend _ _ _ _ dX7_command_330 (by rw [← Option.some.inj hf]; exact hP) hS
      replace hf := pq_ifn h14 hf
      by_cases h18 : v2 = 114
      · replace hf := pq_ifp h18 hf
        refine lv_tableIn (off := 110) (tgt := 254) hx hb dX7_command_144 (by rw [h18]; decide) (by rw [h18]; decide) (by rw [h18]; rfl) (by decide) ?_
        refine lv_aload_n hx hb dX7_command_254 rfl (lv_at hl 0 rfl) ?_
        refine pq_get S hK hP inX7 0 rfl rfl 15 (by decide) fl_X7_24 rfl (v := .ref (a 4)) rfl dX7_command_255 ?_
        refine lv_iload_n hx hb dX7_command_258 rfl (lv_at hl 1 rfl) ?_
        refine lv_iconst (v := 2) hx hb dX7_command_259 (by decide) ?_
        refine lv_iadd hx hb dX7_command_260 ?_
        refine lv_aload_n hx hb dX7_command_261 rfl (lv_at hl 0 rfl) ?_
        refine lv_bipush (v := 45) hx hb dX7_command_262 (by decide) ?_
        obtain ⟨q20, e19, hf⟩ := pq_bind hf
        refine pq_cVi S (c_X7_behind l g a (q4.2.1, q4.2.2.1, q4.2.2.2.1, q4.2.2.2.2.1, q4.2.2.2.2.2.1, q4.2.2.2.2.2.2.1, q4.2.2.2.2.2.2.2.1, q4.2.2.2.2.2.2.2.2.1, q4.2.2.2.2.2.2.2.2.2.1, q4.2.2.2.2.2.2.2.2.2.2.1, q4.2.2.2.2.2.2.2.2.2.2.2.1, q4.2.2.2.2.2.2.2.2.2.2.2.2.1, q4.2.2.2.2.2.2.2.2.2.2.2.2.2.1, q4.2.2.2.2.2.2.2.2.2.2.2.2.2.2.1, q4.2.2.2.2.2.2.2.2.2.2.2.2.2.2.2.1, (upd q4.2.2.2.2.2.2.2.2.2.2.2.2.2.2.2.2.1 (v1 + 1).toNatClampNeg q4.1), q4.2.2.2.2.2.2.2.2.2.2.2.2.2.2.2.2.2) 45 q20.1 q20.2 e19) vv_X7_235 hK hP hD hS hA rfl rfl rfl rfl rfl hl.1 (Nat.le_of_ble_eq_true rfl) dX7_command_264 (by decide) (by decide) ⟨Nat.le_refl _, Nat.le_refl _⟩ (fun H9 locs hk hP1 hS => ?_)
        replace hP := hP1
        replace hP : va_P g.1 pq_cl (modW g a q20.2) H9 := hP
        replace hD : va_D A (modW g a q20.2) := pq_adr hD (ad_X7 _ _)
        clear hk
        generalize H9 = H at hP hS ⊢
        by_cases h21 : ((v1 + 2) < 0 ∨ 366 ≤ (v1 + 2).toNatClampNeg)
        · exact absurd (pq_ifp h21 hf) (fun h9 => by cases h9)
        replace hf := pq_ifn h21 hf
        refine va_iast hx hb hK.1 hP hD hS 4 0 rfl rfl h21 dX7_command_267 (fun H locs hP _ hS => ?_)
        replace hP : va_P g.1 pq_cl (modW g a (q20.2.1, q20.2.2.1, q20.2.2.2.1, q20.2.2.2.2.1, q20.2.2.2.2.2.1, q20.2.2.2.2.2.2.1, q20.2.2.2.2.2.2.2.1, q20.2.2.2.2.2.2.2.2.1, q20.2.2.2.2.2.2.2.2.2.1, q20.2.2.2.2.2.2.2.2.2.2.1, q20.2.2.2.2.2.2.2.2.2.2.2.1, q20.2.2.2.2.2.2.2.2.2.2.2.2.1, q20.2.2.2.2.2.2.2.2.2.2.2.2.2.1, q20.2.2.2.2.2.2.2.2.2.2.2.2.2.2.1, q20.2.2.2.2.2.2.2.2.2.2.2.2.2.2.2.1, (upd q20.2.2.2.2.2.2.2.2.2.2.2.2.2.2.2.2.1 (v1 + 2).toNatClampNeg q20.1), q20.2.2.2.2.2.2.2.2.2.2.2.2.2.2.2.2.2)) H := hP
        replace hD : va_D A (modW g a (q20.2.1, q20.2.2.1, q20.2.2.2.1, q20.2.2.2.2.1, q20.2.2.2.2.2.1, q20.2.2.2.2.2.2.1, q20.2.2.2.2.2.2.2.1, q20.2.2.2.2.2.2.2.2.1, q20.2.2.2.2.2.2.2.2.2.1, q20.2.2.2.2.2.2.2.2.2.2.1, q20.2.2.2.2.2.2.2.2.2.2.2.1, q20.2.2.2.2.2.2.2.2.2.2.2.2.1, q20.2.2.2.2.2.2.2.2.2.2.2.2.2.1, q20.2.2.2.2.2.2.2.2.2.2.2.2.2.2.1, q20.2.2.2.2.2.2.2.2.2.2.2.2.2.2.2.1, (upd q20.2.2.2.2.2.2.2.2.2.2.2.2.2.2.2.2.1 (v1 + 2).toNatClampNeg q20.1), q20.2.2.2.2.2.2.2.2.2.2.2.2.2.2.2.2.2)) := pq_adr hD (ad_X7 _ _)
        refine lv_goto (tgt := 330) hx hb dX7_command_268 (by decide) ?_
        exact hend _ _ _ _ dX7_command_330 (by rw [← Option.some.inj hf]; exact hP) hS
      replace hf := pq_ifn h18 hf
      by_cases h22 : v2 = 119
      · replace hf := pq_ifp h22 hf
        refine lv_tableIn (off := 127) (tgt := 271) hx hb dX7_command_144 (by rw [h22]; decide) (by rw [h22]; decide) (by rw [h22]; rfl) (by decide) ?_
        refine lv_aload_n hx hb dX7_command_271 rfl (lv_at hl 0 rfl) ?_
        refine pq_get S hK hP inX7 0 rfl rfl 15 (by decide) fl_X7_24 rfl (v := .ref (a 4)) rfl dX7_command_272 ?_
        refine lv_iload_n hx hb dX7_command_275 rfl (lv_at hl 1 rfl) ?_
        refine lv_iconst (v := 2) hx hb dX7_command_276 (by decide) ?_
        refine lv_iadd hx hb dX7_command_277 ?_
        refine lv_aload_n hx hb dX7_command_278 rfl (lv_at hl 0 rfl) ?_
        refine lv_bipush (v := 61) hx hb dX7_command_279 (by decide) ?_
        obtain ⟨q24, e23, hf⟩ := pq_bind hf
        refine pq_cVi S (c_X7_behind l g a (q4.2.1, q4.2.2.1, q4.2.2.2.1, q4.2.2.2.2.1, q4.2.2.2.2.2.1, q4.2.2.2.2.2.2.1, q4.2.2.2.2.2.2.2.1, q4.2.2.2.2.2.2.2.2.1, q4.2.2.2.2.2.2.2.2.2.1, q4.2.2.2.2.2.2.2.2.2.2.1, q4.2.2.2.2.2.2.2.2.2.2.2.1, q4.2.2.2.2.2.2.2.2.2.2.2.2.1, q4.2.2.2.2.2.2.2.2.2.2.2.2.2.1, q4.2.2.2.2.2.2.2.2.2.2.2.2.2.2.1, q4.2.2.2.2.2.2.2.2.2.2.2.2.2.2.2.1, (upd q4.2.2.2.2.2.2.2.2.2.2.2.2.2.2.2.2.1 (v1 + 1).toNatClampNeg q4.1), q4.2.2.2.2.2.2.2.2.2.2.2.2.2.2.2.2.2) 61 q24.1 q24.2 e23) vv_X7_235 hK hP hD hS hA rfl rfl rfl rfl rfl hl.1 (Nat.le_of_ble_eq_true rfl) dX7_command_281 (by decide) (by decide) ⟨Nat.le_refl _, Nat.le_refl _⟩ (fun H9 locs hk hP1 hS => ?_)
        replace hP := hP1
        replace hP : va_P g.1 pq_cl (modW g a q24.2) H9 := hP
        replace hD : va_D A (modW g a q24.2) := pq_adr hD (ad_X7 _ _)
        clear hk
        generalize H9 = H at hP hS ⊢
        by_cases h25 : ((v1 + 2) < 0 ∨ 366 ≤ (v1 + 2).toNatClampNeg)
        · exact absurd (pq_ifp h25 hf) (fun h9 => by cases h9)
        replace hf := pq_ifn h25 hf
        refine va_iast hx hb hK.1 hP hD hS 4 0 rfl rfl h25 dX7_command_284 (fun H locs hP _ hS => ?_)
        replace hP : va_P g.1 pq_cl (modW g a (q24.2.1, q24.2.2.1, q24.2.2.2.1, q24.2.2.2.2.1, q24.2.2.2.2.2.1, q24.2.2.2.2.2.2.1, q24.2.2.2.2.2.2.2.1, q24.2.2.2.2.2.2.2.2.1, q24.2.2.2.2.2.2.2.2.2.1, q24.2.2.2.2.2.2.2.2.2.2.1, q24.2.2.2.2.2.2.2.2.2.2.2.1, q24.2.2.2.2.2.2.2.2.2.2.2.2.1, q24.2.2.2.2.2.2.2.2.2.2.2.2.2.1, q24.2.2.2.2.2.2.2.2.2.2.2.2.2.2.1, q24.2.2.2.2.2.2.2.2.2.2.2.2.2.2.2.1, (upd q24.2.2.2.2.2.2.2.2.2.2.2.2.2.2.2.2.1 (v1 + 2).toNatClampNeg q24.1), q24.2.2.2.2.2.2.2.2.2.2.2.2.2.2.2.2.2)) H := hP
        replace hD : va_D A (modW g a (q24.2.1, q24.2.2.1, q24.2.2.2.1, q24.2.2.2.2.1, q24.2.2.2.2.2.1, q24.2.2.2.2.2.2.1, q24.2.2.2.2.2.2.2.1, q24.2.2.2.2.2.2.2.2.1, q24.2.2.2.2.2.2.2.2.2.1, q24.2.2.2.2.2.2.2.2.2.2.1, q24.2.2.2.2.2.2.2.2.2.2.2.1, q24.2.2.2.2.2.2.2.2.2.2.2.2.1, q24.2.2.2.2.2.2.2.2.2.2.2.2.2.1, q24.2.2.2.2.2.2.2.2.2.2.2.2.2.2.1, q24.2.2.2.2.2.2.2.2.2.2.2.2.2.2.2.1, (upd q24.2.2.2.2.2.2.2.2.2.2.2.2.2.2.2.2.1 (v1 + 2).toNatClampNeg q24.1), q24.2.2.2.2.2.2.2.2.2.2.2.2.2.2.2.2.2)) := pq_adr hD (ad_X7 _ _)
        refine lv_aload_n hx hb dX7_command_285 rfl (lv_at hl 0 rfl) ?_
        refine pq_get S hK hP inX7 0 rfl rfl 15 (by decide) fl_X7_24 rfl (v := .ref (a 4)) rfl dX7_command_286 ?_
        refine lv_iload_n hx hb dX7_command_289 rfl (lv_at hl 1 rfl) ?_
        refine lv_iconst (v := 3) hx hb dX7_command_290 (by decide) ?_
        refine lv_iadd hx hb dX7_command_291 ?_
        refine lv_aload_n hx hb dX7_command_292 rfl (lv_at hl 0 rfl) ?_
        refine lv_bipush (v := 45) hx hb dX7_command_293 (by decide) ?_
        obtain ⟨q27, e26, hf⟩ := pq_bind hf
        refine pq_cVi S (c_X7_behind l g a (q24.2.1, q24.2.2.1, q24.2.2.2.1, q24.2.2.2.2.1, q24.2.2.2.2.2.1, q24.2.2.2.2.2.2.1, q24.2.2.2.2.2.2.2.1, q24.2.2.2.2.2.2.2.2.1, q24.2.2.2.2.2.2.2.2.2.1, q24.2.2.2.2.2.2.2.2.2.2.1, q24.2.2.2.2.2.2.2.2.2.2.2.1, q24.2.2.2.2.2.2.2.2.2.2.2.2.1, q24.2.2.2.2.2.2.2.2.2.2.2.2.2.1, q24.2.2.2.2.2.2.2.2.2.2.2.2.2.2.1, q24.2.2.2.2.2.2.2.2.2.2.2.2.2.2.2.1, (upd q24.2.2.2.2.2.2.2.2.2.2.2.2.2.2.2.2.1 (v1 + 2).toNatClampNeg q24.1), q24.2.2.2.2.2.2.2.2.2.2.2.2.2.2.2.2.2) 45 q27.1 q27.2 e26) vv_X7_235 hK hP hD hS hA rfl rfl rfl rfl rfl hl.1 (Nat.le_of_ble_eq_true rfl) dX7_command_295 (by decide) (by decide) ⟨Nat.le_refl _, Nat.le_refl _⟩ (fun H9 locs hk hP1 hS => ?_)
        replace hP := hP1
        replace hP : va_P g.1 pq_cl (modW g a q27.2) H9 := hP
        replace hD : va_D A (modW g a q27.2) := pq_adr hD (ad_X7 _ _)
        clear hk
        generalize H9 = H at hP hS ⊢
        by_cases h28 : ((v1 + 3) < 0 ∨ 366 ≤ (v1 + 3).toNatClampNeg)
        · exact absurd (pq_ifp h28 hf) (fun h9 => by cases h9)
        replace hf := pq_ifn h28 hf
        refine va_iast hx hb hK.1 hP hD hS 4 0 rfl rfl h28 dX7_command_298 (fun H locs hP _ hS => ?_)
        replace hP : va_P g.1 pq_cl (modW g a (q27.2.1, q27.2.2.1, q27.2.2.2.1, q27.2.2.2.2.1, q27.2.2.2.2.2.1, q27.2.2.2.2.2.2.1, q27.2.2.2.2.2.2.2.1, q27.2.2.2.2.2.2.2.2.1, q27.2.2.2.2.2.2.2.2.2.1, q27.2.2.2.2.2.2.2.2.2.2.1, q27.2.2.2.2.2.2.2.2.2.2.2.1, q27.2.2.2.2.2.2.2.2.2.2.2.2.1, q27.2.2.2.2.2.2.2.2.2.2.2.2.2.1, q27.2.2.2.2.2.2.2.2.2.2.2.2.2.2.1, q27.2.2.2.2.2.2.2.2.2.2.2.2.2.2.2.1, (upd q27.2.2.2.2.2.2.2.2.2.2.2.2.2.2.2.2.1 (v1 + 3).toNatClampNeg q27.1), q27.2.2.2.2.2.2.2.2.2.2.2.2.2.2.2.2.2)) H := hP
        replace hD : va_D A (modW g a (q27.2.1, q27.2.2.1, q27.2.2.2.1, q27.2.2.2.2.1, q27.2.2.2.2.2.1, q27.2.2.2.2.2.2.1, q27.2.2.2.2.2.2.2.1, q27.2.2.2.2.2.2.2.2.1, q27.2.2.2.2.2.2.2.2.2.1, q27.2.2.2.2.2.2.2.2.2.2.1, q27.2.2.2.2.2.2.2.2.2.2.2.1, q27.2.2.2.2.2.2.2.2.2.2.2.2.1, q27.2.2.2.2.2.2.2.2.2.2.2.2.2.1, q27.2.2.2.2.2.2.2.2.2.2.2.2.2.2.1, q27.2.2.2.2.2.2.2.2.2.2.2.2.2.2.2.1, (upd q27.2.2.2.2.2.2.2.2.2.2.2.2.2.2.2.2.1 (v1 + 3).toNatClampNeg q27.1), q27.2.2.2.2.2.2.2.2.2.2.2.2.2.2.2.2.2)) := pq_adr hD (ad_X7 _ _)
        refine lv_aload_n hx hb dX7_command_299 rfl (lv_at hl 0 rfl) ?_
        refine pq_get S hK hP inX7 0 rfl rfl 15 (by decide) fl_X7_24 rfl (v := .ref (a 4)) rfl dX7_command_300 ?_
        refine lv_iload_n hx hb dX7_command_303 rfl (lv_at hl 1 rfl) ?_
        refine lv_iconst (v := 4) hx hb dX7_command_304 (by decide) ?_
        refine lv_iadd hx hb dX7_command_305 ?_
        refine lv_aload_n hx hb dX7_command_306 rfl (lv_at hl 0 rfl) ?_
        refine lv_bipush (v := 94) hx hb dX7_command_307 (by decide) ?_
        obtain ⟨q30, e29, hf⟩ := pq_bind hf
        refine pq_cVi S (c_X7_behind l g a (q27.2.1, q27.2.2.1, q27.2.2.2.1, q27.2.2.2.2.1, q27.2.2.2.2.2.1, q27.2.2.2.2.2.2.1, q27.2.2.2.2.2.2.2.1, q27.2.2.2.2.2.2.2.2.1, q27.2.2.2.2.2.2.2.2.2.1, q27.2.2.2.2.2.2.2.2.2.2.1, q27.2.2.2.2.2.2.2.2.2.2.2.1, q27.2.2.2.2.2.2.2.2.2.2.2.2.1, q27.2.2.2.2.2.2.2.2.2.2.2.2.2.1, q27.2.2.2.2.2.2.2.2.2.2.2.2.2.2.1, q27.2.2.2.2.2.2.2.2.2.2.2.2.2.2.2.1, (upd q27.2.2.2.2.2.2.2.2.2.2.2.2.2.2.2.2.1 (v1 + 3).toNatClampNeg q27.1), q27.2.2.2.2.2.2.2.2.2.2.2.2.2.2.2.2.2) 94 q30.1 q30.2 e29) vv_X7_235 hK hP hD hS hA rfl rfl rfl rfl rfl hl.1 (Nat.le_of_ble_eq_true rfl) dX7_command_309 (by decide) (by decide) ⟨Nat.le_refl _, Nat.le_refl _⟩ (fun H9 locs hk hP1 hS => ?_)
        replace hP := hP1
        replace hP : va_P g.1 pq_cl (modW g a q30.2) H9 := hP
        replace hD : va_D A (modW g a q30.2) := pq_adr hD (ad_X7 _ _)
        clear hk
        generalize H9 = H at hP hS ⊢
        by_cases h31 : ((v1 + 4) < 0 ∨ 366 ≤ (v1 + 4).toNatClampNeg)
        · exact absurd (pq_ifp h31 hf) (fun h9 => by cases h9)
        replace hf := pq_ifn h31 hf
        refine va_iast hx hb hK.1 hP hD hS 4 0 rfl rfl h31 dX7_command_312 (fun H locs hP _ hS => ?_)
        replace hP : va_P g.1 pq_cl (modW g a (q30.2.1, q30.2.2.1, q30.2.2.2.1, q30.2.2.2.2.1, q30.2.2.2.2.2.1, q30.2.2.2.2.2.2.1, q30.2.2.2.2.2.2.2.1, q30.2.2.2.2.2.2.2.2.1, q30.2.2.2.2.2.2.2.2.2.1, q30.2.2.2.2.2.2.2.2.2.2.1, q30.2.2.2.2.2.2.2.2.2.2.2.1, q30.2.2.2.2.2.2.2.2.2.2.2.2.1, q30.2.2.2.2.2.2.2.2.2.2.2.2.2.1, q30.2.2.2.2.2.2.2.2.2.2.2.2.2.2.1, q30.2.2.2.2.2.2.2.2.2.2.2.2.2.2.2.1, (upd q30.2.2.2.2.2.2.2.2.2.2.2.2.2.2.2.2.1 (v1 + 4).toNatClampNeg q30.1), q30.2.2.2.2.2.2.2.2.2.2.2.2.2.2.2.2.2)) H := hP
        replace hD : va_D A (modW g a (q30.2.1, q30.2.2.1, q30.2.2.2.1, q30.2.2.2.2.1, q30.2.2.2.2.2.1, q30.2.2.2.2.2.2.1, q30.2.2.2.2.2.2.2.1, q30.2.2.2.2.2.2.2.2.1, q30.2.2.2.2.2.2.2.2.2.1, q30.2.2.2.2.2.2.2.2.2.2.1, q30.2.2.2.2.2.2.2.2.2.2.2.1, q30.2.2.2.2.2.2.2.2.2.2.2.2.1, q30.2.2.2.2.2.2.2.2.2.2.2.2.2.1, q30.2.2.2.2.2.2.2.2.2.2.2.2.2.2.1, q30.2.2.2.2.2.2.2.2.2.2.2.2.2.2.2.1, (upd q30.2.2.2.2.2.2.2.2.2.2.2.2.2.2.2.2.1 (v1 + 4).toNatClampNeg q30.1), q30.2.2.2.2.2.2.2.2.2.2.2.2.2.2.2.2.2)) := pq_adr hD (ad_X7 _ _)
        refine lv_aload_n hx hb dX7_command_313 rfl (lv_at hl 0 rfl) ?_
        refine pq_get S hK hP inX7 0 rfl rfl 15 (by decide) fl_X7_24 rfl (v := .ref (a 4)) rfl dX7_command_314 ?_
        refine lv_iload_n hx hb dX7_command_317 rfl (lv_at hl 1 rfl) ?_
        refine lv_iconst (v := 5) hx hb dX7_command_318 (by decide) ?_
        refine lv_iadd hx hb dX7_command_319 ?_
        refine lv_aload_n hx hb dX7_command_320 rfl (lv_at hl 0 rfl) ?_
        refine lv_bipush (v := 47) hx hb dX7_command_321 (by decide) ?_
        obtain ⟨q33, e32, hf⟩ := pq_bind hf
        refine pq_cVi S (c_X7_behind l g a (q30.2.1, q30.2.2.1, q30.2.2.2.1, q30.2.2.2.2.1, q30.2.2.2.2.2.1, q30.2.2.2.2.2.2.1, q30.2.2.2.2.2.2.2.1, q30.2.2.2.2.2.2.2.2.1, q30.2.2.2.2.2.2.2.2.2.1, q30.2.2.2.2.2.2.2.2.2.2.1, q30.2.2.2.2.2.2.2.2.2.2.2.1, q30.2.2.2.2.2.2.2.2.2.2.2.2.1, q30.2.2.2.2.2.2.2.2.2.2.2.2.2.1, q30.2.2.2.2.2.2.2.2.2.2.2.2.2.2.1, q30.2.2.2.2.2.2.2.2.2.2.2.2.2.2.2.1, (upd q30.2.2.2.2.2.2.2.2.2.2.2.2.2.2.2.2.1 (v1 + 4).toNatClampNeg q30.1), q30.2.2.2.2.2.2.2.2.2.2.2.2.2.2.2.2.2) 47 q33.1 q33.2 e32) vv_X7_235 hK hP hD hS hA rfl rfl rfl rfl rfl hl.1 (Nat.le_of_ble_eq_true rfl) dX7_command_323 (by decide) (by decide) ⟨Nat.le_refl _, Nat.le_refl _⟩ (fun H9 locs hk hP1 hS => ?_)
        replace hP := hP1
        replace hP : va_P g.1 pq_cl (modW g a q33.2) H9 := hP
        replace hD : va_D A (modW g a q33.2) := pq_adr hD (ad_X7 _ _)
        clear hk
        generalize H9 = H at hP hS ⊢
        by_cases h34 : ((v1 + 5) < 0 ∨ 366 ≤ (v1 + 5).toNatClampNeg)
        · exact absurd (pq_ifp h34 hf) (fun h9 => by cases h9)
        replace hf := pq_ifn h34 hf
        refine va_iast hx hb hK.1 hP hD hS 4 0 rfl rfl h34 dX7_command_326 (fun H locs hP _ hS => ?_)
        replace hP : va_P g.1 pq_cl (modW g a (q33.2.1, q33.2.2.1, q33.2.2.2.1, q33.2.2.2.2.1, q33.2.2.2.2.2.1, q33.2.2.2.2.2.2.1, q33.2.2.2.2.2.2.2.1, q33.2.2.2.2.2.2.2.2.1, q33.2.2.2.2.2.2.2.2.2.1, q33.2.2.2.2.2.2.2.2.2.2.1, q33.2.2.2.2.2.2.2.2.2.2.2.1, q33.2.2.2.2.2.2.2.2.2.2.2.2.1, q33.2.2.2.2.2.2.2.2.2.2.2.2.2.1, q33.2.2.2.2.2.2.2.2.2.2.2.2.2.2.1, q33.2.2.2.2.2.2.2.2.2.2.2.2.2.2.2.1, (upd q33.2.2.2.2.2.2.2.2.2.2.2.2.2.2.2.2.1 (v1 + 5).toNatClampNeg q33.1), q33.2.2.2.2.2.2.2.2.2.2.2.2.2.2.2.2.2)) H := hP
        replace hD : va_D A (modW g a (q33.2.1, q33.2.2.1, q33.2.2.2.1, q33.2.2.2.2.1, q33.2.2.2.2.2.1, q33.2.2.2.2.2.2.1, q33.2.2.2.2.2.2.2.1, q33.2.2.2.2.2.2.2.2.1, q33.2.2.2.2.2.2.2.2.2.1, q33.2.2.2.2.2.2.2.2.2.2.1, q33.2.2.2.2.2.2.2.2.2.2.2.1, q33.2.2.2.2.2.2.2.2.2.2.2.2.1, q33.2.2.2.2.2.2.2.2.2.2.2.2.2.1, q33.2.2.2.2.2.2.2.2.2.2.2.2.2.2.1, q33.2.2.2.2.2.2.2.2.2.2.2.2.2.2.2.1, (upd q33.2.2.2.2.2.2.2.2.2.2.2.2.2.2.2.2.1 (v1 + 5).toNatClampNeg q33.1), q33.2.2.2.2.2.2.2.2.2.2.2.2.2.2.2.2.2)) := pq_adr hD (ad_X7 _ _)
        refine lv_goto (tgt := 330) hx hb dX7_command_327 (by decide) ?_
        exact hend _ _ _ _ dX7_command_330 (by rw [← Option.some.inj hf]; exact hP) hS
      replace hf := pq_ifn h22 hf
      refine pq_tdef hx hb dX7_command_144 [105, 109, 112, 114, 119] (by intro k9 h9; simp only [List.mem_cons, List.not_mem_nil, or_false] at h9; rcases h9 with rfl | rfl | rfl | rfl | rfl <;> assumption) (by decide) (by decide) (tgt := 330) (by decide) ?_
      exact hend _ _ _ _ dX7_command_330 (by rw [← Option.some.inj hf]; exact hP) hS
    · replace hf := pq_ifn h2 hf
      refine lv_iload_n hx hb dX7_command_128 rfl (lv_at hl 2 rfl) ?_
      refine lv_bipush (v := 120) hx hb dX7_command_129 (by decide) ?_
      refine lv_icmp_ne (tgt := 138) hx hb dX7_command_131 (by decide) (fun h35 => ?_) (fun h35 => ?_)
      · replace hf := pq_ifn h35 hf
        refine lv_iconst (v := 2) hx hb dX7_command_138 (by decide) ?_
        obtain ⟨q37, e36, hf⟩ := pq_bind hf
        refine pq_cVi S (c_X7_number l g a (T.1, T.2.1, T.2.2.1, T.2.2.2.1, T.2.2.2.2.1, T.2.2.2.2.2.1, T.2.2.2.2.2.2.1, T.2.2.2.2.2.2.2.1, T.2.2.2.2.2.2.2.2.1, T.2.2.2.2.2.2.2.2.2.1, T.2.2.2.2.2.2.2.2.2.2.1, T.2.2.2.2.2.2.2.2.2.2.2.1, (T.2.2.2.2.2.2.2.2.2.2.2.2.1 + 1), T.2.2.2.2.2.2.2.2.2.2.2.2.2.1, T.2.2.2.2.2.2.2.2.2.2.2.2.2.2.1, (upd T.2.2.2.2.2.2.2.2.2.2.2.2.2.2.2.1 v1.toNatClampNeg v2), T.2.2.2.2.2.2.2.2.2.2.2.2.2.2.2.2) 2 q37.1 q37.2 e36) vv_X7_229 hK hP hD hS hA rfl rfl rfl rfl rfl hl.1 (Nat.le_of_ble_eq_true rfl) dX7_command_139 (by decide) (by decide) ⟨Nat.le_refl _, Nat.le_refl _⟩ (fun H9 locs hk hP1 hS => ?_)
        replace hP := hP1
        replace hP : va_P g.1 pq_cl (modW g a q37.2) H9 := hP
        replace hD : va_D A (modW g a q37.2) := pq_adr hD (ad_X7 _ _)
        clear hk
        generalize H9 = H at hP hS ⊢
        by_cases h38 : ((v1 + 1) < 0 ∨ 366 ≤ (v1 + 1).toNatClampNeg)
        · exact absurd (pq_ifp h38 hf) (fun h9 => by cases h9)
        replace hf := pq_ifn h38 hf
        refine va_iast hx hb hK.1 hP hD hS 4 0 rfl rfl h38 dX7_command_142 (fun H locs hP _ hS => ?_)
        replace hP : va_P g.1 pq_cl (modW g a (q37.2.1, q37.2.2.1, q37.2.2.2.1, q37.2.2.2.2.1, q37.2.2.2.2.2.1, q37.2.2.2.2.2.2.1, q37.2.2.2.2.2.2.2.1, q37.2.2.2.2.2.2.2.2.1, q37.2.2.2.2.2.2.2.2.2.1, q37.2.2.2.2.2.2.2.2.2.2.1, q37.2.2.2.2.2.2.2.2.2.2.2.1, q37.2.2.2.2.2.2.2.2.2.2.2.2.1, q37.2.2.2.2.2.2.2.2.2.2.2.2.2.1, q37.2.2.2.2.2.2.2.2.2.2.2.2.2.2.1, q37.2.2.2.2.2.2.2.2.2.2.2.2.2.2.2.1, (upd q37.2.2.2.2.2.2.2.2.2.2.2.2.2.2.2.2.1 (v1 + 1).toNatClampNeg q37.1), q37.2.2.2.2.2.2.2.2.2.2.2.2.2.2.2.2.2)) H := hP
        replace hD : va_D A (modW g a (q37.2.1, q37.2.2.1, q37.2.2.2.1, q37.2.2.2.2.1, q37.2.2.2.2.2.1, q37.2.2.2.2.2.2.1, q37.2.2.2.2.2.2.2.1, q37.2.2.2.2.2.2.2.2.1, q37.2.2.2.2.2.2.2.2.2.1, q37.2.2.2.2.2.2.2.2.2.2.1, q37.2.2.2.2.2.2.2.2.2.2.2.1, q37.2.2.2.2.2.2.2.2.2.2.2.2.1, q37.2.2.2.2.2.2.2.2.2.2.2.2.2.1, q37.2.2.2.2.2.2.2.2.2.2.2.2.2.2.1, q37.2.2.2.2.2.2.2.2.2.2.2.2.2.2.2.1, (upd q37.2.2.2.2.2.2.2.2.2.2.2.2.2.2.2.2.1 (v1 + 1).toNatClampNeg q37.1), q37.2.2.2.2.2.2.2.2.2.2.2.2.2.2.2.2.2)) := pq_adr hD (ad_X7 _ _)
        refine lv_iload_n hx hb dX7_command_143 rfl (lv_at hl 2 rfl) ?_
        by_cases h39 : v2 = 105
        · replace hf := pq_ifp h39 hf
          refine lv_tableIn (off := 76) (tgt := 220) hx hb dX7_command_144 (by rw [h39]; decide) (by rw [h39]; decide) (by rw [h39]; rfl) (by decide) ?_
          refine lv_aload_n hx hb dX7_command_220 rfl (lv_at hl 0 rfl) ?_
          refine pq_get S hK hP inX7 0 rfl rfl 15 (by decide) fl_X7_24 rfl (v := .ref (a 4)) rfl dX7_command_221 ?_
          refine lv_iload_n hx hb dX7_command_224 rfl (lv_at hl 1 rfl) ?_
          refine lv_iconst (v := 2) hx hb dX7_command_225 (by decide) ?_
          refine lv_iadd hx hb dX7_command_226 ?_
          refine lv_aload_n hx hb dX7_command_227 rfl (lv_at hl 0 rfl) ?_
          refine lv_bipush (v := 58) hx hb dX7_command_228 (by decide) ?_
          obtain ⟨q41, e40, hf⟩ := pq_bind hf
          refine pq_cVi S (c_X7_behind l g a (q37.2.1, q37.2.2.1, q37.2.2.2.1, q37.2.2.2.2.1, q37.2.2.2.2.2.1, q37.2.2.2.2.2.2.1, q37.2.2.2.2.2.2.2.1, q37.2.2.2.2.2.2.2.2.1, q37.2.2.2.2.2.2.2.2.2.1, q37.2.2.2.2.2.2.2.2.2.2.1, q37.2.2.2.2.2.2.2.2.2.2.2.1, q37.2.2.2.2.2.2.2.2.2.2.2.2.1, q37.2.2.2.2.2.2.2.2.2.2.2.2.2.1, q37.2.2.2.2.2.2.2.2.2.2.2.2.2.2.1, q37.2.2.2.2.2.2.2.2.2.2.2.2.2.2.2.1, (upd q37.2.2.2.2.2.2.2.2.2.2.2.2.2.2.2.2.1 (v1 + 1).toNatClampNeg q37.1), q37.2.2.2.2.2.2.2.2.2.2.2.2.2.2.2.2.2) 58 q41.1 q41.2 e40) vv_X7_235 hK hP hD hS hA rfl rfl rfl rfl rfl hl.1 (Nat.le_of_ble_eq_true rfl) dX7_command_230 (by decide) (by decide) ⟨Nat.le_refl _, Nat.le_refl _⟩ (fun H9 locs hk hP1 hS => ?_)
          replace hP := hP1
          replace hP : va_P g.1 pq_cl (modW g a q41.2) H9 := hP
          replace hD : va_D A (modW g a q41.2) := pq_adr hD (ad_X7 _ _)
          clear hk
          generalize H9 = H at hP hS ⊢
          by_cases h42 : ((v1 + 2) < 0 ∨ 366 ≤ (v1 + 2).toNatClampNeg)
          · exact absurd (pq_ifp h42 hf) (fun h9 => by cases h9)
          replace hf := pq_ifn h42 hf
          refine va_iast hx hb hK.1 hP hD hS 4 0 rfl rfl h42 dX7_command_233 (fun H locs hP _ hS => ?_)
          replace hP : va_P g.1 pq_cl (modW g a (q41.2.1, q41.2.2.1, q41.2.2.2.1, q41.2.2.2.2.1, q41.2.2.2.2.2.1, q41.2.2.2.2.2.2.1, q41.2.2.2.2.2.2.2.1, q41.2.2.2.2.2.2.2.2.1, q41.2.2.2.2.2.2.2.2.2.1, q41.2.2.2.2.2.2.2.2.2.2.1, q41.2.2.2.2.2.2.2.2.2.2.2.1, q41.2.2.2.2.2.2.2.2.2.2.2.2.1, q41.2.2.2.2.2.2.2.2.2.2.2.2.2.1, q41.2.2.2.2.2.2.2.2.2.2.2.2.2.2.1, q41.2.2.2.2.2.2.2.2.2.2.2.2.2.2.2.1, (upd q41.2.2.2.2.2.2.2.2.2.2.2.2.2.2.2.2.1 (v1 + 2).toNatClampNeg q41.1), q41.2.2.2.2.2.2.2.2.2.2.2.2.2.2.2.2.2)) H := hP
          replace hD : va_D A (modW g a (q41.2.1, q41.2.2.1, q41.2.2.2.1, q41.2.2.2.2.1, q41.2.2.2.2.2.1, q41.2.2.2.2.2.2.1, q41.2.2.2.2.2.2.2.1, q41.2.2.2.2.2.2.2.2.1, q41.2.2.2.2.2.2.2.2.2.1, q41.2.2.2.2.2.2.2.2.2.2.1, q41.2.2.2.2.2.2.2.2.2.2.2.1, q41.2.2.2.2.2.2.2.2.2.2.2.2.1, q41.2.2.2.2.2.2.2.2.2.2.2.2.2.1, q41.2.2.2.2.2.2.2.2.2.2.2.2.2.2.1, q41.2.2.2.2.2.2.2.2.2.2.2.2.2.2.2.1, (upd q41.2.2.2.2.2.2.2.2.2.2.2.2.2.2.2.2.1 (v1 + 2).toNatClampNeg q41.1), q41.2.2.2.2.2.2.2.2.2.2.2.2.2.2.2.2.2)) := pq_adr hD (ad_X7 _ _)
          refine lv_goto (tgt := 330) hx hb dX7_command_234 (by decide) ?_
          exact hend _ _ _ _ dX7_command_330 (by rw [← Option.some.inj hf]; exact hP) hS
        replace hf := pq_ifn h39 hf
        by_cases h43 : v2 = 109
        · replace hf := pq_ifp h43 hf
          refine lv_tableIn (off := 93) (tgt := 237) hx hb dX7_command_144 (by rw [h43]; decide) (by rw [h43]; decide) (by rw [h43]; rfl) (by decide) ?_
          refine lv_aload_n hx hb dX7_command_237 rfl (lv_at hl 0 rfl) ?_
          refine pq_get S hK hP inX7 0 rfl rfl 15 (by decide) fl_X7_24 rfl (v := .ref (a 4)) rfl dX7_command_238 ?_
          refine lv_iload_n hx hb dX7_command_241 rfl (lv_at hl 1 rfl) ?_
          refine lv_iconst (v := 2) hx hb dX7_command_242 (by decide) ?_
          refine lv_iadd hx hb dX7_command_243 ?_
          refine lv_aload_n hx hb dX7_command_244 rfl (lv_at hl 0 rfl) ?_
          refine lv_bipush (v := 62) hx hb dX7_command_245 (by decide) ?_
          obtain ⟨q45, e44, hf⟩ := pq_bind hf
          refine pq_cVi S (c_X7_behind l g a (q37.2.1, q37.2.2.1, q37.2.2.2.1, q37.2.2.2.2.1, q37.2.2.2.2.2.1, q37.2.2.2.2.2.2.1, q37.2.2.2.2.2.2.2.1, q37.2.2.2.2.2.2.2.2.1, q37.2.2.2.2.2.2.2.2.2.1, q37.2.2.2.2.2.2.2.2.2.2.1, q37.2.2.2.2.2.2.2.2.2.2.2.1, q37.2.2.2.2.2.2.2.2.2.2.2.2.1, q37.2.2.2.2.2.2.2.2.2.2.2.2.2.1, q37.2.2.2.2.2.2.2.2.2.2.2.2.2.2.1, q37.2.2.2.2.2.2.2.2.2.2.2.2.2.2.2.1, (upd q37.2.2.2.2.2.2.2.2.2.2.2.2.2.2.2.2.1 (v1 + 1).toNatClampNeg q37.1), q37.2.2.2.2.2.2.2.2.2.2.2.2.2.2.2.2.2) 62 q45.1 q45.2 e44) vv_X7_235 hK hP hD hS hA rfl rfl rfl rfl rfl hl.1 (Nat.le_of_ble_eq_true rfl) dX7_command_247 (by decide) (by decide) ⟨Nat.le_refl _, Nat.le_refl _⟩ (fun H9 locs hk hP1 hS => ?_)
          replace hP := hP1
          replace hP : va_P g.1 pq_cl (modW g a q45.2) H9 := hP
          replace hD : va_D A (modW g a q45.2) := pq_adr hD (ad_X7 _ _)
          clear hk
          generalize H9 = H at hP hS ⊢
          by_cases h46 : ((v1 + 2) < 0 ∨ 366 ≤ (v1 + 2).toNatClampNeg)
          · exact absurd (pq_ifp h46 hf) (fun h9 => by cases h9)
          replace hf := pq_ifn h46 hf
          refine va_iast hx hb hK.1 hP hD hS 4 0 rfl rfl h46 dX7_command_250 (fun H locs hP _ hS => ?_)
          replace hP : va_P g.1 pq_cl (modW g a (q45.2.1, q45.2.2.1, q45.2.2.2.1, q45.2.2.2.2.1, q45.2.2.2.2.2.1, q45.2.2.2.2.2.2.1, q45.2.2.2.2.2.2.2.1, q45.2.2.2.2.2.2.2.2.1, q45.2.2.2.2.2.2.2.2.2.1, q45.2.2.2.2.2.2.2.2.2.2.1, q45.2.2.2.2.2.2.2.2.2.2.2.1, q45.2.2.2.2.2.2.2.2.2.2.2.2.1, q45.2.2.2.2.2.2.2.2.2.2.2.2.2.1, q45.2.2.2.2.2.2.2.2.2.2.2.2.2.2.1, q45.2.2.2.2.2.2.2.2.2.2.2.2.2.2.2.1, (upd q45.2.2.2.2.2.2.2.2.2.2.2.2.2.2.2.2.1 (v1 + 2).toNatClampNeg q45.1), q45.2.2.2.2.2.2.2.2.2.2.2.2.2.2.2.2.2)) H := hP
          replace hD : va_D A (modW g a (q45.2.1, q45.2.2.1, q45.2.2.2.1, q45.2.2.2.2.1, q45.2.2.2.2.2.1, q45.2.2.2.2.2.2.1, q45.2.2.2.2.2.2.2.1, q45.2.2.2.2.2.2.2.2.1, q45.2.2.2.2.2.2.2.2.2.1, q45.2.2.2.2.2.2.2.2.2.2.1, q45.2.2.2.2.2.2.2.2.2.2.2.1, q45.2.2.2.2.2.2.2.2.2.2.2.2.1, q45.2.2.2.2.2.2.2.2.2.2.2.2.2.1, q45.2.2.2.2.2.2.2.2.2.2.2.2.2.2.1, q45.2.2.2.2.2.2.2.2.2.2.2.2.2.2.2.1, (upd q45.2.2.2.2.2.2.2.2.2.2.2.2.2.2.2.2.1 (v1 + 2).toNatClampNeg q45.1), q45.2.2.2.2.2.2.2.2.2.2.2.2.2.2.2.2.2)) := pq_adr hD (ad_X7 _ _)
          refine lv_goto (tgt := 330) hx hb dX7_command_251 (by decide) ?_
          exact hend _ _ _ _ dX7_command_330 (by rw [← Option.some.inj hf]; exact hP) hS
        replace hf := pq_ifn h43 hf
        by_cases h47 : v2 = 112
        · replace hf := pq_ifp h47 hf
          refine lv_tableIn (off := 76) (tgt := 220) hx hb dX7_command_144 (by rw [h47]; decide) (by rw [h47]; decide) (by rw [h47]; rfl) (by decide) ?_
          refine lv_aload_n hx hb dX7_command_220 rfl (lv_at hl 0 rfl) ?_
          refine pq_get S hK hP inX7 0 rfl rfl 15 (by decide) fl_X7_24 rfl (v := .ref (a 4)) rfl dX7_command_221 ?_
          refine lv_iload_n hx hb dX7_command_224 rfl (lv_at hl 1 rfl) ?_
          refine lv_iconst (v := 2) hx hb dX7_command_225 (by decide) ?_
          refine lv_iadd hx hb dX7_command_226 ?_
          refine lv_aload_n hx hb dX7_command_227 rfl (lv_at hl 0 rfl) ?_
          refine lv_bipush (v := 58) hx hb dX7_command_228 (by decide) ?_
          obtain ⟨q49, e48, hf⟩ := pq_bind hf
          refine pq_cVi S (c_X7_behind l g a (q37.2.1, q37.2.2.1, q37.2.2.2.1, q37.2.2.2.2.1, q37.2.2.2.2.2.1, q37.2.2.2.2.2.2.1, q37.2.2.2.2.2.2.2.1, q37.2.2.2.2.2.2.2.2.1, q37.2.2.2.2.2.2.2.2.2.1, q37.2.2.2.2.2.2.2.2.2.2.1, q37.2.2.2.2.2.2.2.2.2.2.2.1, q37.2.2.2.2.2.2.2.2.2.2.2.2.1, q37.2.2.2.2.2.2.2.2.2.2.2.2.2.1, q37.2.2.2.2.2.2.2.2.2.2.2.2.2.2.1, q37.2.2.2.2.2.2.2.2.2.2.2.2.2.2.2.1, (upd q37.2.2.2.2.2.2.2.2.2.2.2.2.2.2.2.2.1 (v1 + 1).toNatClampNeg q37.1), q37.2.2.2.2.2.2.2.2.2.2.2.2.2.2.2.2.2) 58 q49.1 q49.2 e48) vv_X7_235 hK hP hD hS hA rfl rfl rfl rfl rfl hl.1 (Nat.le_of_ble_eq_true rfl) dX7_command_230 (by decide) (by decide) ⟨Nat.le_refl _, Nat.le_refl _⟩ (fun H9 locs hk hP1 hS => ?_)
          replace hP := hP1
          replace hP : va_P g.1 pq_cl (modW g a q49.2) H9 := hP
          replace hD : va_D A (modW g a q49.2) := pq_adr hD (ad_X7 _ _)
          clear hk
          generalize H9 = H at hP hS ⊢
          by_cases h50 : ((v1 + 2) < 0 ∨ 366 ≤ (v1 + 2).toNatClampNeg)
          · exact absurd (pq_ifp h50 hf) (fun h9 => by cases h9)
          replace hf := pq_ifn h50 hf
          refine va_iast hx hb hK.1 hP hD hS 4 0 rfl rfl h50 dX7_command_233 (fun H locs hP _ hS => ?_)
          replace hP : va_P g.1 pq_cl (modW g a (q49.2.1, q49.2.2.1, q49.2.2.2.1, q49.2.2.2.2.1, q49.2.2.2.2.2.1, q49.2.2.2.2.2.2.1, q49.2.2.2.2.2.2.2.1, q49.2.2.2.2.2.2.2.2.1, q49.2.2.2.2.2.2.2.2.2.1, q49.2.2.2.2.2.2.2.2.2.2.1, q49.2.2.2.2.2.2.2.2.2.2.2.1, q49.2.2.2.2.2.2.2.2.2.2.2.2.1, q49.2.2.2.2.2.2.2.2.2.2.2.2.2.1, q49.2.2.2.2.2.2.2.2.2.2.2.2.2.2.1, q49.2.2.2.2.2.2.2.2.2.2.2.2.2.2.2.1, (upd q49.2.2.2.2.2.2.2.2.2.2.2.2.2.2.2.2.1 (v1 + 2).toNatClampNeg q49.1), q49.2.2.2.2.2.2.2.2.2.2.2.2.2.2.2.2.2)) H := hP
          replace hD : va_D A (modW g a (q49.2.1, q49.2.2.1, q49.2.2.2.1, q49.2.2.2.2.1, q49.2.2.2.2.2.1, q49.2.2.2.2.2.2.1, q49.2.2.2.2.2.2.2.1, q49.2.2.2.2.2.2.2.2.1, q49.2.2.2.2.2.2.2.2.2.1, q49.2.2.2.2.2.2.2.2.2.2.1, q49.2.2.2.2.2.2.2.2.2.2.2.1, q49.2.2.2.2.2.2.2.2.2.2.2.2.1, q49.2.2.2.2.2.2.2.2.2.2.2.2.2.1, q49.2.2.2.2.2.2.2.2.2.2.2.2.2.2.1, q49.2.2.2.2.2.2.2.2.2.2.2.2.2.2.2.1, (upd q49.2.2.2.2.2.2.2.2.2.2.2.2.2.2.2.2.1 (v1 + 2).toNatClampNeg q49.1), q49.2.2.2.2.2.2.2.2.2.2.2.2.2.2.2.2.2)) := pq_adr hD (ad_X7 _ _)
          refine lv_goto (tgt := 330) hx hb dX7_command_234 (by decide) ?_
          exact hend _ _ _ _ dX7_command_330 (by rw [← Option.some.inj hf]; exact hP) hS
        replace hf := pq_ifn h47 hf
        by_cases h51 : v2 = 114
        · replace hf := pq_ifp h51 hf
          refine lv_tableIn (off := 110) (tgt := 254) hx hb dX7_command_144 (by rw [h51]; decide) (by rw [h51]; decide) (by rw [h51]; rfl) (by decide) ?_
          refine lv_aload_n hx hb dX7_command_254 rfl (lv_at hl 0 rfl) ?_
          refine pq_get S hK hP inX7 0 rfl rfl 15 (by decide) fl_X7_24 rfl (v := .ref (a 4)) rfl dX7_command_255 ?_
          refine lv_iload_n hx hb dX7_command_258 rfl (lv_at hl 1 rfl) ?_
          refine lv_iconst (v := 2) hx hb dX7_command_259 (by decide) ?_
          refine lv_iadd hx hb dX7_command_260 ?_
          refine lv_aload_n hx hb dX7_command_261 rfl (lv_at hl 0 rfl) ?_
          refine lv_bipush (v := 45) hx hb dX7_command_262 (by decide) ?_
          obtain ⟨q53, e52, hf⟩ := pq_bind hf
          refine pq_cVi S (c_X7_behind l g a (q37.2.1, q37.2.2.1, q37.2.2.2.1, q37.2.2.2.2.1, q37.2.2.2.2.2.1, q37.2.2.2.2.2.2.1, q37.2.2.2.2.2.2.2.1, q37.2.2.2.2.2.2.2.2.1, q37.2.2.2.2.2.2.2.2.2.1, q37.2.2.2.2.2.2.2.2.2.2.1, q37.2.2.2.2.2.2.2.2.2.2.2.1, q37.2.2.2.2.2.2.2.2.2.2.2.2.1, q37.2.2.2.2.2.2.2.2.2.2.2.2.2.1, q37.2.2.2.2.2.2.2.2.2.2.2.2.2.2.1, q37.2.2.2.2.2.2.2.2.2.2.2.2.2.2.2.1, (upd q37.2.2.2.2.2.2.2.2.2.2.2.2.2.2.2.2.1 (v1 + 1).toNatClampNeg q37.1), q37.2.2.2.2.2.2.2.2.2.2.2.2.2.2.2.2.2) 45 q53.1 q53.2 e52) vv_X7_235 hK hP hD hS hA rfl rfl rfl rfl rfl hl.1 (Nat.le_of_ble_eq_true rfl) dX7_command_264 (by decide) (by decide) ⟨Nat.le_refl _, Nat.le_refl _⟩ (fun H9 locs hk hP1 hS => ?_)
          replace hP := hP1
          replace hP : va_P g.1 pq_cl (modW g a q53.2) H9 := hP
          replace hD : va_D A (modW g a q53.2) := pq_adr hD (ad_X7 _ _)
          clear hk
          generalize H9 = H at hP hS ⊢
          by_cases h54 : ((v1 + 2) < 0 ∨ 366 ≤ (v1 + 2).toNatClampNeg)
          · exact absurd (pq_ifp h54 hf) (fun h9 => by cases h9)
          replace hf := pq_ifn h54 hf
          refine va_iast hx hb hK.1 hP hD hS 4 0 rfl rfl h54 dX7_command_267 (fun H locs hP _ hS => ?_)
          replace hP : va_P g.1 pq_cl (modW g a (q53.2.1, q53.2.2.1, q53.2.2.2.1, q53.2.2.2.2.1, q53.2.2.2.2.2.1, q53.2.2.2.2.2.2.1, q53.2.2.2.2.2.2.2.1, q53.2.2.2.2.2.2.2.2.1, q53.2.2.2.2.2.2.2.2.2.1, q53.2.2.2.2.2.2.2.2.2.2.1, q53.2.2.2.2.2.2.2.2.2.2.2.1, q53.2.2.2.2.2.2.2.2.2.2.2.2.1, q53.2.2.2.2.2.2.2.2.2.2.2.2.2.1, q53.2.2.2.2.2.2.2.2.2.2.2.2.2.2.1, q53.2.2.2.2.2.2.2.2.2.2.2.2.2.2.2.1, (upd q53.2.2.2.2.2.2.2.2.2.2.2.2.2.2.2.2.1 (v1 + 2).toNatClampNeg q53.1), q53.2.2.2.2.2.2.2.2.2.2.2.2.2.2.2.2.2)) H := hP
          replace hD : va_D A (modW g a (q53.2.1, q53.2.2.1, q53.2.2.2.1, q53.2.2.2.2.1, q53.2.2.2.2.2.1, q53.2.2.2.2.2.2.1, q53.2.2.2.2.2.2.2.1, q53.2.2.2.2.2.2.2.2.1, q53.2.2.2.2.2.2.2.2.2.1, q53.2.2.2.2.2.2.2.2.2.2.1, q53.2.2.2.2.2.2.2.2.2.2.2.1, q53.2.2.2.2.2.2.2.2.2.2.2.2.1, q53.2.2.2.2.2.2.2.2.2.2.2.2.2.1, q53.2.2.2.2.2.2.2.2.2.2.2.2.2.2.1, q53.2.2.2.2.2.2.2.2.2.2.2.2.2.2.2.1, (upd q53.2.2.2.2.2.2.2.2.2.2.2.2.2.2.2.2.1 (v1 + 2).toNatClampNeg q53.1), q53.2.2.2.2.2.2.2.2.2.2.2.2.2.2.2.2.2)) := pq_adr hD (ad_X7 _ _)
          refine lv_goto (tgt := 330) hx hb dX7_command_268 (by decide) ?_
          exact hend _ _ _ _ dX7_command_330 (by rw [← Option.some.inj hf]; exact hP) hS
        replace hf := pq_ifn h51 hf
        by_cases h55 : v2 = 119
        · replace hf := pq_ifp h55 hf
          refine lv_tableIn (off := 127) (tgt := 271) hx hb dX7_command_144 (by rw [h55]; decide) (by rw [h55]; decide) (by rw [h55]; rfl) (by decide) ?_
          refine lv_aload_n hx hb dX7_command_271 rfl (lv_at hl 0 rfl) ?_
          refine pq_get S hK hP inX7 0 rfl rfl 15 (by decide) fl_X7_24 rfl (v := .ref (a 4)) rfl dX7_command_272 ?_
          refine lv_iload_n hx hb dX7_command_275 rfl (lv_at hl 1 rfl) ?_
          refine lv_iconst (v := 2) hx hb dX7_command_276 (by decide) ?_
          refine lv_iadd hx hb dX7_command_277 ?_
          refine lv_aload_n hx hb dX7_command_278 rfl (lv_at hl 0 rfl) ?_
          refine lv_bipush (v := 61) hx hb dX7_command_279 (by decide) ?_
          obtain ⟨q57, e56, hf⟩ := pq_bind hf
          refine pq_cVi S (c_X7_behind l g a (q37.2.1, q37.2.2.1, q37.2.2.2.1, q37.2.2.2.2.1, q37.2.2.2.2.2.1, q37.2.2.2.2.2.2.1, q37.2.2.2.2.2.2.2.1, q37.2.2.2.2.2.2.2.2.1, q37.2.2.2.2.2.2.2.2.2.1, q37.2.2.2.2.2.2.2.2.2.2.1, q37.2.2.2.2.2.2.2.2.2.2.2.1, q37.2.2.2.2.2.2.2.2.2.2.2.2.1, q37.2.2.2.2.2.2.2.2.2.2.2.2.2.1, q37.2.2.2.2.2.2.2.2.2.2.2.2.2.2.1, q37.2.2.2.2.2.2.2.2.2.2.2.2.2.2.2.1, (upd q37.2.2.2.2.2.2.2.2.2.2.2.2.2.2.2.2.1 (v1 + 1).toNatClampNeg q37.1), q37.2.2.2.2.2.2.2.2.2.2.2.2.2.2.2.2.2) 61 q57.1 q57.2 e56) vv_X7_235 hK hP hD hS hA rfl rfl rfl rfl rfl hl.1 (Nat.le_of_ble_eq_true rfl) dX7_command_281 (by decide) (by decide) ⟨Nat.le_refl _, Nat.le_refl _⟩ (fun H9 locs hk hP1 hS => ?_)
          replace hP := hP1
          replace hP : va_P g.1 pq_cl (modW g a q57.2) H9 := hP
          replace hD : va_D A (modW g a q57.2) := pq_adr hD (ad_X7 _ _)
          clear hk
          generalize H9 = H at hP hS ⊢
          by_cases h58 : ((v1 + 2) < 0 ∨ 366 ≤ (v1 + 2).toNatClampNeg)
          · exact absurd (pq_ifp h58 hf) (fun h9 => by cases h9)
          replace hf := pq_ifn h58 hf
          refine va_iast hx hb hK.1 hP hD hS 4 0 rfl rfl h58 dX7_command_284 (fun H locs hP _ hS => ?_)
          replace hP : va_P g.1 pq_cl (modW g a (q57.2.1, q57.2.2.1, q57.2.2.2.1, q57.2.2.2.2.1, q57.2.2.2.2.2.1, q57.2.2.2.2.2.2.1, q57.2.2.2.2.2.2.2.1, q57.2.2.2.2.2.2.2.2.1, q57.2.2.2.2.2.2.2.2.2.1, q57.2.2.2.2.2.2.2.2.2.2.1, q57.2.2.2.2.2.2.2.2.2.2.2.1, q57.2.2.2.2.2.2.2.2.2.2.2.2.1, q57.2.2.2.2.2.2.2.2.2.2.2.2.2.1, q57.2.2.2.2.2.2.2.2.2.2.2.2.2.2.1, q57.2.2.2.2.2.2.2.2.2.2.2.2.2.2.2.1, (upd q57.2.2.2.2.2.2.2.2.2.2.2.2.2.2.2.2.1 (v1 + 2).toNatClampNeg q57.1), q57.2.2.2.2.2.2.2.2.2.2.2.2.2.2.2.2.2)) H := hP
          replace hD : va_D A (modW g a (q57.2.1, q57.2.2.1, q57.2.2.2.1, q57.2.2.2.2.1, q57.2.2.2.2.2.1, q57.2.2.2.2.2.2.1, q57.2.2.2.2.2.2.2.1, q57.2.2.2.2.2.2.2.2.1, q57.2.2.2.2.2.2.2.2.2.1, q57.2.2.2.2.2.2.2.2.2.2.1, q57.2.2.2.2.2.2.2.2.2.2.2.1, q57.2.2.2.2.2.2.2.2.2.2.2.2.1, q57.2.2.2.2.2.2.2.2.2.2.2.2.2.1, q57.2.2.2.2.2.2.2.2.2.2.2.2.2.2.1, q57.2.2.2.2.2.2.2.2.2.2.2.2.2.2.2.1, (upd q57.2.2.2.2.2.2.2.2.2.2.2.2.2.2.2.2.1 (v1 + 2).toNatClampNeg q57.1), q57.2.2.2.2.2.2.2.2.2.2.2.2.2.2.2.2.2)) := pq_adr hD (ad_X7 _ _)
          refine lv_aload_n hx hb dX7_command_285 rfl (lv_at hl 0 rfl) ?_
          refine pq_get S hK hP inX7 0 rfl rfl 15 (by decide) fl_X7_24 rfl (v := .ref (a 4)) rfl dX7_command_286 ?_
          refine lv_iload_n hx hb dX7_command_289 rfl (lv_at hl 1 rfl) ?_
          refine lv_iconst (v := 3) hx hb dX7_command_290 (by decide) ?_
          refine lv_iadd hx hb dX7_command_291 ?_
          refine lv_aload_n hx hb dX7_command_292 rfl (lv_at hl 0 rfl) ?_
          refine lv_bipush (v := 45) hx hb dX7_command_293 (by decide) ?_
          obtain ⟨q60, e59, hf⟩ := pq_bind hf
          refine pq_cVi S (c_X7_behind l g a (q57.2.1, q57.2.2.1, q57.2.2.2.1, q57.2.2.2.2.1, q57.2.2.2.2.2.1, q57.2.2.2.2.2.2.1, q57.2.2.2.2.2.2.2.1, q57.2.2.2.2.2.2.2.2.1, q57.2.2.2.2.2.2.2.2.2.1, q57.2.2.2.2.2.2.2.2.2.2.1, q57.2.2.2.2.2.2.2.2.2.2.2.1, q57.2.2.2.2.2.2.2.2.2.2.2.2.1, q57.2.2.2.2.2.2.2.2.2.2.2.2.2.1, q57.2.2.2.2.2.2.2.2.2.2.2.2.2.2.1, q57.2.2.2.2.2.2.2.2.2.2.2.2.2.2.2.1, (upd q57.2.2.2.2.2.2.2.2.2.2.2.2.2.2.2.2.1 (v1 + 2).toNatClampNeg q57.1), q57.2.2.2.2.2.2.2.2.2.2.2.2.2.2.2.2.2) 45 q60.1 q60.2 e59) vv_X7_235 hK hP hD hS hA rfl rfl rfl rfl rfl hl.1 (Nat.le_of_ble_eq_true rfl) dX7_command_295 (by decide) (by decide) ⟨Nat.le_refl _, Nat.le_refl _⟩ (fun H9 locs hk hP1 hS => ?_)
          replace hP := hP1
          replace hP : va_P g.1 pq_cl (modW g a q60.2) H9 := hP
          replace hD : va_D A (modW g a q60.2) := pq_adr hD (ad_X7 _ _)
          clear hk
          generalize H9 = H at hP hS ⊢
          by_cases h61 : ((v1 + 3) < 0 ∨ 366 ≤ (v1 + 3).toNatClampNeg)
          · exact absurd (pq_ifp h61 hf) (fun h9 => by cases h9)
          replace hf := pq_ifn h61 hf
          refine va_iast hx hb hK.1 hP hD hS 4 0 rfl rfl h61 dX7_command_298 (fun H locs hP _ hS => ?_)
          replace hP : va_P g.1 pq_cl (modW g a (q60.2.1, q60.2.2.1, q60.2.2.2.1, q60.2.2.2.2.1, q60.2.2.2.2.2.1, q60.2.2.2.2.2.2.1, q60.2.2.2.2.2.2.2.1, q60.2.2.2.2.2.2.2.2.1, q60.2.2.2.2.2.2.2.2.2.1, q60.2.2.2.2.2.2.2.2.2.2.1, q60.2.2.2.2.2.2.2.2.2.2.2.1, q60.2.2.2.2.2.2.2.2.2.2.2.2.1, q60.2.2.2.2.2.2.2.2.2.2.2.2.2.1, q60.2.2.2.2.2.2.2.2.2.2.2.2.2.2.1, q60.2.2.2.2.2.2.2.2.2.2.2.2.2.2.2.1, (upd q60.2.2.2.2.2.2.2.2.2.2.2.2.2.2.2.2.1 (v1 + 3).toNatClampNeg q60.1), q60.2.2.2.2.2.2.2.2.2.2.2.2.2.2.2.2.2)) H := hP
          replace hD : va_D A (modW g a (q60.2.1, q60.2.2.1, q60.2.2.2.1, q60.2.2.2.2.1, q60.2.2.2.2.2.1, q60.2.2.2.2.2.2.1, q60.2.2.2.2.2.2.2.1, q60.2.2.2.2.2.2.2.2.1, q60.2.2.2.2.2.2.2.2.2.1, q60.2.2.2.2.2.2.2.2.2.2.1, q60.2.2.2.2.2.2.2.2.2.2.2.1, q60.2.2.2.2.2.2.2.2.2.2.2.2.1, q60.2.2.2.2.2.2.2.2.2.2.2.2.2.1, q60.2.2.2.2.2.2.2.2.2.2.2.2.2.2.1, q60.2.2.2.2.2.2.2.2.2.2.2.2.2.2.2.1, (upd q60.2.2.2.2.2.2.2.2.2.2.2.2.2.2.2.2.1 (v1 + 3).toNatClampNeg q60.1), q60.2.2.2.2.2.2.2.2.2.2.2.2.2.2.2.2.2)) := pq_adr hD (ad_X7 _ _)
          refine lv_aload_n hx hb dX7_command_299 rfl (lv_at hl 0 rfl) ?_
          refine pq_get S hK hP inX7 0 rfl rfl 15 (by decide) fl_X7_24 rfl (v := .ref (a 4)) rfl dX7_command_300 ?_
          refine lv_iload_n hx hb dX7_command_303 rfl (lv_at hl 1 rfl) ?_
          refine lv_iconst (v := 4) hx hb dX7_command_304 (by decide) ?_
          refine lv_iadd hx hb dX7_command_305 ?_
          refine lv_aload_n hx hb dX7_command_306 rfl (lv_at hl 0 rfl) ?_
          refine lv_bipush (v := 94) hx hb dX7_command_307 (by decide) ?_
          obtain ⟨q63, e62, hf⟩ := pq_bind hf
          refine pq_cVi S (c_X7_behind l g a (q60.2.1, q60.2.2.1, q60.2.2.2.1, q60.2.2.2.2.1, q60.2.2.2.2.2.1, q60.2.2.2.2.2.2.1, q60.2.2.2.2.2.2.2.1, q60.2.2.2.2.2.2.2.2.1, q60.2.2.2.2.2.2.2.2.2.1, q60.2.2.2.2.2.2.2.2.2.2.1, q60.2.2.2.2.2.2.2.2.2.2.2.1, q60.2.2.2.2.2.2.2.2.2.2.2.2.1, q60.2.2.2.2.2.2.2.2.2.2.2.2.2.1, q60.2.2.2.2.2.2.2.2.2.2.2.2.2.2.1, q60.2.2.2.2.2.2.2.2.2.2.2.2.2.2.2.1, (upd q60.2.2.2.2.2.2.2.2.2.2.2.2.2.2.2.2.1 (v1 + 3).toNatClampNeg q60.1), q60.2.2.2.2.2.2.2.2.2.2.2.2.2.2.2.2.2) 94 q63.1 q63.2 e62) vv_X7_235 hK hP hD hS hA rfl rfl rfl rfl rfl hl.1 (Nat.le_of_ble_eq_true rfl) dX7_command_309 (by decide) (by decide) ⟨Nat.le_refl _, Nat.le_refl _⟩ (fun H9 locs hk hP1 hS => ?_)
          replace hP := hP1
          replace hP : va_P g.1 pq_cl (modW g a q63.2) H9 := hP
          replace hD : va_D A (modW g a q63.2) := pq_adr hD (ad_X7 _ _)
          clear hk
          generalize H9 = H at hP hS ⊢
          by_cases h64 : ((v1 + 4) < 0 ∨ 366 ≤ (v1 + 4).toNatClampNeg)
          · exact absurd (pq_ifp h64 hf) (fun h9 => by cases h9)
          replace hf := pq_ifn h64 hf
          refine va_iast hx hb hK.1 hP hD hS 4 0 rfl rfl h64 dX7_command_312 (fun H locs hP _ hS => ?_)
          replace hP : va_P g.1 pq_cl (modW g a (q63.2.1, q63.2.2.1, q63.2.2.2.1, q63.2.2.2.2.1, q63.2.2.2.2.2.1, q63.2.2.2.2.2.2.1, q63.2.2.2.2.2.2.2.1, q63.2.2.2.2.2.2.2.2.1, q63.2.2.2.2.2.2.2.2.2.1, q63.2.2.2.2.2.2.2.2.2.2.1, q63.2.2.2.2.2.2.2.2.2.2.2.1, q63.2.2.2.2.2.2.2.2.2.2.2.2.1, q63.2.2.2.2.2.2.2.2.2.2.2.2.2.1, q63.2.2.2.2.2.2.2.2.2.2.2.2.2.2.1, q63.2.2.2.2.2.2.2.2.2.2.2.2.2.2.2.1, (upd q63.2.2.2.2.2.2.2.2.2.2.2.2.2.2.2.2.1 (v1 + 4).toNatClampNeg q63.1), q63.2.2.2.2.2.2.2.2.2.2.2.2.2.2.2.2.2)) H := hP
          replace hD : va_D A (modW g a (q63.2.1, q63.2.2.1, q63.2.2.2.1, q63.2.2.2.2.1, q63.2.2.2.2.2.1, q63.2.2.2.2.2.2.1, q63.2.2.2.2.2.2.2.1, q63.2.2.2.2.2.2.2.2.1, q63.2.2.2.2.2.2.2.2.2.1, q63.2.2.2.2.2.2.2.2.2.2.1, q63.2.2.2.2.2.2.2.2.2.2.2.1, q63.2.2.2.2.2.2.2.2.2.2.2.2.1, q63.2.2.2.2.2.2.2.2.2.2.2.2.2.1, q63.2.2.2.2.2.2.2.2.2.2.2.2.2.2.1, q63.2.2.2.2.2.2.2.2.2.2.2.2.2.2.2.1, (upd q63.2.2.2.2.2.2.2.2.2.2.2.2.2.2.2.2.1 (v1 + 4).toNatClampNeg q63.1), q63.2.2.2.2.2.2.2.2.2.2.2.2.2.2.2.2.2)) := pq_adr hD (ad_X7 _ _)
          refine lv_aload_n hx hb dX7_command_313 rfl (lv_at hl 0 rfl) ?_
          refine pq_get S hK hP inX7 0 rfl rfl 15 (by decide) fl_X7_24 rfl (v := .ref (a 4)) rfl dX7_command_314 ?_
          refine lv_iload_n hx hb dX7_command_317 rfl (lv_at hl 1 rfl) ?_
          refine lv_iconst (v := 5) hx hb dX7_command_318 (by decide) ?_
          refine lv_iadd hx hb dX7_command_319 ?_
          refine lv_aload_n hx hb dX7_command_320 rfl (lv_at hl 0 rfl) ?_
          refine lv_bipush (v := 47) hx hb dX7_command_321 (by decide) ?_
          obtain ⟨q66, e65, hf⟩ := pq_bind hf
          refine pq_cVi S (c_X7_behind l g a (q63.2.1, q63.2.2.1, q63.2.2.2.1, q63.2.2.2.2.1, q63.2.2.2.2.2.1, q63.2.2.2.2.2.2.1, q63.2.2.2.2.2.2.2.1, q63.2.2.2.2.2.2.2.2.1, q63.2.2.2.2.2.2.2.2.2.1, q63.2.2.2.2.2.2.2.2.2.2.1, q63.2.2.2.2.2.2.2.2.2.2.2.1, q63.2.2.2.2.2.2.2.2.2.2.2.2.1, q63.2.2.2.2.2.2.2.2.2.2.2.2.2.1, q63.2.2.2.2.2.2.2.2.2.2.2.2.2.2.1, q63.2.2.2.2.2.2.2.2.2.2.2.2.2.2.2.1, (upd q63.2.2.2.2.2.2.2.2.2.2.2.2.2.2.2.2.1 (v1 + 4).toNatClampNeg q63.1), q63.2.2.2.2.2.2.2.2.2.2.2.2.2.2.2.2.2) 47 q66.1 q66.2 e65) vv_X7_235 hK hP hD hS hA rfl rfl rfl rfl rfl hl.1 (Nat.le_of_ble_eq_true rfl) dX7_command_323 (by decide) (by decide) ⟨Nat.le_refl _, Nat.le_refl _⟩ (fun H9 locs hk hP1 hS => ?_)
          replace hP := hP1
          replace hP : va_P g.1 pq_cl (modW g a q66.2) H9 := hP
          replace hD : va_D A (modW g a q66.2) := pq_adr hD (ad_X7 _ _)
          clear hk
          generalize H9 = H at hP hS ⊢
          by_cases h67 : ((v1 + 5) < 0 ∨ 366 ≤ (v1 + 5).toNatClampNeg)
          · exact absurd (pq_ifp h67 hf) (fun h9 => by cases h9)
          replace hf := pq_ifn h67 hf
          refine va_iast hx hb hK.1 hP hD hS 4 0 rfl rfl h67 dX7_command_326 (fun H locs hP _ hS => ?_)
          replace hP : va_P g.1 pq_cl (modW g a (q66.2.1, q66.2.2.1, q66.2.2.2.1, q66.2.2.2.2.1, q66.2.2.2.2.2.1, q66.2.2.2.2.2.2.1, q66.2.2.2.2.2.2.2.1, q66.2.2.2.2.2.2.2.2.1, q66.2.2.2.2.2.2.2.2.2.1, q66.2.2.2.2.2.2.2.2.2.2.1, q66.2.2.2.2.2.2.2.2.2.2.2.1, q66.2.2.2.2.2.2.2.2.2.2.2.2.1, q66.2.2.2.2.2.2.2.2.2.2.2.2.2.1, q66.2.2.2.2.2.2.2.2.2.2.2.2.2.2.1, q66.2.2.2.2.2.2.2.2.2.2.2.2.2.2.2.1, (upd q66.2.2.2.2.2.2.2.2.2.2.2.2.2.2.2.2.1 (v1 + 5).toNatClampNeg q66.1), q66.2.2.2.2.2.2.2.2.2.2.2.2.2.2.2.2.2)) H := hP
          replace hD : va_D A (modW g a (q66.2.1, q66.2.2.1, q66.2.2.2.1, q66.2.2.2.2.1, q66.2.2.2.2.2.1, q66.2.2.2.2.2.2.1, q66.2.2.2.2.2.2.2.1, q66.2.2.2.2.2.2.2.2.1, q66.2.2.2.2.2.2.2.2.2.1, q66.2.2.2.2.2.2.2.2.2.2.1, q66.2.2.2.2.2.2.2.2.2.2.2.1, q66.2.2.2.2.2.2.2.2.2.2.2.2.1, q66.2.2.2.2.2.2.2.2.2.2.2.2.2.1, q66.2.2.2.2.2.2.2.2.2.2.2.2.2.2.1, q66.2.2.2.2.2.2.2.2.2.2.2.2.2.2.2.1, (upd q66.2.2.2.2.2.2.2.2.2.2.2.2.2.2.2.2.1 (v1 + 5).toNatClampNeg q66.1), q66.2.2.2.2.2.2.2.2.2.2.2.2.2.2.2.2.2)) := pq_adr hD (ad_X7 _ _)
          refine lv_goto (tgt := 330) hx hb dX7_command_327 (by decide) ?_
          exact hend _ _ _ _ dX7_command_330 (by rw [← Option.some.inj hf]; exact hP) hS
        replace hf := pq_ifn h55 hf
        refine pq_tdef hx hb dX7_command_144 [105, 109, 112, 114, 119] (by intro k9 h9; simp only [List.mem_cons, List.not_mem_nil, or_false] at h9; rcases h9 with rfl | rfl | rfl | rfl | rfl <;> assumption) (by decide) (by decide) (tgt := 330) (by decide) ?_
        exact hend _ _ _ _ dX7_command_330 (by rw [← Option.some.inj hf]; exact hP) hS
      · replace hf := pq_ifp h35 hf
        refine lv_iconst (v := 1) hx hb dX7_command_134 (by decide) ?_
        refine lv_goto (tgt := 139) hx hb dX7_command_135 (by decide) ?_
        obtain ⟨q69, e68, hf⟩ := pq_bind hf
        refine pq_cVi S (c_X7_number l g a (T.1, T.2.1, T.2.2.1, T.2.2.2.1, T.2.2.2.2.1, T.2.2.2.2.2.1, T.2.2.2.2.2.2.1, T.2.2.2.2.2.2.2.1, T.2.2.2.2.2.2.2.2.1, T.2.2.2.2.2.2.2.2.2.1, T.2.2.2.2.2.2.2.2.2.2.1, T.2.2.2.2.2.2.2.2.2.2.2.1, (T.2.2.2.2.2.2.2.2.2.2.2.2.1 + 1), T.2.2.2.2.2.2.2.2.2.2.2.2.2.1, T.2.2.2.2.2.2.2.2.2.2.2.2.2.2.1, (upd T.2.2.2.2.2.2.2.2.2.2.2.2.2.2.2.1 v1.toNatClampNeg v2), T.2.2.2.2.2.2.2.2.2.2.2.2.2.2.2.2) 1 q69.1 q69.2 e68) vv_X7_229 hK hP hD hS hA rfl rfl rfl rfl rfl hl.1 (Nat.le_of_ble_eq_true rfl) dX7_command_139 (by decide) (by decide) ⟨Nat.le_refl _, Nat.le_refl _⟩ (fun H9 locs hk hP1 hS => ?_)
        replace hP := hP1
        replace hP : va_P g.1 pq_cl (modW g a q69.2) H9 := hP
        replace hD : va_D A (modW g a q69.2) := pq_adr hD (ad_X7 _ _)
        clear hk
        generalize H9 = H at hP hS ⊢
        by_cases h70 : ((v1 + 1) < 0 ∨ 366 ≤ (v1 + 1).toNatClampNeg)
        · exact absurd (pq_ifp h70 hf) (fun h9 => by cases h9)
        replace hf := pq_ifn h70 hf
        refine va_iast hx hb hK.1 hP hD hS 4 0 rfl rfl h70 dX7_command_142 (fun H locs hP _ hS => ?_)
        replace hP : va_P g.1 pq_cl (modW g a (q69.2.1, q69.2.2.1, q69.2.2.2.1, q69.2.2.2.2.1, q69.2.2.2.2.2.1, q69.2.2.2.2.2.2.1, q69.2.2.2.2.2.2.2.1, q69.2.2.2.2.2.2.2.2.1, q69.2.2.2.2.2.2.2.2.2.1, q69.2.2.2.2.2.2.2.2.2.2.1, q69.2.2.2.2.2.2.2.2.2.2.2.1, q69.2.2.2.2.2.2.2.2.2.2.2.2.1, q69.2.2.2.2.2.2.2.2.2.2.2.2.2.1, q69.2.2.2.2.2.2.2.2.2.2.2.2.2.2.1, q69.2.2.2.2.2.2.2.2.2.2.2.2.2.2.2.1, (upd q69.2.2.2.2.2.2.2.2.2.2.2.2.2.2.2.2.1 (v1 + 1).toNatClampNeg q69.1), q69.2.2.2.2.2.2.2.2.2.2.2.2.2.2.2.2.2)) H := hP
        replace hD : va_D A (modW g a (q69.2.1, q69.2.2.1, q69.2.2.2.1, q69.2.2.2.2.1, q69.2.2.2.2.2.1, q69.2.2.2.2.2.2.1, q69.2.2.2.2.2.2.2.1, q69.2.2.2.2.2.2.2.2.1, q69.2.2.2.2.2.2.2.2.2.1, q69.2.2.2.2.2.2.2.2.2.2.1, q69.2.2.2.2.2.2.2.2.2.2.2.1, q69.2.2.2.2.2.2.2.2.2.2.2.2.1, q69.2.2.2.2.2.2.2.2.2.2.2.2.2.1, q69.2.2.2.2.2.2.2.2.2.2.2.2.2.2.1, q69.2.2.2.2.2.2.2.2.2.2.2.2.2.2.2.1, (upd q69.2.2.2.2.2.2.2.2.2.2.2.2.2.2.2.2.1 (v1 + 1).toNatClampNeg q69.1), q69.2.2.2.2.2.2.2.2.2.2.2.2.2.2.2.2.2)) := pq_adr hD (ad_X7 _ _)
        refine lv_iload_n hx hb dX7_command_143 rfl (lv_at hl 2 rfl) ?_
        by_cases h71 : v2 = 105
        · replace hf := pq_ifp h71 hf
          refine lv_tableIn (off := 76) (tgt := 220) hx hb dX7_command_144 (by rw [h71]; decide) (by rw [h71]; decide) (by rw [h71]; rfl) (by decide) ?_
          refine lv_aload_n hx hb dX7_command_220 rfl (lv_at hl 0 rfl) ?_
          refine pq_get S hK hP inX7 0 rfl rfl 15 (by decide) fl_X7_24 rfl (v := .ref (a 4)) rfl dX7_command_221 ?_
          refine lv_iload_n hx hb dX7_command_224 rfl (lv_at hl 1 rfl) ?_
          refine lv_iconst (v := 2) hx hb dX7_command_225 (by decide) ?_
          refine lv_iadd hx hb dX7_command_226 ?_
          refine lv_aload_n hx hb dX7_command_227 rfl (lv_at hl 0 rfl) ?_
          refine lv_bipush (v := 58) hx hb dX7_command_228 (by decide) ?_
          obtain ⟨q73, e72, hf⟩ := pq_bind hf
          refine pq_cVi S (c_X7_behind l g a (q69.2.1, q69.2.2.1, q69.2.2.2.1, q69.2.2.2.2.1, q69.2.2.2.2.2.1, q69.2.2.2.2.2.2.1, q69.2.2.2.2.2.2.2.1, q69.2.2.2.2.2.2.2.2.1, q69.2.2.2.2.2.2.2.2.2.1, q69.2.2.2.2.2.2.2.2.2.2.1, q69.2.2.2.2.2.2.2.2.2.2.2.1, q69.2.2.2.2.2.2.2.2.2.2.2.2.1, q69.2.2.2.2.2.2.2.2.2.2.2.2.2.1, q69.2.2.2.2.2.2.2.2.2.2.2.2.2.2.1, q69.2.2.2.2.2.2.2.2.2.2.2.2.2.2.2.1, (upd q69.2.2.2.2.2.2.2.2.2.2.2.2.2.2.2.2.1 (v1 + 1).toNatClampNeg q69.1), q69.2.2.2.2.2.2.2.2.2.2.2.2.2.2.2.2.2) 58 q73.1 q73.2 e72) vv_X7_235 hK hP hD hS hA rfl rfl rfl rfl rfl hl.1 (Nat.le_of_ble_eq_true rfl) dX7_command_230 (by decide) (by decide) ⟨Nat.le_refl _, Nat.le_refl _⟩ (fun H9 locs hk hP1 hS => ?_)
          replace hP := hP1
          replace hP : va_P g.1 pq_cl (modW g a q73.2) H9 := hP
          replace hD : va_D A (modW g a q73.2) := pq_adr hD (ad_X7 _ _)
          clear hk
          generalize H9 = H at hP hS ⊢
          by_cases h74 : ((v1 + 2) < 0 ∨ 366 ≤ (v1 + 2).toNatClampNeg)
          · exact absurd (pq_ifp h74 hf) (fun h9 => by cases h9)
          replace hf := pq_ifn h74 hf
          refine va_iast hx hb hK.1 hP hD hS 4 0 rfl rfl h74 dX7_command_233 (fun H locs hP _ hS => ?_)
          replace hP : va_P g.1 pq_cl (modW g a (q73.2.1, q73.2.2.1, q73.2.2.2.1, q73.2.2.2.2.1, q73.2.2.2.2.2.1, q73.2.2.2.2.2.2.1, q73.2.2.2.2.2.2.2.1, q73.2.2.2.2.2.2.2.2.1, q73.2.2.2.2.2.2.2.2.2.1, q73.2.2.2.2.2.2.2.2.2.2.1, q73.2.2.2.2.2.2.2.2.2.2.2.1, q73.2.2.2.2.2.2.2.2.2.2.2.2.1, q73.2.2.2.2.2.2.2.2.2.2.2.2.2.1, q73.2.2.2.2.2.2.2.2.2.2.2.2.2.2.1, q73.2.2.2.2.2.2.2.2.2.2.2.2.2.2.2.1, (upd q73.2.2.2.2.2.2.2.2.2.2.2.2.2.2.2.2.1 (v1 + 2).toNatClampNeg q73.1), q73.2.2.2.2.2.2.2.2.2.2.2.2.2.2.2.2.2)) H := hP
          replace hD : va_D A (modW g a (q73.2.1, q73.2.2.1, q73.2.2.2.1, q73.2.2.2.2.1, q73.2.2.2.2.2.1, q73.2.2.2.2.2.2.1, q73.2.2.2.2.2.2.2.1, q73.2.2.2.2.2.2.2.2.1, q73.2.2.2.2.2.2.2.2.2.1, q73.2.2.2.2.2.2.2.2.2.2.1, q73.2.2.2.2.2.2.2.2.2.2.2.1, q73.2.2.2.2.2.2.2.2.2.2.2.2.1, q73.2.2.2.2.2.2.2.2.2.2.2.2.2.1, q73.2.2.2.2.2.2.2.2.2.2.2.2.2.2.1, q73.2.2.2.2.2.2.2.2.2.2.2.2.2.2.2.1, (upd q73.2.2.2.2.2.2.2.2.2.2.2.2.2.2.2.2.1 (v1 + 2).toNatClampNeg q73.1), q73.2.2.2.2.2.2.2.2.2.2.2.2.2.2.2.2.2)) := pq_adr hD (ad_X7 _ _)
          refine lv_goto (tgt := 330) hx hb dX7_command_234 (by decide) ?_
          exact hend _ _ _ _ dX7_command_330 (by rw [← Option.some.inj hf]; exact hP) hS
        replace hf := pq_ifn h71 hf
        by_cases h75 : v2 = 109
        · replace hf := pq_ifp h75 hf
          refine lv_tableIn (off := 93) (tgt := 237) hx hb dX7_command_144 (by rw [h75]; decide) (by rw [h75]; decide) (by rw [h75]; rfl) (by decide) ?_
          refine lv_aload_n hx hb dX7_command_237 rfl (lv_at hl 0 rfl) ?_
          refine pq_get S hK hP inX7 0 rfl rfl 15 (by decide) fl_X7_24 rfl (v := .ref (a 4)) rfl dX7_command_238 ?_
          refine lv_iload_n hx hb dX7_command_241 rfl (lv_at hl 1 rfl) ?_
          refine lv_iconst (v := 2) hx hb dX7_command_242 (by decide) ?_
          refine lv_iadd hx hb dX7_command_243 ?_
          refine lv_aload_n hx hb dX7_command_244 rfl (lv_at hl 0 rfl) ?_
          refine lv_bipush (v := 62) hx hb dX7_command_245 (by decide) ?_
          obtain ⟨q77, e76, hf⟩ := pq_bind hf
          refine pq_cVi S (c_X7_behind l g a (q69.2.1, q69.2.2.1, q69.2.2.2.1, q69.2.2.2.2.1, q69.2.2.2.2.2.1, q69.2.2.2.2.2.2.1, q69.2.2.2.2.2.2.2.1, q69.2.2.2.2.2.2.2.2.1, q69.2.2.2.2.2.2.2.2.2.1, q69.2.2.2.2.2.2.2.2.2.2.1, q69.2.2.2.2.2.2.2.2.2.2.2.1, q69.2.2.2.2.2.2.2.2.2.2.2.2.1, q69.2.2.2.2.2.2.2.2.2.2.2.2.2.1, q69.2.2.2.2.2.2.2.2.2.2.2.2.2.2.1, q69.2.2.2.2.2.2.2.2.2.2.2.2.2.2.2.1, (upd q69.2.2.2.2.2.2.2.2.2.2.2.2.2.2.2.2.1 (v1 + 1).toNatClampNeg q69.1), q69.2.2.2.2.2.2.2.2.2.2.2.2.2.2.2.2.2) 62 q77.1 q77.2 e76) vv_X7_235 hK hP hD hS hA rfl rfl rfl rfl rfl hl.1 (Nat.le_of_ble_eq_true rfl) dX7_command_247 (by decide) (by decide) ⟨Nat.le_refl _, Nat.le_refl _⟩ (fun H9 locs hk hP1 hS => ?_)
          replace hP := hP1
          replace hP : va_P g.1 pq_cl (modW g a q77.2) H9 := hP
          replace hD : va_D A (modW g a q77.2) := pq_adr hD (ad_X7 _ _)
          clear hk
          generalize H9 = H at hP hS ⊢
          by_cases h78 : ((v1 + 2) < 0 ∨ 366 ≤ (v1 + 2).toNatClampNeg)
          · exact absurd (pq_ifp h78 hf) (fun h9 => by cases h9)
          replace hf := pq_ifn h78 hf
          refine va_iast hx hb hK.1 hP hD hS 4 0 rfl rfl h78 dX7_command_250 (fun H locs hP _ hS => ?_)
          replace hP : va_P g.1 pq_cl (modW g a (q77.2.1, q77.2.2.1, q77.2.2.2.1, q77.2.2.2.2.1, q77.2.2.2.2.2.1, q77.2.2.2.2.2.2.1, q77.2.2.2.2.2.2.2.1, q77.2.2.2.2.2.2.2.2.1, q77.2.2.2.2.2.2.2.2.2.1, q77.2.2.2.2.2.2.2.2.2.2.1, q77.2.2.2.2.2.2.2.2.2.2.2.1, q77.2.2.2.2.2.2.2.2.2.2.2.2.1, q77.2.2.2.2.2.2.2.2.2.2.2.2.2.1, q77.2.2.2.2.2.2.2.2.2.2.2.2.2.2.1, q77.2.2.2.2.2.2.2.2.2.2.2.2.2.2.2.1, (upd q77.2.2.2.2.2.2.2.2.2.2.2.2.2.2.2.2.1 (v1 + 2).toNatClampNeg q77.1), q77.2.2.2.2.2.2.2.2.2.2.2.2.2.2.2.2.2)) H := hP
          replace hD : va_D A (modW g a (q77.2.1, q77.2.2.1, q77.2.2.2.1, q77.2.2.2.2.1, q77.2.2.2.2.2.1, q77.2.2.2.2.2.2.1, q77.2.2.2.2.2.2.2.1, q77.2.2.2.2.2.2.2.2.1, q77.2.2.2.2.2.2.2.2.2.1, q77.2.2.2.2.2.2.2.2.2.2.1, q77.2.2.2.2.2.2.2.2.2.2.2.1, q77.2.2.2.2.2.2.2.2.2.2.2.2.1, q77.2.2.2.2.2.2.2.2.2.2.2.2.2.1, q77.2.2.2.2.2.2.2.2.2.2.2.2.2.2.1, q77.2.2.2.2.2.2.2.2.2.2.2.2.2.2.2.1, (upd q77.2.2.2.2.2.2.2.2.2.2.2.2.2.2.2.2.1 (v1 + 2).toNatClampNeg q77.1), q77.2.2.2.2.2.2.2.2.2.2.2.2.2.2.2.2.2)) := pq_adr hD (ad_X7 _ _)
          refine lv_goto (tgt := 330) hx hb dX7_command_251 (by decide) ?_
          exact hend _ _ _ _ dX7_command_330 (by rw [← Option.some.inj hf]; exact hP) hS
        replace hf := pq_ifn h75 hf
        by_cases h79 : v2 = 112
        · replace hf := pq_ifp h79 hf
          refine lv_tableIn (off := 76) (tgt := 220) hx hb dX7_command_144 (by rw [h79]; decide) (by rw [h79]; decide) (by rw [h79]; rfl) (by decide) ?_
          refine lv_aload_n hx hb dX7_command_220 rfl (lv_at hl 0 rfl) ?_
          refine pq_get S hK hP inX7 0 rfl rfl 15 (by decide) fl_X7_24 rfl (v := .ref (a 4)) rfl dX7_command_221 ?_
          refine lv_iload_n hx hb dX7_command_224 rfl (lv_at hl 1 rfl) ?_
          refine lv_iconst (v := 2) hx hb dX7_command_225 (by decide) ?_
          refine lv_iadd hx hb dX7_command_226 ?_
          refine lv_aload_n hx hb dX7_command_227 rfl (lv_at hl 0 rfl) ?_
          refine lv_bipush (v := 58) hx hb dX7_command_228 (by decide) ?_
          obtain ⟨q81, e80, hf⟩ := pq_bind hf
          refine pq_cVi S (c_X7_behind l g a (q69.2.1, q69.2.2.1, q69.2.2.2.1, q69.2.2.2.2.1, q69.2.2.2.2.2.1, q69.2.2.2.2.2.2.1, q69.2.2.2.2.2.2.2.1, q69.2.2.2.2.2.2.2.2.1, q69.2.2.2.2.2.2.2.2.2.1, q69.2.2.2.2.2.2.2.2.2.2.1, q69.2.2.2.2.2.2.2.2.2.2.2.1, q69.2.2.2.2.2.2.2.2.2.2.2.2.1, q69.2.2.2.2.2.2.2.2.2.2.2.2.2.1, q69.2.2.2.2.2.2.2.2.2.2.2.2.2.2.1, q69.2.2.2.2.2.2.2.2.2.2.2.2.2.2.2.1, (upd q69.2.2.2.2.2.2.2.2.2.2.2.2.2.2.2.2.1 (v1 + 1).toNatClampNeg q69.1), q69.2.2.2.2.2.2.2.2.2.2.2.2.2.2.2.2.2) 58 q81.1 q81.2 e80) vv_X7_235 hK hP hD hS hA rfl rfl rfl rfl rfl hl.1 (Nat.le_of_ble_eq_true rfl) dX7_command_230 (by decide) (by decide) ⟨Nat.le_refl _, Nat.le_refl _⟩ (fun H9 locs hk hP1 hS => ?_)
          replace hP := hP1
          replace hP : va_P g.1 pq_cl (modW g a q81.2) H9 := hP
          replace hD : va_D A (modW g a q81.2) := pq_adr hD (ad_X7 _ _)
          clear hk
          generalize H9 = H at hP hS ⊢
          by_cases h82 : ((v1 + 2) < 0 ∨ 366 ≤ (v1 + 2).toNatClampNeg)
          · exact absurd (pq_ifp h82 hf) (fun h9 => by cases h9)
          replace hf := pq_ifn h82 hf
          refine va_iast hx hb hK.1 hP hD hS 4 0 rfl rfl h82 dX7_command_233 (fun H locs hP _ hS => ?_)
          replace hP : va_P g.1 pq_cl (modW g a (q81.2.1, q81.2.2.1, q81.2.2.2.1, q81.2.2.2.2.1, q81.2.2.2.2.2.1, q81.2.2.2.2.2.2.1, q81.2.2.2.2.2.2.2.1, q81.2.2.2.2.2.2.2.2.1, q81.2.2.2.2.2.2.2.2.2.1, q81.2.2.2.2.2.2.2.2.2.2.1, q81.2.2.2.2.2.2.2.2.2.2.2.1, q81.2.2.2.2.2.2.2.2.2.2.2.2.1, q81.2.2.2.2.2.2.2.2.2.2.2.2.2.1, q81.2.2.2.2.2.2.2.2.2.2.2.2.2.2.1, q81.2.2.2.2.2.2.2.2.2.2.2.2.2.2.2.1, (upd q81.2.2.2.2.2.2.2.2.2.2.2.2.2.2.2.2.1 (v1 + 2).toNatClampNeg q81.1), q81.2.2.2.2.2.2.2.2.2.2.2.2.2.2.2.2.2)) H := hP
          replace hD : va_D A (modW g a (q81.2.1, q81.2.2.1, q81.2.2.2.1, q81.2.2.2.2.1, q81.2.2.2.2.2.1, q81.2.2.2.2.2.2.1, q81.2.2.2.2.2.2.2.1, q81.2.2.2.2.2.2.2.2.1, q81.2.2.2.2.2.2.2.2.2.1, q81.2.2.2.2.2.2.2.2.2.2.1, q81.2.2.2.2.2.2.2.2.2.2.2.1, q81.2.2.2.2.2.2.2.2.2.2.2.2.1, q81.2.2.2.2.2.2.2.2.2.2.2.2.2.1, q81.2.2.2.2.2.2.2.2.2.2.2.2.2.2.1, q81.2.2.2.2.2.2.2.2.2.2.2.2.2.2.2.1, (upd q81.2.2.2.2.2.2.2.2.2.2.2.2.2.2.2.2.1 (v1 + 2).toNatClampNeg q81.1), q81.2.2.2.2.2.2.2.2.2.2.2.2.2.2.2.2.2)) := pq_adr hD (ad_X7 _ _)
          refine lv_goto (tgt := 330) hx hb dX7_command_234 (by decide) ?_
          exact hend _ _ _ _ dX7_command_330 (by rw [← Option.some.inj hf]; exact hP) hS
        replace hf := pq_ifn h79 hf
        by_cases h83 : v2 = 114
        · replace hf := pq_ifp h83 hf
          refine lv_tableIn (off := 110) (tgt := 254) hx hb dX7_command_144 (by rw [h83]; decide) (by rw [h83]; decide) (by rw [h83]; rfl) (by decide) ?_
          refine lv_aload_n hx hb dX7_command_254 rfl (lv_at hl 0 rfl) ?_
          refine pq_get S hK hP inX7 0 rfl rfl 15 (by decide) fl_X7_24 rfl (v := .ref (a 4)) rfl dX7_command_255 ?_
          refine lv_iload_n hx hb dX7_command_258 rfl (lv_at hl 1 rfl) ?_
          refine lv_iconst (v := 2) hx hb dX7_command_259 (by decide) ?_
          refine lv_iadd hx hb dX7_command_260 ?_
          refine lv_aload_n hx hb dX7_command_261 rfl (lv_at hl 0 rfl) ?_
          refine lv_bipush (v := 45) hx hb dX7_command_262 (by decide) ?_
          obtain ⟨q85, e84, hf⟩ := pq_bind hf
          refine pq_cVi S (c_X7_behind l g a (q69.2.1, q69.2.2.1, q69.2.2.2.1, q69.2.2.2.2.1, q69.2.2.2.2.2.1, q69.2.2.2.2.2.2.1, q69.2.2.2.2.2.2.2.1, q69.2.2.2.2.2.2.2.2.1, q69.2.2.2.2.2.2.2.2.2.1, q69.2.2.2.2.2.2.2.2.2.2.1, q69.2.2.2.2.2.2.2.2.2.2.2.1, q69.2.2.2.2.2.2.2.2.2.2.2.2.1, q69.2.2.2.2.2.2.2.2.2.2.2.2.2.1, q69.2.2.2.2.2.2.2.2.2.2.2.2.2.2.1, q69.2.2.2.2.2.2.2.2.2.2.2.2.2.2.2.1, (upd q69.2.2.2.2.2.2.2.2.2.2.2.2.2.2.2.2.1 (v1 + 1).toNatClampNeg q69.1), q69.2.2.2.2.2.2.2.2.2.2.2.2.2.2.2.2.2) 45 q85.1 q85.2 e84) vv_X7_235 hK hP hD hS hA rfl rfl rfl rfl rfl hl.1 (Nat.le_of_ble_eq_true rfl) dX7_command_264 (by decide) (by decide) ⟨Nat.le_refl _, Nat.le_refl _⟩ (fun H9 locs hk hP1 hS => ?_)
          replace hP := hP1
          replace hP : va_P g.1 pq_cl (modW g a q85.2) H9 := hP
          replace hD : va_D A (modW g a q85.2) := pq_adr hD (ad_X7 _ _)
          clear hk
          generalize H9 = H at hP hS ⊢
          by_cases h86 : ((v1 + 2) < 0 ∨ 366 ≤ (v1 + 2).toNatClampNeg)
          · exact absurd (pq_ifp h86 hf) (fun h9 => by cases h9)
          replace hf := pq_ifn h86 hf
          refine va_iast hx hb hK.1 hP hD hS 4 0 rfl rfl h86 dX7_command_267 (fun H locs hP _ hS => ?_)
          replace hP : va_P g.1 pq_cl (modW g a (q85.2.1, q85.2.2.1, q85.2.2.2.1, q85.2.2.2.2.1, q85.2.2.2.2.2.1, q85.2.2.2.2.2.2.1, q85.2.2.2.2.2.2.2.1, q85.2.2.2.2.2.2.2.2.1, q85.2.2.2.2.2.2.2.2.2.1, q85.2.2.2.2.2.2.2.2.2.2.1, q85.2.2.2.2.2.2.2.2.2.2.2.1, q85.2.2.2.2.2.2.2.2.2.2.2.2.1, q85.2.2.2.2.2.2.2.2.2.2.2.2.2.1, q85.2.2.2.2.2.2.2.2.2.2.2.2.2.2.1, q85.2.2.2.2.2.2.2.2.2.2.2.2.2.2.2.1, (upd q85.2.2.2.2.2.2.2.2.2.2.2.2.2.2.2.2.1 (v1 + 2).toNatClampNeg q85.1), q85.2.2.2.2.2.2.2.2.2.2.2.2.2.2.2.2.2)) H := hP
          replace hD : va_D A (modW g a (q85.2.1, q85.2.2.1, q85.2.2.2.1, q85.2.2.2.2.1, q85.2.2.2.2.2.1, q85.2.2.2.2.2.2.1, q85.2.2.2.2.2.2.2.1, q85.2.2.2.2.2.2.2.2.1, q85.2.2.2.2.2.2.2.2.2.1, q85.2.2.2.2.2.2.2.2.2.2.1, q85.2.2.2.2.2.2.2.2.2.2.2.1, q85.2.2.2.2.2.2.2.2.2.2.2.2.1, q85.2.2.2.2.2.2.2.2.2.2.2.2.2.1, q85.2.2.2.2.2.2.2.2.2.2.2.2.2.2.1, q85.2.2.2.2.2.2.2.2.2.2.2.2.2.2.2.1, (upd q85.2.2.2.2.2.2.2.2.2.2.2.2.2.2.2.2.1 (v1 + 2).toNatClampNeg q85.1), q85.2.2.2.2.2.2.2.2.2.2.2.2.2.2.2.2.2)) := pq_adr hD (ad_X7 _ _)
          refine lv_goto (tgt := 330) hx hb dX7_command_268 (by decide) ?_
          exact hend _ _ _ _ dX7_command_330 (by rw [← Option.some.inj hf]; exact hP) hS
        replace hf := pq_ifn h83 hf
        by_cases h87 : v2 = 119
        · replace hf := pq_ifp h87 hf
          refine lv_tableIn (off := 127) (tgt := 271) hx hb dX7_command_144 (by rw [h87]; decide) (by rw [h87]; decide) (by rw [h87]; rfl) (by decide) ?_
          refine lv_aload_n hx hb dX7_command_271 rfl (lv_at hl 0 rfl) ?_
          refine pq_get S hK hP inX7 0 rfl rfl 15 (by decide) fl_X7_24 rfl (v := .ref (a 4)) rfl dX7_command_272 ?_
          refine lv_iload_n hx hb dX7_command_275 rfl (lv_at hl 1 rfl) ?_
          refine lv_iconst (v := 2) hx hb dX7_command_276 (by decide) ?_
          refine lv_iadd hx hb dX7_command_277 ?_
          refine lv_aload_n hx hb dX7_command_278 rfl (lv_at hl 0 rfl) ?_
          refine lv_bipush (v := 61) hx hb dX7_command_279 (by decide) ?_
          obtain ⟨q89, e88, hf⟩ := pq_bind hf
          refine pq_cVi S (c_X7_behind l g a (q69.2.1, q69.2.2.1, q69.2.2.2.1, q69.2.2.2.2.1, q69.2.2.2.2.2.1, q69.2.2.2.2.2.2.1, q69.2.2.2.2.2.2.2.1, q69.2.2.2.2.2.2.2.2.1, q69.2.2.2.2.2.2.2.2.2.1, q69.2.2.2.2.2.2.2.2.2.2.1, q69.2.2.2.2.2.2.2.2.2.2.2.1, q69.2.2.2.2.2.2.2.2.2.2.2.2.1, q69.2.2.2.2.2.2.2.2.2.2.2.2.2.1, q69.2.2.2.2.2.2.2.2.2.2.2.2.2.2.1, q69.2.2.2.2.2.2.2.2.2.2.2.2.2.2.2.1, (upd q69.2.2.2.2.2.2.2.2.2.2.2.2.2.2.2.2.1 (v1 + 1).toNatClampNeg q69.1), q69.2.2.2.2.2.2.2.2.2.2.2.2.2.2.2.2.2) 61 q89.1 q89.2 e88) vv_X7_235 hK hP hD hS hA rfl rfl rfl rfl rfl hl.1 (Nat.le_of_ble_eq_true rfl) dX7_command_281 (by decide) (by decide) ⟨Nat.le_refl _, Nat.le_refl _⟩ (fun H9 locs hk hP1 hS => ?_)
          replace hP := hP1
          replace hP : va_P g.1 pq_cl (modW g a q89.2) H9 := hP
          replace hD : va_D A (modW g a q89.2) := pq_adr hD (ad_X7 _ _)
          clear hk
          generalize H9 = H at hP hS ⊢
          by_cases h90 : ((v1 + 2) < 0 ∨ 366 ≤ (v1 + 2).toNatClampNeg)
          · exact absurd (pq_ifp h90 hf) (fun h9 => by cases h9)
          replace hf := pq_ifn h90 hf
          refine va_iast hx hb hK.1 hP hD hS 4 0 rfl rfl h90 dX7_command_284 (fun H locs hP _ hS => ?_)
          replace hP : va_P g.1 pq_cl (modW g a (q89.2.1, q89.2.2.1, q89.2.2.2.1, q89.2.2.2.2.1, q89.2.2.2.2.2.1, q89.2.2.2.2.2.2.1, q89.2.2.2.2.2.2.2.1, q89.2.2.2.2.2.2.2.2.1, q89.2.2.2.2.2.2.2.2.2.1, q89.2.2.2.2.2.2.2.2.2.2.1, q89.2.2.2.2.2.2.2.2.2.2.2.1, q89.2.2.2.2.2.2.2.2.2.2.2.2.1, q89.2.2.2.2.2.2.2.2.2.2.2.2.2.1, q89.2.2.2.2.2.2.2.2.2.2.2.2.2.2.1, q89.2.2.2.2.2.2.2.2.2.2.2.2.2.2.2.1, (upd q89.2.2.2.2.2.2.2.2.2.2.2.2.2.2.2.2.1 (v1 + 2).toNatClampNeg q89.1), q89.2.2.2.2.2.2.2.2.2.2.2.2.2.2.2.2.2)) H := hP
          replace hD : va_D A (modW g a (q89.2.1, q89.2.2.1, q89.2.2.2.1, q89.2.2.2.2.1, q89.2.2.2.2.2.1, q89.2.2.2.2.2.2.1, q89.2.2.2.2.2.2.2.1, q89.2.2.2.2.2.2.2.2.1, q89.2.2.2.2.2.2.2.2.2.1, q89.2.2.2.2.2.2.2.2.2.2.1, q89.2.2.2.2.2.2.2.2.2.2.2.1, q89.2.2.2.2.2.2.2.2.2.2.2.2.1, q89.2.2.2.2.2.2.2.2.2.2.2.2.2.1, q89.2.2.2.2.2.2.2.2.2.2.2.2.2.2.1, q89.2.2.2.2.2.2.2.2.2.2.2.2.2.2.2.1, (upd q89.2.2.2.2.2.2.2.2.2.2.2.2.2.2.2.2.1 (v1 + 2).toNatClampNeg q89.1), q89.2.2.2.2.2.2.2.2.2.2.2.2.2.2.2.2.2)) := pq_adr hD (ad_X7 _ _)
          refine lv_aload_n hx hb dX7_command_285 rfl (lv_at hl 0 rfl) ?_
          refine pq_get S hK hP inX7 0 rfl rfl 15 (by decide) fl_X7_24 rfl (v := .ref (a 4)) rfl dX7_command_286 ?_
          refine lv_iload_n hx hb dX7_command_289 rfl (lv_at hl 1 rfl) ?_
          refine lv_iconst (v := 3) hx hb dX7_command_290 (by decide) ?_
          refine lv_iadd hx hb dX7_command_291 ?_
          refine lv_aload_n hx hb dX7_command_292 rfl (lv_at hl 0 rfl) ?_
          refine lv_bipush (v := 45) hx hb dX7_command_293 (by decide) ?_
          obtain ⟨q92, e91, hf⟩ := pq_bind hf
          refine pq_cVi S (c_X7_behind l g a (q89.2.1, q89.2.2.1, q89.2.2.2.1, q89.2.2.2.2.1, q89.2.2.2.2.2.1, q89.2.2.2.2.2.2.1, q89.2.2.2.2.2.2.2.1, q89.2.2.2.2.2.2.2.2.1, q89.2.2.2.2.2.2.2.2.2.1, q89.2.2.2.2.2.2.2.2.2.2.1, q89.2.2.2.2.2.2.2.2.2.2.2.1, q89.2.2.2.2.2.2.2.2.2.2.2.2.1, q89.2.2.2.2.2.2.2.2.2.2.2.2.2.1, q89.2.2.2.2.2.2.2.2.2.2.2.2.2.2.1, q89.2.2.2.2.2.2.2.2.2.2.2.2.2.2.2.1, (upd q89.2.2.2.2.2.2.2.2.2.2.2.2.2.2.2.2.1 (v1 + 2).toNatClampNeg q89.1), q89.2.2.2.2.2.2.2.2.2.2.2.2.2.2.2.2.2) 45 q92.1 q92.2 e91) vv_X7_235 hK hP hD hS hA rfl rfl rfl rfl rfl hl.1 (Nat.le_of_ble_eq_true rfl) dX7_command_295 (by decide) (by decide) ⟨Nat.le_refl _, Nat.le_refl _⟩ (fun H9 locs hk hP1 hS => ?_)
          replace hP := hP1
          replace hP : va_P g.1 pq_cl (modW g a q92.2) H9 := hP
          replace hD : va_D A (modW g a q92.2) := pq_adr hD (ad_X7 _ _)
          clear hk
          generalize H9 = H at hP hS ⊢
          by_cases h93 : ((v1 + 3) < 0 ∨ 366 ≤ (v1 + 3).toNatClampNeg)
          · exact absurd (pq_ifp h93 hf) (fun h9 => by cases h9)
          replace hf := pq_ifn h93 hf
          refine va_iast hx hb hK.1 hP hD hS 4 0 rfl rfl h93 dX7_command_298 (fun H locs hP _ hS => ?_)
          replace hP : va_P g.1 pq_cl (modW g a (q92.2.1, q92.2.2.1, q92.2.2.2.1, q92.2.2.2.2.1, q92.2.2.2.2.2.1, q92.2.2.2.2.2.2.1, q92.2.2.2.2.2.2.2.1, q92.2.2.2.2.2.2.2.2.1, q92.2.2.2.2.2.2.2.2.2.1, q92.2.2.2.2.2.2.2.2.2.2.1, q92.2.2.2.2.2.2.2.2.2.2.2.1, q92.2.2.2.2.2.2.2.2.2.2.2.2.1, q92.2.2.2.2.2.2.2.2.2.2.2.2.2.1, q92.2.2.2.2.2.2.2.2.2.2.2.2.2.2.1, q92.2.2.2.2.2.2.2.2.2.2.2.2.2.2.2.1, (upd q92.2.2.2.2.2.2.2.2.2.2.2.2.2.2.2.2.1 (v1 + 3).toNatClampNeg q92.1), q92.2.2.2.2.2.2.2.2.2.2.2.2.2.2.2.2.2)) H := hP
          replace hD : va_D A (modW g a (q92.2.1, q92.2.2.1, q92.2.2.2.1, q92.2.2.2.2.1, q92.2.2.2.2.2.1, q92.2.2.2.2.2.2.1, q92.2.2.2.2.2.2.2.1, q92.2.2.2.2.2.2.2.2.1, q92.2.2.2.2.2.2.2.2.2.1, q92.2.2.2.2.2.2.2.2.2.2.1, q92.2.2.2.2.2.2.2.2.2.2.2.1, q92.2.2.2.2.2.2.2.2.2.2.2.2.1, q92.2.2.2.2.2.2.2.2.2.2.2.2.2.1, q92.2.2.2.2.2.2.2.2.2.2.2.2.2.2.1, q92.2.2.2.2.2.2.2.2.2.2.2.2.2.2.2.1, (upd q92.2.2.2.2.2.2.2.2.2.2.2.2.2.2.2.2.1 (v1 + 3).toNatClampNeg q92.1), q92.2.2.2.2.2.2.2.2.2.2.2.2.2.2.2.2.2)) := pq_adr hD (ad_X7 _ _)
          refine lv_aload_n hx hb dX7_command_299 rfl (lv_at hl 0 rfl) ?_
          refine pq_get S hK hP inX7 0 rfl rfl 15 (by decide) fl_X7_24 rfl (v := .ref (a 4)) rfl dX7_command_300 ?_
          refine lv_iload_n hx hb dX7_command_303 rfl (lv_at hl 1 rfl) ?_
          refine lv_iconst (v := 4) hx hb dX7_command_304 (by decide) ?_
          refine lv_iadd hx hb dX7_command_305 ?_
          refine lv_aload_n hx hb dX7_command_306 rfl (lv_at hl 0 rfl) ?_
          refine lv_bipush (v := 94) hx hb dX7_command_307 (by decide) ?_
          obtain ⟨q95, e94, hf⟩ := pq_bind hf
          refine pq_cVi S (c_X7_behind l g a (q92.2.1, q92.2.2.1, q92.2.2.2.1, q92.2.2.2.2.1, q92.2.2.2.2.2.1, q92.2.2.2.2.2.2.1, q92.2.2.2.2.2.2.2.1, q92.2.2.2.2.2.2.2.2.1, q92.2.2.2.2.2.2.2.2.2.1, q92.2.2.2.2.2.2.2.2.2.2.1, q92.2.2.2.2.2.2.2.2.2.2.2.1, q92.2.2.2.2.2.2.2.2.2.2.2.2.1, q92.2.2.2.2.2.2.2.2.2.2.2.2.2.1, q92.2.2.2.2.2.2.2.2.2.2.2.2.2.2.1, q92.2.2.2.2.2.2.2.2.2.2.2.2.2.2.2.1, (upd q92.2.2.2.2.2.2.2.2.2.2.2.2.2.2.2.2.1 (v1 + 3).toNatClampNeg q92.1), q92.2.2.2.2.2.2.2.2.2.2.2.2.2.2.2.2.2) 94 q95.1 q95.2 e94) vv_X7_235 hK hP hD hS hA rfl rfl rfl rfl rfl hl.1 (Nat.le_of_ble_eq_true rfl) dX7_command_309 (by decide) (by decide) ⟨Nat.le_refl _, Nat.le_refl _⟩ (fun H9 locs hk hP1 hS => ?_)
          replace hP := hP1
          replace hP : va_P g.1 pq_cl (modW g a q95.2) H9 := hP
          replace hD : va_D A (modW g a q95.2) := pq_adr hD (ad_X7 _ _)
          clear hk
          generalize H9 = H at hP hS ⊢
          by_cases h96 : ((v1 + 4) < 0 ∨ 366 ≤ (v1 + 4).toNatClampNeg)
          · exact absurd (pq_ifp h96 hf) (fun h9 => by cases h9)
          replace hf := pq_ifn h96 hf
          refine va_iast hx hb hK.1 hP hD hS 4 0 rfl rfl h96 dX7_command_312 (fun H locs hP _ hS => ?_)
          replace hP : va_P g.1 pq_cl (modW g a (q95.2.1, q95.2.2.1, q95.2.2.2.1, q95.2.2.2.2.1, q95.2.2.2.2.2.1, q95.2.2.2.2.2.2.1, q95.2.2.2.2.2.2.2.1, q95.2.2.2.2.2.2.2.2.1, q95.2.2.2.2.2.2.2.2.2.1, q95.2.2.2.2.2.2.2.2.2.2.1, q95.2.2.2.2.2.2.2.2.2.2.2.1, q95.2.2.2.2.2.2.2.2.2.2.2.2.1, q95.2.2.2.2.2.2.2.2.2.2.2.2.2.1, q95.2.2.2.2.2.2.2.2.2.2.2.2.2.2.1, q95.2.2.2.2.2.2.2.2.2.2.2.2.2.2.2.1, (upd q95.2.2.2.2.2.2.2.2.2.2.2.2.2.2.2.2.1 (v1 + 4).toNatClampNeg q95.1), q95.2.2.2.2.2.2.2.2.2.2.2.2.2.2.2.2.2)) H := hP
          replace hD : va_D A (modW g a (q95.2.1, q95.2.2.1, q95.2.2.2.1, q95.2.2.2.2.1, q95.2.2.2.2.2.1, q95.2.2.2.2.2.2.1, q95.2.2.2.2.2.2.2.1, q95.2.2.2.2.2.2.2.2.1, q95.2.2.2.2.2.2.2.2.2.1, q95.2.2.2.2.2.2.2.2.2.2.1, q95.2.2.2.2.2.2.2.2.2.2.2.1, q95.2.2.2.2.2.2.2.2.2.2.2.2.1, q95.2.2.2.2.2.2.2.2.2.2.2.2.2.1, q95.2.2.2.2.2.2.2.2.2.2.2.2.2.2.1, q95.2.2.2.2.2.2.2.2.2.2.2.2.2.2.2.1, (upd q95.2.2.2.2.2.2.2.2.2.2.2.2.2.2.2.2.1 (v1 + 4).toNatClampNeg q95.1), q95.2.2.2.2.2.2.2.2.2.2.2.2.2.2.2.2.2)) := pq_adr hD (ad_X7 _ _)
          refine lv_aload_n hx hb dX7_command_313 rfl (lv_at hl 0 rfl) ?_
          refine pq_get S hK hP inX7 0 rfl rfl 15 (by decide) fl_X7_24 rfl (v := .ref (a 4)) rfl dX7_command_314 ?_
          refine lv_iload_n hx hb dX7_command_317 rfl (lv_at hl 1 rfl) ?_
          refine lv_iconst (v := 5) hx hb dX7_command_318 (by decide) ?_
          refine lv_iadd hx hb dX7_command_319 ?_
          refine lv_aload_n hx hb dX7_command_320 rfl (lv_at hl 0 rfl) ?_
          refine lv_bipush (v := 47) hx hb dX7_command_321 (by decide) ?_
          obtain ⟨q98, e97, hf⟩ := pq_bind hf
          refine pq_cVi S (c_X7_behind l g a (q95.2.1, q95.2.2.1, q95.2.2.2.1, q95.2.2.2.2.1, q95.2.2.2.2.2.1, q95.2.2.2.2.2.2.1, q95.2.2.2.2.2.2.2.1, q95.2.2.2.2.2.2.2.2.1, q95.2.2.2.2.2.2.2.2.2.1, q95.2.2.2.2.2.2.2.2.2.2.1, q95.2.2.2.2.2.2.2.2.2.2.2.1, q95.2.2.2.2.2.2.2.2.2.2.2.2.1, q95.2.2.2.2.2.2.2.2.2.2.2.2.2.1, q95.2.2.2.2.2.2.2.2.2.2.2.2.2.2.1, q95.2.2.2.2.2.2.2.2.2.2.2.2.2.2.2.1, (upd q95.2.2.2.2.2.2.2.2.2.2.2.2.2.2.2.2.1 (v1 + 4).toNatClampNeg q95.1), q95.2.2.2.2.2.2.2.2.2.2.2.2.2.2.2.2.2) 47 q98.1 q98.2 e97) vv_X7_235 hK hP hD hS hA rfl rfl rfl rfl rfl hl.1 (Nat.le_of_ble_eq_true rfl) dX7_command_323 (by decide) (by decide) ⟨Nat.le_refl _, Nat.le_refl _⟩ (fun H9 locs hk hP1 hS => ?_)
          replace hP := hP1
          replace hP : va_P g.1 pq_cl (modW g a q98.2) H9 := hP
          replace hD : va_D A (modW g a q98.2) := pq_adr hD (ad_X7 _ _)
          clear hk
          generalize H9 = H at hP hS ⊢
          by_cases h99 : ((v1 + 5) < 0 ∨ 366 ≤ (v1 + 5).toNatClampNeg)
          · exact absurd (pq_ifp h99 hf) (fun h9 => by cases h9)
          replace hf := pq_ifn h99 hf
          refine va_iast hx hb hK.1 hP hD hS 4 0 rfl rfl h99 dX7_command_326 (fun H locs hP _ hS => ?_)
          replace hP : va_P g.1 pq_cl (modW g a (q98.2.1, q98.2.2.1, q98.2.2.2.1, q98.2.2.2.2.1, q98.2.2.2.2.2.1, q98.2.2.2.2.2.2.1, q98.2.2.2.2.2.2.2.1, q98.2.2.2.2.2.2.2.2.1, q98.2.2.2.2.2.2.2.2.2.1, q98.2.2.2.2.2.2.2.2.2.2.1, q98.2.2.2.2.2.2.2.2.2.2.2.1, q98.2.2.2.2.2.2.2.2.2.2.2.2.1, q98.2.2.2.2.2.2.2.2.2.2.2.2.2.1, q98.2.2.2.2.2.2.2.2.2.2.2.2.2.2.1, q98.2.2.2.2.2.2.2.2.2.2.2.2.2.2.2.1, (upd q98.2.2.2.2.2.2.2.2.2.2.2.2.2.2.2.2.1 (v1 + 5).toNatClampNeg q98.1), q98.2.2.2.2.2.2.2.2.2.2.2.2.2.2.2.2.2)) H := hP
          replace hD : va_D A (modW g a (q98.2.1, q98.2.2.1, q98.2.2.2.1, q98.2.2.2.2.1, q98.2.2.2.2.2.1, q98.2.2.2.2.2.2.1, q98.2.2.2.2.2.2.2.1, q98.2.2.2.2.2.2.2.2.1, q98.2.2.2.2.2.2.2.2.2.1, q98.2.2.2.2.2.2.2.2.2.2.1, q98.2.2.2.2.2.2.2.2.2.2.2.1, q98.2.2.2.2.2.2.2.2.2.2.2.2.1, q98.2.2.2.2.2.2.2.2.2.2.2.2.2.1, q98.2.2.2.2.2.2.2.2.2.2.2.2.2.2.1, q98.2.2.2.2.2.2.2.2.2.2.2.2.2.2.2.1, (upd q98.2.2.2.2.2.2.2.2.2.2.2.2.2.2.2.2.1 (v1 + 5).toNatClampNeg q98.1), q98.2.2.2.2.2.2.2.2.2.2.2.2.2.2.2.2.2)) := pq_adr hD (ad_X7 _ _)
          refine lv_goto (tgt := 330) hx hb dX7_command_327 (by decide) ?_
          exact hend _ _ _ _ dX7_command_330 (by rw [← Option.some.inj hf]; exact hP) hS
        replace hf := pq_ifn h87 hf
        refine pq_tdef hx hb dX7_command_144 [105, 109, 112, 114, 119] (by intro k9 h9; simp only [List.mem_cons, List.not_mem_nil, or_false] at h9; rcases h9 with rfl | rfl | rfl | rfl | rfl <;> assumption) (by decide) (by decide) (tgt := 330) (by decide) ?_
        exact hend _ _ _ _ dX7_command_330 (by rw [← Option.some.inj hf]; exact hP) hS
  have B25 : ∀ (n25 : Nat) (T : ModS) (v1 : Int32) (v2 : Int32) (v3 : Int32) (ls : Array Slot) (H : Heap) (locs : List Loc), va_P g.1 pq_cl (modW g a T) H → va_D A (modW g a T) → va_S A s.heap H locs → lv_has ls 4 [(0, .ref (a 0)), (1, .int v1), (2, .int v2), (3, .int v3)] → f_X7_command_c25 n25 T v1 v2 v3 = some T1 → W p l e (pq_rm 4 0 0) s m ([.ref (a 0)] : List Value).toArray below meth c H locs 0 0 Q (F0 m 25 ls []) := by
    intro n25
    induction n25 with
    | zero =>
      intro T v1 v2 v3 ls H locs hP hD hS hl hf
      exact absurd hf (by simp [f_X7_command_c25])
    | succ n25 ih25 =>
      intro T v1 v2 v3 ls H locs hP hD hS hl hf
      rw [f_X7_command_c25] at hf
      refine lv_iload_n hx hb dX7_command_25 rfl (lv_at hl 3 rfl) ?_
      refine lv_bipush (v := 6) hx hb dX7_command_26 (by decide) ?_
      refine lv_icmp_ge (tgt := 46) hx hb dX7_command_28 (by decide) (fun h100 => ?_) (fun h100 => ?_)
      · replace hf := pq_ifp h100 hf
        refine lv_iload_n hx hb dX7_command_46 rfl (lv_at hl 2 rfl) ?_
        refine lv_bipush (v := 105) hx hb dX7_command_47 (by decide) ?_
        refine lv_icmp_eq (tgt := 97) hx hb dX7_command_49 (by decide) (fun h101 => ?_) (fun h101 => ?_)
        · replace hf := pq_ifp h101 hf
          exact B97 T v1 v2 ls _ _ hP hD hS (lv_sub hl [0, 1, 2] rfl) hf
        · replace hf := pq_ifn h101 hf
          refine lv_iload_n hx hb dX7_command_52 rfl (lv_at hl 2 rfl) ?_
          refine lv_bipush (v := 100) hx hb dX7_command_53 (by decide) ?_
          refine lv_icmp_eq (tgt := 97) hx hb dX7_command_55 (by decide) (fun h102 => ?_) (fun h102 => ?_)
          · replace hf := pq_ifp h102 hf
            exact B97 T v1 v2 ls _ _ hP hD hS (lv_sub hl [0, 1, 2] rfl) hf
          · replace hf := pq_ifn h102 hf
            refine lv_iload_n hx hb dX7_command_58 rfl (lv_at hl 2 rfl) ?_
            refine lv_bipush (v := 112) hx hb dX7_command_59 (by decide) ?_
            refine lv_icmp_eq (tgt := 97) hx hb dX7_command_61 (by decide) (fun h103 => ?_) (fun h103 => ?_)
            · replace hf := pq_ifp h103 hf
              exact B97 T v1 v2 ls _ _ hP hD hS (lv_sub hl [0, 1, 2] rfl) hf
            · replace hf := pq_ifn h103 hf
              refine lv_iload_n hx hb dX7_command_64 rfl (lv_at hl 2 rfl) ?_
              refine lv_bipush (v := 109) hx hb dX7_command_65 (by decide) ?_
              refine lv_icmp_eq (tgt := 97) hx hb dX7_command_67 (by decide) (fun h104 => ?_) (fun h104 => ?_)
              · replace hf := pq_ifp h104 hf
                exact B97 T v1 v2 ls _ _ hP hD hS (lv_sub hl [0, 1, 2] rfl) hf
              · replace hf := pq_ifn h104 hf
                refine lv_iload_n hx hb dX7_command_70 rfl (lv_at hl 2 rfl) ?_
                refine lv_bipush (v := 114) hx hb dX7_command_71 (by decide) ?_
                refine lv_icmp_eq (tgt := 97) hx hb dX7_command_73 (by decide) (fun h105 => ?_) (fun h105 => ?_)
                · replace hf := pq_ifp h105 hf
                  exact B97 T v1 v2 ls _ _ hP hD hS (lv_sub hl [0, 1, 2] rfl) hf
                · replace hf := pq_ifn h105 hf
                  refine lv_iload_n hx hb dX7_command_76 rfl (lv_at hl 2 rfl) ?_
                  refine lv_bipush (v := 119) hx hb dX7_command_77 (by decide) ?_
                  refine lv_icmp_eq (tgt := 97) hx hb dX7_command_79 (by decide) (fun h106 => ?_) (fun h106 => ?_)
                  · replace hf := pq_ifp h106 hf
                    exact B97 T v1 v2 ls _ _ hP hD hS (lv_sub hl [0, 1, 2] rfl) hf
                  · replace hf := pq_ifn h106 hf
                    refine lv_iload_n hx hb dX7_command_82 rfl (lv_at hl 2 rfl) ?_
                    refine lv_bipush (v := 120) hx hb dX7_command_83 (by decide) ?_
                    refine lv_icmp_eq (tgt := 97) hx hb dX7_command_85 (by decide) (fun h107 => ?_) (fun h107 => ?_)
                    · replace hf := pq_ifp h107 hf
                      exact B97 T v1 v2 ls _ _ hP hD hS (lv_sub hl [0, 1, 2] rfl) hf
                    · replace hf := pq_ifn h107 hf
                      refine lv_aload_n hx hb dX7_command_88 rfl (lv_at hl 0 rfl) ?_
                      refine lv_aload_n hx hb dX7_command_89 rfl (lv_at hl 0 rfl) ?_
                      refine pq_get S hK hP inX7 0 rfl rfl 12 (by decide) fl_X7_217 rfl (v := .int T.2.2.2.2.2.2.2.2.2.2.2.2.1) rfl dX7_command_90 ?_
                      refine pq_putf S hK hP hD hS inX7 tyX7_ok nmX7 0 rfl rfl 13 (by decide) fl_X7_220 rfl rfl (ty := .int) rfl rfl rfl (Nat.le_of_ble_eq_true rfl) dX7_command_93 (fun H locs hP hS => ?_)
                      replace hP : va_P g.1 pq_cl (modW g a (T.1, T.2.1, T.2.2.1, T.2.2.2.1, T.2.2.2.2.1, T.2.2.2.2.2.1, T.2.2.2.2.2.2.1, T.2.2.2.2.2.2.2.1, T.2.2.2.2.2.2.2.2.1, T.2.2.2.2.2.2.2.2.2.1, T.2.2.2.2.2.2.2.2.2.2.1, T.2.2.2.2.2.2.2.2.2.2.2.1, T.2.2.2.2.2.2.2.2.2.2.2.2.1, T.2.2.2.2.2.2.2.2.2.2.2.2.1, T.2.2.2.2.2.2.2.2.2.2.2.2.2.2.1, T.2.2.2.2.2.2.2.2.2.2.2.2.2.2.2.1, T.2.2.2.2.2.2.2.2.2.2.2.2.2.2.2.2)) H := hP
                      replace hD : va_D A (modW g a (T.1, T.2.1, T.2.2.1, T.2.2.2.1, T.2.2.2.2.1, T.2.2.2.2.2.1, T.2.2.2.2.2.2.1, T.2.2.2.2.2.2.2.1, T.2.2.2.2.2.2.2.2.1, T.2.2.2.2.2.2.2.2.2.1, T.2.2.2.2.2.2.2.2.2.2.1, T.2.2.2.2.2.2.2.2.2.2.2.1, T.2.2.2.2.2.2.2.2.2.2.2.2.1, T.2.2.2.2.2.2.2.2.2.2.2.2.1, T.2.2.2.2.2.2.2.2.2.2.2.2.2.2.1, T.2.2.2.2.2.2.2.2.2.2.2.2.2.2.2.1, T.2.2.2.2.2.2.2.2.2.2.2.2.2.2.2.2)) := pq_adr hD (ad_X7 _ _)
                      exact hend _ _ _ _ dX7_command_96 (by rw [← Option.some.inj hf]; exact hP) hS
      · replace hf := pq_ifn h100 hf
        refine lv_aload_n hx hb dX7_command_31 rfl (lv_at hl 0 rfl) ?_
        refine pq_get S hK hP inX7 0 rfl rfl 15 (by decide) fl_X7_24 rfl (v := .ref (a 4)) rfl dX7_command_32 ?_
        refine lv_iload_n hx hb dX7_command_35 rfl (lv_at hl 1 rfl) ?_
        refine lv_iload_n hx hb dX7_command_36 rfl (lv_at hl 3 rfl) ?_
        refine lv_iadd hx hb dX7_command_37 ?_
        refine lv_iconst (v := 0) hx hb dX7_command_38 (by decide) ?_
        by_cases h108 : ((v1 + v3) < 0 ∨ 366 ≤ (v1 + v3).toNatClampNeg)
        · exact absurd (pq_ifp h108 hf) (fun h9 => by cases h9)
        replace hf := pq_ifn h108 hf
        refine va_iast hx hb hK.1 hP hD hS 4 0 rfl rfl h108 dX7_command_39 (fun H locs hP _ hS => ?_)
        replace hP : va_P g.1 pq_cl (modW g a (T.1, T.2.1, T.2.2.1, T.2.2.2.1, T.2.2.2.2.1, T.2.2.2.2.2.1, T.2.2.2.2.2.2.1, T.2.2.2.2.2.2.2.1, T.2.2.2.2.2.2.2.2.1, T.2.2.2.2.2.2.2.2.2.1, T.2.2.2.2.2.2.2.2.2.2.1, T.2.2.2.2.2.2.2.2.2.2.2.1, T.2.2.2.2.2.2.2.2.2.2.2.2.1, T.2.2.2.2.2.2.2.2.2.2.2.2.2.1, T.2.2.2.2.2.2.2.2.2.2.2.2.2.2.1, (upd T.2.2.2.2.2.2.2.2.2.2.2.2.2.2.2.1 (v1 + v3).toNatClampNeg 0), T.2.2.2.2.2.2.2.2.2.2.2.2.2.2.2.2)) H := hP
        replace hD : va_D A (modW g a (T.1, T.2.1, T.2.2.1, T.2.2.2.1, T.2.2.2.2.1, T.2.2.2.2.2.1, T.2.2.2.2.2.2.1, T.2.2.2.2.2.2.2.1, T.2.2.2.2.2.2.2.2.1, T.2.2.2.2.2.2.2.2.2.1, T.2.2.2.2.2.2.2.2.2.2.1, T.2.2.2.2.2.2.2.2.2.2.2.1, T.2.2.2.2.2.2.2.2.2.2.2.2.1, T.2.2.2.2.2.2.2.2.2.2.2.2.2.1, T.2.2.2.2.2.2.2.2.2.2.2.2.2.2.1, (upd T.2.2.2.2.2.2.2.2.2.2.2.2.2.2.2.1 (v1 + v3).toNatClampNeg 0), T.2.2.2.2.2.2.2.2.2.2.2.2.2.2.2.2)) := pq_adr hD (ad_X7 _ _)
        refine lv_iinc (v := (v3 + 1)) (lv' := [(3, .int (v3 + 1)), (0, .ref (a 0)), (1, .int v1), (2, .int v2)]) hx hb dX7_command_40 hl (k := 3) rfl rfl (by decide) rfl (fun ls hl => ?_)
        refine lv_goto (tgt := 25) hx hb dX7_command_43 (by decide) ?_
        exact ih25 (T.1, T.2.1, T.2.2.1, T.2.2.2.1, T.2.2.2.2.1, T.2.2.2.2.2.1, T.2.2.2.2.2.2.1, T.2.2.2.2.2.2.2.1, T.2.2.2.2.2.2.2.2.1, T.2.2.2.2.2.2.2.2.2.1, T.2.2.2.2.2.2.2.2.2.2.1, T.2.2.2.2.2.2.2.2.2.2.2.1, T.2.2.2.2.2.2.2.2.2.2.2.2.1, T.2.2.2.2.2.2.2.2.2.2.2.2.2.1, T.2.2.2.2.2.2.2.2.2.2.2.2.2.2.1, (upd T.2.2.2.2.2.2.2.2.2.2.2.2.2.2.2.1 (v1 + v3).toNatClampNeg 0), T.2.2.2.2.2.2.2.2.2.2.2.2.2.2.2.2) v1 v2 (v3 + 1) ls _ _ hP hD hS (lv_sub hl [1, 2, 3, 0] rfl) hf
  refine lv_bipush (v := 6) hx hb dX7_command_0 (by decide) ?_
  refine lv_aload_n hx hb dX7_command_2 rfl (lv_at hl 0 rfl) ?_
  refine pq_get S hK hP inX7 0 rfl rfl 16 (by decide) fl_X7_232 rfl (v := .int T.2.2.2.2.2.2.2.2.2.2.2.2.2.2.2.2) rfl dX7_command_3 ?_
  refine lv_imul hx hb dX7_command_6 ?_
  refine lv_istore_n (lv' := [(1, .int (6 * T.2.2.2.2.2.2.2.2.2.2.2.2.2.2.2.2)), (0, .ref (a 0))]) hx hb dX7_command_7 rfl hl (by decide) rfl (fun ls hl => ?_)
  refine lv_aload_n hx hb dX7_command_8 rfl (lv_at hl 1 rfl) ?_
  refine lv_dup hx hb dX7_command_9 rfl ?_
  refine pq_get S hK hP inX7 0 rfl rfl 16 (by decide) fl_X7_232 rfl (v := .int T.2.2.2.2.2.2.2.2.2.2.2.2.2.2.2.2) rfl dX7_command_10 ?_
  refine lv_iconst (v := 1) hx hb dX7_command_13 (by decide) ?_
  refine lv_iadd hx hb dX7_command_14 ?_
  refine pq_putf S hK hP hD hS inX7 tyX7_ok nmX7 0 rfl rfl 16 (by decide) fl_X7_232 rfl rfl (ty := .int) rfl rfl rfl (Nat.le_of_ble_eq_true rfl) dX7_command_15 (fun H locs hP hS => ?_)
  replace hP : va_P g.1 pq_cl (modW g a (T.1, T.2.1, T.2.2.1, T.2.2.2.1, T.2.2.2.2.1, T.2.2.2.2.2.1, T.2.2.2.2.2.2.1, T.2.2.2.2.2.2.2.1, T.2.2.2.2.2.2.2.2.1, T.2.2.2.2.2.2.2.2.2.1, T.2.2.2.2.2.2.2.2.2.2.1, T.2.2.2.2.2.2.2.2.2.2.2.1, T.2.2.2.2.2.2.2.2.2.2.2.2.1, T.2.2.2.2.2.2.2.2.2.2.2.2.2.1, T.2.2.2.2.2.2.2.2.2.2.2.2.2.2.1, T.2.2.2.2.2.2.2.2.2.2.2.2.2.2.2.1, (T.2.2.2.2.2.2.2.2.2.2.2.2.2.2.2.2 + 1))) H := hP
  replace hD : va_D A (modW g a (T.1, T.2.1, T.2.2.1, T.2.2.2.1, T.2.2.2.2.1, T.2.2.2.2.2.1, T.2.2.2.2.2.2.1, T.2.2.2.2.2.2.2.1, T.2.2.2.2.2.2.2.2.1, T.2.2.2.2.2.2.2.2.2.1, T.2.2.2.2.2.2.2.2.2.2.1, T.2.2.2.2.2.2.2.2.2.2.2.1, T.2.2.2.2.2.2.2.2.2.2.2.2.1, T.2.2.2.2.2.2.2.2.2.2.2.2.2.1, T.2.2.2.2.2.2.2.2.2.2.2.2.2.2.1, T.2.2.2.2.2.2.2.2.2.2.2.2.2.2.2.1, (T.2.2.2.2.2.2.2.2.2.2.2.2.2.2.2.2 + 1))) := pq_adr hD (ad_X7 _ _)
  refine lv_aload_n hx hb dX7_command_18 rfl (lv_at hl 1 rfl) ?_
  obtain ⟨q110, e109, hf⟩ := pq_bind hf
  refine pq_cV S (c_X7_sign l g a (T.1, T.2.1, T.2.2.1, T.2.2.2.1, T.2.2.2.2.1, T.2.2.2.2.2.1, T.2.2.2.2.2.2.1, T.2.2.2.2.2.2.2.1, T.2.2.2.2.2.2.2.2.1, T.2.2.2.2.2.2.2.2.2.1, T.2.2.2.2.2.2.2.2.2.2.1, T.2.2.2.2.2.2.2.2.2.2.2.1, T.2.2.2.2.2.2.2.2.2.2.2.2.1, T.2.2.2.2.2.2.2.2.2.2.2.2.2.1, T.2.2.2.2.2.2.2.2.2.2.2.2.2.2.1, T.2.2.2.2.2.2.2.2.2.2.2.2.2.2.2.1, (T.2.2.2.2.2.2.2.2.2.2.2.2.2.2.2.2 + 1)) q110 e109) vv_X7_223 hK hP rfl rfl rfl rfl rfl hl.1 (Nat.le_of_ble_eq_true rfl) dX7_command_19 (by decide) (by decide) ⟨Nat.le_refl _, Nat.le_refl _⟩ ?_
  refine lv_istore_n (lv' := [(2, .int q110), (1, .int (6 * T.2.2.2.2.2.2.2.2.2.2.2.2.2.2.2.2)), (0, .ref (a 0))]) hx hb dX7_command_22 rfl hl (by decide) rfl (fun ls hl => ?_)
  refine lv_iconst (v := 0) hx hb dX7_command_23 (by decide) ?_
  refine lv_istore_n (lv' := [(3, .int 0), (2, .int q110), (1, .int (6 * T.2.2.2.2.2.2.2.2.2.2.2.2.2.2.2.2)), (0, .ref (a 0))]) hx hb dX7_command_24 rfl hl (by decide) rfl (fun ls hl => ?_)
  exact B25 200 (T.1, T.2.1, T.2.2.1, T.2.2.2.1, T.2.2.2.2.1, T.2.2.2.2.2.1, T.2.2.2.2.2.2.1, T.2.2.2.2.2.2.2.1, T.2.2.2.2.2.2.2.2.1, T.2.2.2.2.2.2.2.2.2.1, T.2.2.2.2.2.2.2.2.2.2.1, T.2.2.2.2.2.2.2.2.2.2.2.1, T.2.2.2.2.2.2.2.2.2.2.2.2.1, T.2.2.2.2.2.2.2.2.2.2.2.2.2.1, T.2.2.2.2.2.2.2.2.2.2.2.2.2.2.1, T.2.2.2.2.2.2.2.2.2.2.2.2.2.2.2.1, (T.2.2.2.2.2.2.2.2.2.2.2.2.2.2.2.2 + 1)) (6 * T.2.2.2.2.2.2.2.2.2.2.2.2.2.2.2.2) q110 0 ls _ _ hP hD hS (lv_sub hl [3, 2, 1, 0] rfl) hf
def f_X7_parse_c52 (T : ModS) : Option (ModS) :=
    if 0 ≤ T.2.2.2.2.2.2.2.2.2.2.2.2.2.1 then
      some T
    else
      if T.2.2.2.2.2.2.2.2.2.2.2.1 ≤ T.2.2.2.2.2.2.2.2.2.2.2.2.1 then
        some T
      else
        some (T.1, T.2.1, T.2.2.1, T.2.2.2.1, T.2.2.2.2.1, T.2.2.2.2.2.1, T.2.2.2.2.2.2.1, T.2.2.2.2.2.2.2.1, T.2.2.2.2.2.2.2.2.1, T.2.2.2.2.2.2.2.2.2.1, T.2.2.2.2.2.2.2.2.2.2.1, T.2.2.2.2.2.2.2.2.2.2.2.1, T.2.2.2.2.2.2.2.2.2.2.2.2.1, T.2.2.2.2.2.2.2.2.2.2.2.2.1, T.2.2.2.2.2.2.2.2.2.2.2.2.2.2.1, T.2.2.2.2.2.2.2.2.2.2.2.2.2.2.2.1, T.2.2.2.2.2.2.2.2.2.2.2.2.2.2.2.2)
def f_X7_parse_c19 : Nat → ModS → Option (ModS)
  | 0, _ => none
  | n + 1, T =>
    if 0 ≤ T.2.2.2.2.2.2.2.2.2.2.2.2.2.1 then
      f_X7_parse_c52 T
    else
      (f_X7_sign T).bind fun q5 =>
      if q5 = 59 then
        (f_X7_command (T.1, T.2.1, T.2.2.1, T.2.2.2.1, T.2.2.2.2.1, T.2.2.2.2.2.1, T.2.2.2.2.2.2.1, T.2.2.2.2.2.2.2.1, T.2.2.2.2.2.2.2.2.1, T.2.2.2.2.2.2.2.2.2.1, T.2.2.2.2.2.2.2.2.2.2.1, T.2.2.2.2.2.2.2.2.2.2.2.1, (T.2.2.2.2.2.2.2.2.2.2.2.2.1 + 1), T.2.2.2.2.2.2.2.2.2.2.2.2.2.1, T.2.2.2.2.2.2.2.2.2.2.2.2.2.2.1, T.2.2.2.2.2.2.2.2.2.2.2.2.2.2.2.1, T.2.2.2.2.2.2.2.2.2.2.2.2.2.2.2.2)).bind fun q8 =>
        f_X7_parse_c19 n q8
      else
        f_X7_parse_c52 T
def f_X7_parse (T : ModS) : Option (ModS) :=
    (f_X7_command (T.1, T.2.1, T.2.2.1, T.2.2.2.1, T.2.2.2.2.1, T.2.2.2.2.2.1, T.2.2.2.2.2.2.1, T.2.2.2.2.2.2.2.1, T.2.2.2.2.2.2.2.2.1, T.2.2.2.2.2.2.2.2.2.1, T.2.2.2.2.2.2.2.2.2.2.1, T.2.2.2.2.2.2.2.2.2.2.2.1, 0, (-1), T.2.2.2.2.2.2.2.2.2.2.2.2.2.2.1, T.2.2.2.2.2.2.2.2.2.2.2.2.2.2.2.1, 0)).bind fun q10 =>
    f_X7_parse_c19 200 q10
set_option maxHeartbeats 4000000 in
set_option maxRecDepth 100000 in
theorem c_X7_parse (l : Launch) (g : pq_g) (a : Nat → Nat) (T : ModS) (T1 : ModS) (hf : f_X7_parse T = some T1) : pq_Mv l yX7_parse cX7_parse 1 5 g (modW g a T) [.ref (a 0)] (modW g a T1) := by
  rw [f_X7_parse] at hf
  refine pq_Mv.of (own := RX7) (by decide) rfl (Nat.le_of_ble_eq_true rfl) rfl ?_
  intro p e s m below meth c ls Q A S hP hK hD hS hA hl hend
  obtain ⟨hx, hb, hml, hown, hts⟩ := id S
  have B52 : ∀ (T : ModS) (ls : Array Slot) (H : Heap) (locs : List Loc), va_P g.1 pq_cl (modW g a T) H → va_D A (modW g a T) → va_S A s.heap H locs → lv_has ls 1 [(0, .ref (a 0))] → f_X7_parse_c52 T = some T1 → W p l e (pq_rm 5 0 0) s m ([.ref (a 0)] : List Value).toArray below meth c H locs 0 0 Q (F0 m 52 ls []) := by
    intro T ls H locs hP hD hS hl hf
    rw [f_X7_parse_c52] at hf
    refine lv_aload_n hx hb dX7_parse_52 rfl (lv_at hl 0 rfl) ?_
    refine pq_get S hK hP inX7 0 rfl rfl 13 (by decide) fl_X7_220 rfl (v := .int T.2.2.2.2.2.2.2.2.2.2.2.2.2.1) rfl dX7_parse_53 ?_
    refine lv_if_ge (tgt := 78) hx hb dX7_parse_56 (by decide) (fun h1 => ?_) (fun h1 => ?_)
    · replace hf := pq_ifp h1 hf
      exact hend _ _ _ _ dX7_parse_78 (by rw [← Option.some.inj hf]; exact hP) hS
    · replace hf := pq_ifn h1 hf
      refine lv_aload_n hx hb dX7_parse_59 rfl (lv_at hl 0 rfl) ?_
      refine pq_get S hK hP inX7 0 rfl rfl 12 (by decide) fl_X7_217 rfl (v := .int T.2.2.2.2.2.2.2.2.2.2.2.2.1) rfl dX7_parse_60 ?_
      refine lv_aload_n hx hb dX7_parse_63 rfl (lv_at hl 0 rfl) ?_
      refine pq_get S hK hP inX7 0 rfl rfl 11 (by decide) fl_X7_214 rfl (v := .int T.2.2.2.2.2.2.2.2.2.2.2.1) rfl dX7_parse_64 ?_
      refine lv_icmp_ge (tgt := 78) hx hb dX7_parse_67 (by decide) (fun h2 => ?_) (fun h2 => ?_)
      · replace hf := pq_ifp h2 hf
        exact hend _ _ _ _ dX7_parse_78 (by rw [← Option.some.inj hf]; exact hP) hS
      · replace hf := pq_ifn h2 hf
        refine lv_aload_n hx hb dX7_parse_70 rfl (lv_at hl 0 rfl) ?_
        refine lv_aload_n hx hb dX7_parse_71 rfl (lv_at hl 0 rfl) ?_
        refine pq_get S hK hP inX7 0 rfl rfl 12 (by decide) fl_X7_217 rfl (v := .int T.2.2.2.2.2.2.2.2.2.2.2.2.1) rfl dX7_parse_72 ?_
        refine pq_putf S hK hP hD hS inX7 tyX7_ok nmX7 0 rfl rfl 13 (by decide) fl_X7_220 rfl rfl (ty := .int) rfl rfl rfl (Nat.le_of_ble_eq_true rfl) dX7_parse_75 (fun H locs hP hS => ?_)
        replace hP : va_P g.1 pq_cl (modW g a (T.1, T.2.1, T.2.2.1, T.2.2.2.1, T.2.2.2.2.1, T.2.2.2.2.2.1, T.2.2.2.2.2.2.1, T.2.2.2.2.2.2.2.1, T.2.2.2.2.2.2.2.2.1, T.2.2.2.2.2.2.2.2.2.1, T.2.2.2.2.2.2.2.2.2.2.1, T.2.2.2.2.2.2.2.2.2.2.2.1, T.2.2.2.2.2.2.2.2.2.2.2.2.1, T.2.2.2.2.2.2.2.2.2.2.2.2.1, T.2.2.2.2.2.2.2.2.2.2.2.2.2.2.1, T.2.2.2.2.2.2.2.2.2.2.2.2.2.2.2.1, T.2.2.2.2.2.2.2.2.2.2.2.2.2.2.2.2)) H := hP
        replace hD : va_D A (modW g a (T.1, T.2.1, T.2.2.1, T.2.2.2.1, T.2.2.2.2.1, T.2.2.2.2.2.1, T.2.2.2.2.2.2.1, T.2.2.2.2.2.2.2.1, T.2.2.2.2.2.2.2.2.1, T.2.2.2.2.2.2.2.2.2.1, T.2.2.2.2.2.2.2.2.2.2.1, T.2.2.2.2.2.2.2.2.2.2.2.1, T.2.2.2.2.2.2.2.2.2.2.2.2.1, T.2.2.2.2.2.2.2.2.2.2.2.2.1, T.2.2.2.2.2.2.2.2.2.2.2.2.2.2.1, T.2.2.2.2.2.2.2.2.2.2.2.2.2.2.2.1, T.2.2.2.2.2.2.2.2.2.2.2.2.2.2.2.2)) := pq_adr hD (ad_X7 _ _)
        exact hend _ _ _ _ dX7_parse_78 (by rw [← Option.some.inj hf]; exact hP) hS
  have B19 : ∀ (n19 : Nat) (T : ModS) (ls : Array Slot) (H : Heap) (locs : List Loc), va_P g.1 pq_cl (modW g a T) H → va_D A (modW g a T) → va_S A s.heap H locs → lv_has ls 1 [(0, .ref (a 0))] → f_X7_parse_c19 n19 T = some T1 → W p l e (pq_rm 5 0 0) s m ([.ref (a 0)] : List Value).toArray below meth c H locs 0 0 Q (F0 m 19 ls []) := by
    intro n19
    induction n19 with
    | zero =>
      intro T ls H locs hP hD hS hl hf
      exact absurd hf (by simp [f_X7_parse_c19])
    | succ n19 ih19 =>
      intro T ls H locs hP hD hS hl hf
      rw [f_X7_parse_c19] at hf
      refine lv_aload_n hx hb dX7_parse_19 rfl (lv_at hl 0 rfl) ?_
      refine pq_get S hK hP inX7 0 rfl rfl 13 (by decide) fl_X7_220 rfl (v := .int T.2.2.2.2.2.2.2.2.2.2.2.2.2.1) rfl dX7_parse_20 ?_
      refine lv_if_ge (tgt := 52) hx hb dX7_parse_23 (by decide) (fun h3 => ?_) (fun h3 => ?_)
      · replace hf := pq_ifp h3 hf
        exact B52 T ls _ _ hP hD hS (lv_sub hl [0] rfl) hf
      · replace hf := pq_ifn h3 hf
        refine lv_aload_n hx hb dX7_parse_26 rfl (lv_at hl 0 rfl) ?_
        obtain ⟨q5, e4, hf⟩ := pq_bind hf
        refine pq_cV S (c_X7_sign l g a T q5 e4) vv_X7_223 hK hP rfl rfl rfl rfl rfl hl.1 (Nat.le_of_ble_eq_true rfl) dX7_parse_27 (by decide) (by decide) ⟨Nat.le_refl _, Nat.le_refl _⟩ ?_
        refine lv_bipush (v := 59) hx hb dX7_parse_30 (by decide) ?_
        refine lv_icmp_ne (tgt := 52) hx hb dX7_parse_32 (by decide) (fun h6 => ?_) (fun h6 => ?_)
        · replace hf := pq_ifn h6 hf
          exact B52 T ls _ _ hP hD hS (lv_sub hl [0] rfl) hf
        · replace hf := pq_ifp h6 hf
          refine lv_aload_n hx hb dX7_parse_35 rfl (lv_at hl 0 rfl) ?_
          refine lv_dup hx hb dX7_parse_36 rfl ?_
          refine pq_get S hK hP inX7 0 rfl rfl 12 (by decide) fl_X7_217 rfl (v := .int T.2.2.2.2.2.2.2.2.2.2.2.2.1) rfl dX7_parse_37 ?_
          refine lv_iconst (v := 1) hx hb dX7_parse_40 (by decide) ?_
          refine lv_iadd hx hb dX7_parse_41 ?_
          refine pq_putf S hK hP hD hS inX7 tyX7_ok nmX7 0 rfl rfl 12 (by decide) fl_X7_217 rfl rfl (ty := .int) rfl rfl rfl (Nat.le_of_ble_eq_true rfl) dX7_parse_42 (fun H locs hP hS => ?_)
          replace hP : va_P g.1 pq_cl (modW g a (T.1, T.2.1, T.2.2.1, T.2.2.2.1, T.2.2.2.2.1, T.2.2.2.2.2.1, T.2.2.2.2.2.2.1, T.2.2.2.2.2.2.2.1, T.2.2.2.2.2.2.2.2.1, T.2.2.2.2.2.2.2.2.2.1, T.2.2.2.2.2.2.2.2.2.2.1, T.2.2.2.2.2.2.2.2.2.2.2.1, (T.2.2.2.2.2.2.2.2.2.2.2.2.1 + 1), T.2.2.2.2.2.2.2.2.2.2.2.2.2.1, T.2.2.2.2.2.2.2.2.2.2.2.2.2.2.1, T.2.2.2.2.2.2.2.2.2.2.2.2.2.2.2.1, T.2.2.2.2.2.2.2.2.2.2.2.2.2.2.2.2)) H := hP
          replace hD : va_D A (modW g a (T.1, T.2.1, T.2.2.1, T.2.2.2.1, T.2.2.2.2.1, T.2.2.2.2.2.1, T.2.2.2.2.2.2.1, T.2.2.2.2.2.2.2.1, T.2.2.2.2.2.2.2.2.1, T.2.2.2.2.2.2.2.2.2.1, T.2.2.2.2.2.2.2.2.2.2.1, T.2.2.2.2.2.2.2.2.2.2.2.1, (T.2.2.2.2.2.2.2.2.2.2.2.2.1 + 1), T.2.2.2.2.2.2.2.2.2.2.2.2.2.1, T.2.2.2.2.2.2.2.2.2.2.2.2.2.2.1, T.2.2.2.2.2.2.2.2.2.2.2.2.2.2.2.1, T.2.2.2.2.2.2.2.2.2.2.2.2.2.2.2.2)) := pq_adr hD (ad_X7 _ _)
          refine lv_aload_n hx hb dX7_parse_45 rfl (lv_at hl 0 rfl) ?_
          obtain ⟨q8, e7, hf⟩ := pq_bind hf
          refine pq_cVv S (c_X7_command l g a (T.1, T.2.1, T.2.2.1, T.2.2.2.1, T.2.2.2.2.1, T.2.2.2.2.2.1, T.2.2.2.2.2.2.1, T.2.2.2.2.2.2.2.1, T.2.2.2.2.2.2.2.2.1, T.2.2.2.2.2.2.2.2.2.1, T.2.2.2.2.2.2.2.2.2.2.1, T.2.2.2.2.2.2.2.2.2.2.2.1, (T.2.2.2.2.2.2.2.2.2.2.2.2.1 + 1), T.2.2.2.2.2.2.2.2.2.2.2.2.2.1, T.2.2.2.2.2.2.2.2.2.2.2.2.2.2.1, T.2.2.2.2.2.2.2.2.2.2.2.2.2.2.2.1, T.2.2.2.2.2.2.2.2.2.2.2.2.2.2.2.2) q8 e7) vv_X7_238 hK hP hD hS hA rfl rfl rfl rfl rfl hl.1 (Nat.le_of_ble_eq_true rfl) dX7_parse_46 (by decide) (by decide) ⟨Nat.le_refl _, Nat.le_refl _⟩ (fun H9 locs hk hP1 hS => ?_)
          replace hP := hP1
          replace hP : va_P g.1 pq_cl (modW g a q8) H9 := hP
          replace hD : va_D A (modW g a q8) := pq_adr hD (ad_X7 _ _)
          clear hk
          generalize H9 = H at hP hS ⊢
          refine lv_goto (tgt := 19) hx hb dX7_parse_49 (by decide) ?_
          exact ih19 q8 ls _ _ hP hD hS (lv_sub hl [0] rfl) hf
  refine lv_aload_n hx hb dX7_parse_0 rfl (lv_at hl 0 rfl) ?_
  refine lv_iconst (v := 0) hx hb dX7_parse_1 (by decide) ?_
  refine pq_putf S hK hP hD hS inX7 tyX7_ok nmX7 0 rfl rfl 12 (by decide) fl_X7_217 rfl rfl (ty := .int) rfl rfl rfl (Nat.le_of_ble_eq_true rfl) dX7_parse_2 (fun H locs hP hS => ?_)
  replace hP : va_P g.1 pq_cl (modW g a (T.1, T.2.1, T.2.2.1, T.2.2.2.1, T.2.2.2.2.1, T.2.2.2.2.2.1, T.2.2.2.2.2.2.1, T.2.2.2.2.2.2.2.1, T.2.2.2.2.2.2.2.2.1, T.2.2.2.2.2.2.2.2.2.1, T.2.2.2.2.2.2.2.2.2.2.1, T.2.2.2.2.2.2.2.2.2.2.2.1, 0, T.2.2.2.2.2.2.2.2.2.2.2.2.2.1, T.2.2.2.2.2.2.2.2.2.2.2.2.2.2.1, T.2.2.2.2.2.2.2.2.2.2.2.2.2.2.2.1, T.2.2.2.2.2.2.2.2.2.2.2.2.2.2.2.2)) H := hP
  replace hD : va_D A (modW g a (T.1, T.2.1, T.2.2.1, T.2.2.2.1, T.2.2.2.2.1, T.2.2.2.2.2.1, T.2.2.2.2.2.2.1, T.2.2.2.2.2.2.2.1, T.2.2.2.2.2.2.2.2.1, T.2.2.2.2.2.2.2.2.2.1, T.2.2.2.2.2.2.2.2.2.2.1, T.2.2.2.2.2.2.2.2.2.2.2.1, 0, T.2.2.2.2.2.2.2.2.2.2.2.2.2.1, T.2.2.2.2.2.2.2.2.2.2.2.2.2.2.1, T.2.2.2.2.2.2.2.2.2.2.2.2.2.2.2.1, T.2.2.2.2.2.2.2.2.2.2.2.2.2.2.2.2)) := pq_adr hD (ad_X7 _ _)
  refine lv_aload_n hx hb dX7_parse_5 rfl (lv_at hl 0 rfl) ?_
  refine lv_iconst (v := (-1)) hx hb dX7_parse_6 (by decide) ?_
  refine pq_putf S hK hP hD hS inX7 tyX7_ok nmX7 0 rfl rfl 13 (by decide) fl_X7_220 rfl rfl (ty := .int) rfl rfl rfl (Nat.le_of_ble_eq_true rfl) dX7_parse_7 (fun H locs hP hS => ?_)
  replace hP : va_P g.1 pq_cl (modW g a (T.1, T.2.1, T.2.2.1, T.2.2.2.1, T.2.2.2.2.1, T.2.2.2.2.2.1, T.2.2.2.2.2.2.1, T.2.2.2.2.2.2.2.1, T.2.2.2.2.2.2.2.2.1, T.2.2.2.2.2.2.2.2.2.1, T.2.2.2.2.2.2.2.2.2.2.1, T.2.2.2.2.2.2.2.2.2.2.2.1, 0, (-1), T.2.2.2.2.2.2.2.2.2.2.2.2.2.2.1, T.2.2.2.2.2.2.2.2.2.2.2.2.2.2.2.1, T.2.2.2.2.2.2.2.2.2.2.2.2.2.2.2.2)) H := hP
  replace hD : va_D A (modW g a (T.1, T.2.1, T.2.2.1, T.2.2.2.1, T.2.2.2.2.1, T.2.2.2.2.2.1, T.2.2.2.2.2.2.1, T.2.2.2.2.2.2.2.1, T.2.2.2.2.2.2.2.2.1, T.2.2.2.2.2.2.2.2.2.1, T.2.2.2.2.2.2.2.2.2.2.1, T.2.2.2.2.2.2.2.2.2.2.2.1, 0, (-1), T.2.2.2.2.2.2.2.2.2.2.2.2.2.2.1, T.2.2.2.2.2.2.2.2.2.2.2.2.2.2.2.1, T.2.2.2.2.2.2.2.2.2.2.2.2.2.2.2.2)) := pq_adr hD (ad_X7 _ _)
  refine lv_aload_n hx hb dX7_parse_10 rfl (lv_at hl 0 rfl) ?_
  refine lv_iconst (v := 0) hx hb dX7_parse_11 (by decide) ?_
  refine pq_putf S hK hP hD hS inX7 tyX7_ok nmX7 0 rfl rfl 16 (by decide) fl_X7_232 rfl rfl (ty := .int) rfl rfl rfl (Nat.le_of_ble_eq_true rfl) dX7_parse_12 (fun H locs hP hS => ?_)
  replace hP : va_P g.1 pq_cl (modW g a (T.1, T.2.1, T.2.2.1, T.2.2.2.1, T.2.2.2.2.1, T.2.2.2.2.2.1, T.2.2.2.2.2.2.1, T.2.2.2.2.2.2.2.1, T.2.2.2.2.2.2.2.2.1, T.2.2.2.2.2.2.2.2.2.1, T.2.2.2.2.2.2.2.2.2.2.1, T.2.2.2.2.2.2.2.2.2.2.2.1, 0, (-1), T.2.2.2.2.2.2.2.2.2.2.2.2.2.2.1, T.2.2.2.2.2.2.2.2.2.2.2.2.2.2.2.1, 0)) H := hP
  replace hD : va_D A (modW g a (T.1, T.2.1, T.2.2.1, T.2.2.2.1, T.2.2.2.2.1, T.2.2.2.2.2.1, T.2.2.2.2.2.2.1, T.2.2.2.2.2.2.2.1, T.2.2.2.2.2.2.2.2.1, T.2.2.2.2.2.2.2.2.2.1, T.2.2.2.2.2.2.2.2.2.2.1, T.2.2.2.2.2.2.2.2.2.2.2.1, 0, (-1), T.2.2.2.2.2.2.2.2.2.2.2.2.2.2.1, T.2.2.2.2.2.2.2.2.2.2.2.2.2.2.2.1, 0)) := pq_adr hD (ad_X7 _ _)
  refine lv_aload_n hx hb dX7_parse_15 rfl (lv_at hl 0 rfl) ?_
  obtain ⟨q10, e9, hf⟩ := pq_bind hf
  refine pq_cVv S (c_X7_command l g a (T.1, T.2.1, T.2.2.1, T.2.2.2.1, T.2.2.2.2.1, T.2.2.2.2.2.1, T.2.2.2.2.2.2.1, T.2.2.2.2.2.2.2.1, T.2.2.2.2.2.2.2.2.1, T.2.2.2.2.2.2.2.2.2.1, T.2.2.2.2.2.2.2.2.2.2.1, T.2.2.2.2.2.2.2.2.2.2.2.1, 0, (-1), T.2.2.2.2.2.2.2.2.2.2.2.2.2.2.1, T.2.2.2.2.2.2.2.2.2.2.2.2.2.2.2.1, 0) q10 e9) vv_X7_238 hK hP hD hS hA rfl rfl rfl rfl rfl hl.1 (Nat.le_of_ble_eq_true rfl) dX7_parse_16 (by decide) (by decide) ⟨Nat.le_refl _, Nat.le_refl _⟩ (fun H9 locs hk hP1 hS => ?_)
  replace hP := hP1
  replace hP : va_P g.1 pq_cl (modW g a q10) H9 := hP
  replace hD : va_D A (modW g a q10) := pq_adr hD (ad_X7 _ _)
  clear hk
  generalize H9 = H at hP hS ⊢
  exact B19 200 q10 ls _ _ hP hD hS (lv_sub hl [0] rfl) hf
def f_X7_does (T : ModS) (p1 : Int32) : Option (Int32 × (ModS)) :=
    if ((p1 + 1) < 0 ∨ 366 ≤ (p1 + 1).toNatClampNeg) then none
    else
      if ((p1 + 2) < 0 ∨ 366 ≤ (p1 + 2).toNatClampNeg) then none
      else
        if (p1 < 0 ∨ 366 ≤ p1.toNatClampNeg) then none
        else
          if (T.2.2.2.2.2.2.2.2.2.2.2.2.2.2.2.1 p1.toNatClampNeg) = 100 then
            (f_X7_deletes T (T.2.2.2.2.2.2.2.2.2.2.2.2.2.2.2.1 (p1 + 1).toNatClampNeg)).bind fun q6 =>
            some (q6.1, q6.2)
          else
            if (T.2.2.2.2.2.2.2.2.2.2.2.2.2.2.2.1 p1.toNatClampNeg) = 105 then
              (f_X7_inserts T (T.2.2.2.2.2.2.2.2.2.2.2.2.2.2.2.1 (p1 + 1).toNatClampNeg) (T.2.2.2.2.2.2.2.2.2.2.2.2.2.2.2.1 (p1 + 2).toNatClampNeg)).bind fun q9 =>
              some (q9.1, q9.2)
            else
              if (T.2.2.2.2.2.2.2.2.2.2.2.2.2.2.2.1 p1.toNatClampNeg) = 109 then
                (f_X7_moves T (T.2.2.2.2.2.2.2.2.2.2.2.2.2.2.2.1 (p1 + 1).toNatClampNeg) (T.2.2.2.2.2.2.2.2.2.2.2.2.2.2.2.1 (p1 + 2).toNatClampNeg)).bind fun q12 =>
                some (q12.1, q12.2)
              else
                if (T.2.2.2.2.2.2.2.2.2.2.2.2.2.2.2.1 p1.toNatClampNeg) = 112 then
                  (f_X7_prefers T (T.2.2.2.2.2.2.2.2.2.2.2.2.2.2.2.1 (p1 + 1).toNatClampNeg) (T.2.2.2.2.2.2.2.2.2.2.2.2.2.2.2.1 (p1 + 2).toNatClampNeg)).bind fun q15 =>
                  some (q15.1, q15.2)
                else
                  if (T.2.2.2.2.2.2.2.2.2.2.2.2.2.2.2.1 p1.toNatClampNeg) = 114 then
                    (f_X7_clears T (T.2.2.2.2.2.2.2.2.2.2.2.2.2.2.2.1 (p1 + 1).toNatClampNeg) (T.2.2.2.2.2.2.2.2.2.2.2.2.2.2.2.1 (p1 + 2).toNatClampNeg)).bind fun q18 =>
                    some (q18.1, q18.2)
                  else
                    if (T.2.2.2.2.2.2.2.2.2.2.2.2.2.2.2.1 p1.toNatClampNeg) = 119 then
                      if ((p1 + 3) < 0 ∨ 366 ≤ (p1 + 3).toNatClampNeg) then none
                      else
                        if ((p1 + 4) < 0 ∨ 366 ≤ (p1 + 4).toNatClampNeg) then none
                        else
                          if ((p1 + 5) < 0 ∨ 366 ≤ (p1 + 5).toNatClampNeg) then none
                          else
                            (f_X7_sets T (T.2.2.2.2.2.2.2.2.2.2.2.2.2.2.2.1 (p1 + 1).toNatClampNeg) (T.2.2.2.2.2.2.2.2.2.2.2.2.2.2.2.1 (p1 + 2).toNatClampNeg) (T.2.2.2.2.2.2.2.2.2.2.2.2.2.2.2.1 (p1 + 3).toNatClampNeg) (T.2.2.2.2.2.2.2.2.2.2.2.2.2.2.2.1 (p1 + 4).toNatClampNeg) (T.2.2.2.2.2.2.2.2.2.2.2.2.2.2.2.1 (p1 + 5).toNatClampNeg)).bind fun q24 =>
                            some (q24.1, q24.2)
                    else
                      (f_X7_removes T (T.2.2.2.2.2.2.2.2.2.2.2.2.2.2.2.1 (p1 + 1).toNatClampNeg)).bind fun q26 =>
                      some (q26.1, q26.2)
set_option maxHeartbeats 4000000 in
set_option maxRecDepth 100000 in
theorem c_X7_does (l : Launch) (g : pq_g) (a : Nat → Nat) (T : ModS) (p1 : Int32) (r : Int32) (T1 : ModS) (hf : f_X7_does T p1 = some (r, T1)) : pq_Mi l yX7_does cX7_does 4 .int 7 g (modW g a T) [.ref (a 0), .int p1] r (modW g a T1) := by
  rw [f_X7_does] at hf
  refine pq_Mi.of (own := RX7) (by decide) rfl (Nat.le_of_ble_eq_true rfl) rfl ?_
  intro p e s m below meth c ls Q A S hP hK hD hS hA hl hend
  obtain ⟨hx, hb, hml, hown, hts⟩ := id S
  refine lv_aload_n hx hb dX7_does_0 rfl (lv_at hl 0 rfl) ?_
  refine pq_get S hK hP inX7 0 rfl rfl 15 (by decide) fl_X7_24 rfl (v := .ref (a 4)) rfl dX7_does_1 ?_
  refine lv_iload_n hx hb dX7_does_4 rfl (lv_at hl 1 rfl) ?_
  refine lv_iconst (v := 1) hx hb dX7_does_5 (by decide) ?_
  refine lv_iadd hx hb dX7_does_6 ?_
  by_cases h1 : ((p1 + 1) < 0 ∨ 366 ≤ (p1 + 1).toNatClampNeg)
  · exact absurd (pq_ifp h1 hf) (fun h9 => by cases h9)
  replace hf := pq_ifn h1 hf
  refine va_iald hx hb hK.1 hP 4 0 rfl rfl h1 dX7_does_7 ?_
  refine lv_istore_n (lv' := [(2, .int (T.2.2.2.2.2.2.2.2.2.2.2.2.2.2.2.1 (p1 + 1).toNatClampNeg)), (0, .ref (a 0)), (1, .int p1)]) hx hb dX7_does_8 rfl hl (by decide) rfl (fun ls hl => ?_)
  refine lv_aload_n hx hb dX7_does_9 rfl (lv_at hl 1 rfl) ?_
  refine pq_get S hK hP inX7 0 rfl rfl 15 (by decide) fl_X7_24 rfl (v := .ref (a 4)) rfl dX7_does_10 ?_
  refine lv_iload_n hx hb dX7_does_13 rfl (lv_at hl 2 rfl) ?_
  refine lv_iconst (v := 2) hx hb dX7_does_14 (by decide) ?_
  refine lv_iadd hx hb dX7_does_15 ?_
  by_cases h2 : ((p1 + 2) < 0 ∨ 366 ≤ (p1 + 2).toNatClampNeg)
  · exact absurd (pq_ifp h2 hf) (fun h9 => by cases h9)
  replace hf := pq_ifn h2 hf
  refine va_iald hx hb hK.1 hP 4 0 rfl rfl h2 dX7_does_16 ?_
  refine lv_istore_n (lv' := [(3, .int (T.2.2.2.2.2.2.2.2.2.2.2.2.2.2.2.1 (p1 + 2).toNatClampNeg)), (2, .int (T.2.2.2.2.2.2.2.2.2.2.2.2.2.2.2.1 (p1 + 1).toNatClampNeg)), (0, .ref (a 0)), (1, .int p1)]) hx hb dX7_does_17 rfl hl (by decide) rfl (fun ls hl => ?_)
  refine lv_aload_n hx hb dX7_does_18 rfl (lv_at hl 2 rfl) ?_
  refine pq_get S hK hP inX7 0 rfl rfl 15 (by decide) fl_X7_24 rfl (v := .ref (a 4)) rfl dX7_does_19 ?_
  refine lv_iload_n hx hb dX7_does_22 rfl (lv_at hl 3 rfl) ?_
  by_cases h3 : (p1 < 0 ∨ 366 ≤ p1.toNatClampNeg)
  · exact absurd (pq_ifp h3 hf) (fun h9 => by cases h9)
  replace hf := pq_ifn h3 hf
  refine va_iald hx hb hK.1 hP 4 0 rfl rfl h3 dX7_does_23 ?_
  by_cases h4 : (T.2.2.2.2.2.2.2.2.2.2.2.2.2.2.2.1 p1.toNatClampNeg) = 100
  · replace hf := pq_ifp h4 hf
    refine lv_tableIn (off := 103) (tgt := 127) hx hb dX7_does_24 (by rw [h4]; decide) (by rw [h4]; decide) (by rw [h4]; rfl) (by decide) ?_
    refine lv_aload_n hx hb dX7_does_127 rfl (lv_at hl 2 rfl) ?_
    refine lv_iload_n hx hb dX7_does_128 rfl (lv_at hl 1 rfl) ?_
    obtain ⟨q6, e5, hf⟩ := pq_bind hf
    refine pq_cVi S (c_X7_deletes l g a T (T.2.2.2.2.2.2.2.2.2.2.2.2.2.2.2.1 (p1 + 1).toNatClampNeg) q6.1 q6.2 e5) vv_X7_134 hK hP hD hS hA rfl rfl rfl rfl rfl hl.1 (Nat.le_of_ble_eq_true rfl) dX7_does_129 (by decide) (by decide) ⟨Nat.le_refl _, Nat.le_refl _⟩ (fun H9 locs hk hP1 hS => ?_)
    replace hP := hP1
    replace hP : va_P g.1 pq_cl (modW g a q6.2) H9 := hP
    replace hD : va_D A (modW g a q6.2) := pq_adr hD (ad_X7 _ _)
    clear hk
    generalize H9 = H at hP hS ⊢
    obtain ⟨h8, h9⟩ := pq_pair hf
    exact hend _ _ _ _ _ dX7_does_132 rfl h8 (by rw [← h9]; exact hP) hS
  replace hf := pq_ifn h4 hf
  by_cases h7 : (T.2.2.2.2.2.2.2.2.2.2.2.2.2.2.2.1 p1.toNatClampNeg) = 105
  · replace hf := pq_ifp h7 hf
    refine lv_tableIn (off := 96) (tgt := 120) hx hb dX7_does_24 (by rw [h7]; decide) (by rw [h7]; decide) (by rw [h7]; rfl) (by decide) ?_
    refine lv_aload_n hx hb dX7_does_120 rfl (lv_at hl 2 rfl) ?_
    refine lv_iload_n hx hb dX7_does_121 rfl (lv_at hl 1 rfl) ?_
    refine lv_iload_n hx hb dX7_does_122 rfl (lv_at hl 0 rfl) ?_
    obtain ⟨q9, e8, hf⟩ := pq_bind hf
    refine pq_cVi S (c_X7_inserts l g a T (T.2.2.2.2.2.2.2.2.2.2.2.2.2.2.2.1 (p1 + 1).toNatClampNeg) (T.2.2.2.2.2.2.2.2.2.2.2.2.2.2.2.1 (p1 + 2).toNatClampNeg) q9.1 q9.2 e8) vv_X7_124 hK hP hD hS hA rfl rfl rfl rfl rfl hl.1 (Nat.le_of_ble_eq_true rfl) dX7_does_123 (by decide) (by decide) ⟨Nat.le_refl _, Nat.le_refl _⟩ (fun H9 locs hk hP1 hS => ?_)
    replace hP := hP1
    replace hP : va_P g.1 pq_cl (modW g a q9.2) H9 := hP
    replace hD : va_D A (modW g a q9.2) := pq_adr hD (ad_X7 _ _)
    clear hk
    generalize H9 = H at hP hS ⊢
    obtain ⟨h8, h9⟩ := pq_pair hf
    exact hend _ _ _ _ _ dX7_does_126 rfl h8 (by rw [← h9]; exact hP) hS
  replace hf := pq_ifn h7 hf
  by_cases h10 : (T.2.2.2.2.2.2.2.2.2.2.2.2.2.2.2.1 p1.toNatClampNeg) = 109
  · replace hf := pq_ifp h10 hf
    refine lv_tableIn (off := 116) (tgt := 140) hx hb dX7_does_24 (by rw [h10]; decide) (by rw [h10]; decide) (by rw [h10]; rfl) (by decide) ?_
    refine lv_aload_n hx hb dX7_does_140 rfl (lv_at hl 2 rfl) ?_
    refine lv_iload_n hx hb dX7_does_141 rfl (lv_at hl 1 rfl) ?_
    refine lv_iload_n hx hb dX7_does_142 rfl (lv_at hl 0 rfl) ?_
    obtain ⟨q12, e11, hf⟩ := pq_bind hf
    refine pq_cVi S (c_X7_moves l g a T (T.2.2.2.2.2.2.2.2.2.2.2.2.2.2.2.1 (p1 + 1).toNatClampNeg) (T.2.2.2.2.2.2.2.2.2.2.2.2.2.2.2.1 (p1 + 2).toNatClampNeg) q12.1 q12.2 e11) vv_X7_140 hK hP hD hS hA rfl rfl rfl rfl rfl hl.1 (Nat.le_of_ble_eq_true rfl) dX7_does_143 (by decide) (by decide) ⟨Nat.le_refl _, Nat.le_refl _⟩ (fun H9 locs hk hP1 hS => ?_)
    replace hP := hP1
    replace hP : va_P g.1 pq_cl (modW g a q12.2) H9 := hP
    replace hD : va_D A (modW g a q12.2) := pq_adr hD (ad_X7 _ _)
    clear hk
    generalize H9 = H at hP hS ⊢
    obtain ⟨h8, h9⟩ := pq_pair hf
    exact hend _ _ _ _ _ dX7_does_146 rfl h8 (by rw [← h9]; exact hP) hS
  replace hf := pq_ifn h10 hf
  by_cases h13 : (T.2.2.2.2.2.2.2.2.2.2.2.2.2.2.2.1 p1.toNatClampNeg) = 112
  · replace hf := pq_ifp h13 hf
    refine lv_tableIn (off := 109) (tgt := 133) hx hb dX7_does_24 (by rw [h13]; decide) (by rw [h13]; decide) (by rw [h13]; rfl) (by decide) ?_
    refine lv_aload_n hx hb dX7_does_133 rfl (lv_at hl 2 rfl) ?_
    refine lv_iload_n hx hb dX7_does_134 rfl (lv_at hl 1 rfl) ?_
    refine lv_iload_n hx hb dX7_does_135 rfl (lv_at hl 0 rfl) ?_
    obtain ⟨q15, e14, hf⟩ := pq_bind hf
    refine pq_cVi S (c_X7_prefers l g a T (T.2.2.2.2.2.2.2.2.2.2.2.2.2.2.2.1 (p1 + 1).toNatClampNeg) (T.2.2.2.2.2.2.2.2.2.2.2.2.2.2.2.1 (p1 + 2).toNatClampNeg) q15.1 q15.2 e14) vv_X7_137 hK hP hD hS hA rfl rfl rfl rfl rfl hl.1 (Nat.le_of_ble_eq_true rfl) dX7_does_136 (by decide) (by decide) ⟨Nat.le_refl _, Nat.le_refl _⟩ (fun H9 locs hk hP1 hS => ?_)
    replace hP := hP1
    replace hP : va_P g.1 pq_cl (modW g a q15.2) H9 := hP
    replace hD : va_D A (modW g a q15.2) := pq_adr hD (ad_X7 _ _)
    clear hk
    generalize H9 = H at hP hS ⊢
    obtain ⟨h8, h9⟩ := pq_pair hf
    exact hend _ _ _ _ _ dX7_does_139 rfl h8 (by rw [← h9]; exact hP) hS
  replace hf := pq_ifn h13 hf
  by_cases h16 : (T.2.2.2.2.2.2.2.2.2.2.2.2.2.2.2.1 p1.toNatClampNeg) = 114
  · replace hf := pq_ifp h16 hf
    refine lv_tableIn (off := 123) (tgt := 147) hx hb dX7_does_24 (by rw [h16]; decide) (by rw [h16]; decide) (by rw [h16]; rfl) (by decide) ?_
    refine lv_aload_n hx hb dX7_does_147 rfl (lv_at hl 2 rfl) ?_
    refine lv_iload_n hx hb dX7_does_148 rfl (lv_at hl 1 rfl) ?_
    refine lv_iload_n hx hb dX7_does_149 rfl (lv_at hl 0 rfl) ?_
    obtain ⟨q18, e17, hf⟩ := pq_bind hf
    refine pq_cVi S (c_X7_clears l g a T (T.2.2.2.2.2.2.2.2.2.2.2.2.2.2.2.1 (p1 + 1).toNatClampNeg) (T.2.2.2.2.2.2.2.2.2.2.2.2.2.2.2.1 (p1 + 2).toNatClampNeg) q18.1 q18.2 e17) vv_X7_146 hK hP hD hS hA rfl rfl rfl rfl rfl hl.1 (Nat.le_of_ble_eq_true rfl) dX7_does_150 (by decide) (by decide) ⟨Nat.le_refl _, Nat.le_refl _⟩ (fun H9 locs hk hP1 hS => ?_)
    replace hP := hP1
    replace hP : va_P g.1 pq_cl (modW g a q18.2) H9 := hP
    replace hD : va_D A (modW g a q18.2) := pq_adr hD (ad_X7 _ _)
    clear hk
    generalize H9 = H at hP hS ⊢
    obtain ⟨h8, h9⟩ := pq_pair hf
    exact hend _ _ _ _ _ dX7_does_153 rfl h8 (by rw [← h9]; exact hP) hS
  replace hf := pq_ifn h16 hf
  by_cases h19 : (T.2.2.2.2.2.2.2.2.2.2.2.2.2.2.2.1 p1.toNatClampNeg) = 119
  · replace hf := pq_ifp h19 hf
    refine lv_tableIn (off := 130) (tgt := 154) hx hb dX7_does_24 (by rw [h19]; decide) (by rw [h19]; decide) (by rw [h19]; rfl) (by decide) ?_
    refine lv_aload_n hx hb dX7_does_154 rfl (lv_at hl 2 rfl) ?_
    refine lv_iload_n hx hb dX7_does_155 rfl (lv_at hl 1 rfl) ?_
    refine lv_iload_n hx hb dX7_does_156 rfl (lv_at hl 0 rfl) ?_
    refine lv_aload_n hx hb dX7_does_157 rfl (lv_at hl 2 rfl) ?_
    refine pq_get S hK hP inX7 0 rfl rfl 15 (by decide) fl_X7_24 rfl (v := .ref (a 4)) rfl dX7_does_158 ?_
    refine lv_iload_n hx hb dX7_does_161 rfl (lv_at hl 3 rfl) ?_
    refine lv_iconst (v := 3) hx hb dX7_does_162 (by decide) ?_
    refine lv_iadd hx hb dX7_does_163 ?_
    by_cases h20 : ((p1 + 3) < 0 ∨ 366 ≤ (p1 + 3).toNatClampNeg)
    · exact absurd (pq_ifp h20 hf) (fun h9 => by cases h9)
    replace hf := pq_ifn h20 hf
    refine va_iald hx hb hK.1 hP 4 0 rfl rfl h20 dX7_does_164 ?_
    refine lv_aload_n hx hb dX7_does_165 rfl (lv_at hl 2 rfl) ?_
    refine pq_get S hK hP inX7 0 rfl rfl 15 (by decide) fl_X7_24 rfl (v := .ref (a 4)) rfl dX7_does_166 ?_
    refine lv_iload_n hx hb dX7_does_169 rfl (lv_at hl 3 rfl) ?_
    refine lv_iconst (v := 4) hx hb dX7_does_170 (by decide) ?_
    refine lv_iadd hx hb dX7_does_171 ?_
    by_cases h21 : ((p1 + 4) < 0 ∨ 366 ≤ (p1 + 4).toNatClampNeg)
    · exact absurd (pq_ifp h21 hf) (fun h9 => by cases h9)
    replace hf := pq_ifn h21 hf
    refine va_iald hx hb hK.1 hP 4 0 rfl rfl h21 dX7_does_172 ?_
    refine lv_aload_n hx hb dX7_does_173 rfl (lv_at hl 2 rfl) ?_
    refine pq_get S hK hP inX7 0 rfl rfl 15 (by decide) fl_X7_24 rfl (v := .ref (a 4)) rfl dX7_does_174 ?_
    refine lv_iload_n hx hb dX7_does_177 rfl (lv_at hl 3 rfl) ?_
    refine lv_iconst (v := 5) hx hb dX7_does_178 (by decide) ?_
    refine lv_iadd hx hb dX7_does_179 ?_
    by_cases h22 : ((p1 + 5) < 0 ∨ 366 ≤ (p1 + 5).toNatClampNeg)
    · exact absurd (pq_ifp h22 hf) (fun h9 => by cases h9)
    replace hf := pq_ifn h22 hf
    refine va_iald hx hb hK.1 hP 4 0 rfl rfl h22 dX7_does_180 ?_
    obtain ⟨q24, e23, hf⟩ := pq_bind hf
    refine pq_cVi S (c_X7_sets l g a T (T.2.2.2.2.2.2.2.2.2.2.2.2.2.2.2.1 (p1 + 1).toNatClampNeg) (T.2.2.2.2.2.2.2.2.2.2.2.2.2.2.2.1 (p1 + 2).toNatClampNeg) (T.2.2.2.2.2.2.2.2.2.2.2.2.2.2.2.1 (p1 + 3).toNatClampNeg) (T.2.2.2.2.2.2.2.2.2.2.2.2.2.2.2.1 (p1 + 4).toNatClampNeg) (T.2.2.2.2.2.2.2.2.2.2.2.2.2.2.2.1 (p1 + 5).toNatClampNeg) q24.1 q24.2 e23) vv_X7_156 hK hP hD hS hA rfl rfl rfl rfl rfl hl.1 (Nat.le_of_ble_eq_true rfl) dX7_does_181 (by decide) (by decide) ⟨Nat.le_refl _, Nat.le_refl _⟩ (fun H9 locs hk hP1 hS => ?_)
    replace hP := hP1
    replace hP : va_P g.1 pq_cl (modW g a q24.2) H9 := hP
    replace hD : va_D A (modW g a q24.2) := pq_adr hD (ad_X7 _ _)
    clear hk
    generalize H9 = H at hP hS ⊢
    obtain ⟨h8, h9⟩ := pq_pair hf
    exact hend _ _ _ _ _ dX7_does_184 rfl h8 (by rw [← h9]; exact hP) hS
  replace hf := pq_ifn h19 hf
  refine pq_tdef hx hb dX7_does_24 [100, 105, 109, 112, 114, 119] (by intro k9 h9; simp only [List.mem_cons, List.not_mem_nil, or_false] at h9; rcases h9 with rfl | rfl | rfl | rfl | rfl | rfl <;> assumption) (by decide) (by decide) (tgt := 185) (by decide) ?_
  refine lv_aload_n hx hb dX7_does_185 rfl (lv_at hl 2 rfl) ?_
  refine lv_iload_n hx hb dX7_does_186 rfl (lv_at hl 1 rfl) ?_
  obtain ⟨q26, e25, hf⟩ := pq_bind hf
  refine pq_cVi S (c_X7_removes l g a T (T.2.2.2.2.2.2.2.2.2.2.2.2.2.2.2.1 (p1 + 1).toNatClampNeg) q26.1 q26.2 e25) vv_X7_159 hK hP hD hS hA rfl rfl rfl rfl rfl hl.1 (Nat.le_of_ble_eq_true rfl) dX7_does_187 (by decide) (by decide) ⟨Nat.le_refl _, Nat.le_refl _⟩ (fun H9 locs hk hP1 hS => ?_)
  replace hP := hP1
  replace hP : va_P g.1 pq_cl (modW g a q26.2) H9 := hP
  replace hD : va_D A (modW g a q26.2) := pq_adr hD (ad_X7 _ _)
  clear hk
  generalize H9 = H at hP hS ⊢
  obtain ⟨h8, h9⟩ := pq_pair hf
  exact hend _ _ _ _ _ dX7_does_190 rfl h8 (by rw [← h9]; exact hP) hS
def f_X7_execute_c91 (T : ModS) (v1 : Int32) : Option (Int32 × (ModS)) :=
    (f_X7_ends (T.1, T.2.1, T.2.2.1, T.2.2.2.1, T.2.2.2.2.2.2.2.2.2.2.2.2.2.2.2.2, T.2.2.2.2.2.1, T.2.2.2.2.2.2.1, T.2.2.2.2.2.2.2.1, T.2.2.2.2.2.2.2.2.1, T.2.2.2.2.2.2.2.2.2.1, T.2.2.2.2.2.2.2.2.2.2.1, T.2.2.2.2.2.2.2.2.2.2.2.1, T.2.2.2.2.2.2.2.2.2.2.2.2.1, T.2.2.2.2.2.2.2.2.2.2.2.2.2.1, T.2.2.2.2.2.2.2.2.2.2.2.2.2.2.1, T.2.2.2.2.2.2.2.2.2.2.2.2.2.2.2.1, T.2.2.2.2.2.2.2.2.2.2.2.2.2.2.2.2) v1 2 2 3 2).bind fun q2 =>
    some (q2.1, q2.2)
def f_X7_execute_c66 (T : ModS) (v1 : Int32) (v2 : Int32) : Option (Int32 × (ModS)) :=
    if v1 = 3 then
      f_X7_execute_c91 (T.1, T.2.1, T.2.2.1, T.2.2.2.1, T.2.2.2.2.1, 4, (v2 - 1), T.2.2.2.2.2.1, T.2.2.2.2.2.2.2.2.1, T.2.2.2.2.2.2.2.2.2.1, T.2.2.2.2.2.2.2.2.2.2.1, T.2.2.2.2.2.2.2.2.2.2.2.1, T.2.2.2.2.2.2.2.2.2.2.2.2.1, T.2.2.2.2.2.2.2.2.2.2.2.2.2.1, T.2.2.2.2.2.2.2.2.2.2.2.2.2.2.1, T.2.2.2.2.2.2.2.2.2.2.2.2.2.2.2.1, T.2.2.2.2.2.2.2.2.2.2.2.2.2.2.2.2) v1
    else
      f_X7_execute_c91 T v1
def f_X7_execute_c39 : Nat → ModS → Int32 → Int32 → Option (Int32 × (ModS))
  | 0, _, _, _ => none
  | n + 1, T, v1, v2 =>
    if T.2.2.2.2.2.2.2.2.2.2.2.2.2.2.2.2 ≤ v2 then
      f_X7_execute_c66 T v1 v2
    else
      if v1 = 0 then
        (f_X7_does T (6 * v2)).bind fun q7 =>
        f_X7_execute_c39 n q7.2 q7.1 (v2 + 1)
      else
        f_X7_execute_c66 T v1 v2
def f_X7_execute (T : ModS) : Option (Int32 × (ModS)) :=
    (f_X7_parse T).bind fun q9 =>
    if q9.2.2.2.2.2.2.2.2.2.2.2.2.2.1 < 0 then
      (f_X7_begins (q9.1, q9.2.1, q9.2.2.1, q9.2.2.2.1, q9.2.2.2.2.1, q9.2.2.2.2.2.1, q9.2.2.2.2.2.2.1, q9.2.2.2.2.2.2.2.1, q9.2.2.2.2.2.2.2.2.1, q9.2.2.2.2.2.2.2.2.2.1, q9.2.2.2.2.2.2.2.2.2.2.1, 0, q9.2.2.2.2.2.2.2.2.2.2.2.2.1, q9.2.2.2.2.2.2.2.2.2.2.2.2.2.1, q9.2.2.2.2.2.2.2.2.2.2.2.2.2.2.1, q9.2.2.2.2.2.2.2.2.2.2.2.2.2.2.2.1, q9.2.2.2.2.2.2.2.2.2.2.2.2.2.2.2.2)).bind fun q12 =>
      f_X7_execute_c39 200 q12 0 0
    else
      some (0, (1, q9.2.1, q9.2.2.1, q9.2.2.2.1, q9.2.2.2.2.1, q9.2.2.2.2.2.1, q9.2.2.2.2.2.2.1, q9.2.2.2.2.2.2.2.1, q9.2.2.2.2.2.2.2.2.1, q9.2.2.2.2.2.2.2.2.2.1, q9.2.2.2.2.2.2.2.2.2.2.1, 0, q9.2.2.2.2.2.2.2.2.2.2.2.2.1, q9.2.2.2.2.2.2.2.2.2.2.2.2.2.1, q9.2.2.2.2.2.2.2.2.2.2.2.2.2.1, q9.2.2.2.2.2.2.2.2.2.2.2.2.2.2.2.1, q9.2.2.2.2.2.2.2.2.2.2.2.2.2.2.2.2))
set_option maxHeartbeats 4000000 in
set_option maxRecDepth 100000 in
theorem c_X7_execute (l : Launch) (g : pq_g) (a : Nat → Nat) (T : ModS) (r : Int32) (T1 : ModS) (hf : f_X7_execute T = some (r, T1)) : pq_Mi l yX7_execute cX7_execute 3 .int 8 g (modW g a T) [.ref (a 0)] r (modW g a T1) := by
  rw [f_X7_execute] at hf
  refine pq_Mi.of (own := RX7) (by decide) rfl (Nat.le_of_ble_eq_true rfl) rfl ?_
  intro p e s m below meth c ls Q A S hP hK hD hS hA hl hend
  obtain ⟨hx, hb, hml, hown, hts⟩ := id S
  have B91 : ∀ (T : ModS) (v1 : Int32) (ls : Array Slot) (H : Heap) (locs : List Loc), va_P g.1 pq_cl (modW g a T) H → va_D A (modW g a T) → va_S A s.heap H locs → lv_has ls 3 [(0, .ref (a 0)), (1, .int v1)] → f_X7_execute_c91 T v1 = some (r, T1) → W p l e (pq_rm 8 0 0) s m ([.ref (a 0)] : List Value).toArray below meth c H locs 0 0 Q (F0 m 91 ls []) := by
    intro T v1 ls H locs hP hD hS hl hf
    rw [f_X7_execute_c91] at hf
    refine lv_aload_n hx hb dX7_execute_91 rfl (lv_at hl 0 rfl) ?_
    refine lv_aload_n hx hb dX7_execute_92 rfl (lv_at hl 0 rfl) ?_
    refine pq_get S hK hP inX7 0 rfl rfl 16 (by decide) fl_X7_232 rfl (v := .int T.2.2.2.2.2.2.2.2.2.2.2.2.2.2.2.2) rfl dX7_execute_93 ?_
    refine pq_putf S hK hP hD hS inX7 tyX7_ok nmX7 0 rfl rfl 4 (by decide) fl_X7_41 rfl rfl (ty := .int) rfl rfl rfl (Nat.le_of_ble_eq_true rfl) dX7_execute_96 (fun H locs hP hS => ?_)
    replace hP : va_P g.1 pq_cl (modW g a (T.1, T.2.1, T.2.2.1, T.2.2.2.1, T.2.2.2.2.2.2.2.2.2.2.2.2.2.2.2.2, T.2.2.2.2.2.1, T.2.2.2.2.2.2.1, T.2.2.2.2.2.2.2.1, T.2.2.2.2.2.2.2.2.1, T.2.2.2.2.2.2.2.2.2.1, T.2.2.2.2.2.2.2.2.2.2.1, T.2.2.2.2.2.2.2.2.2.2.2.1, T.2.2.2.2.2.2.2.2.2.2.2.2.1, T.2.2.2.2.2.2.2.2.2.2.2.2.2.1, T.2.2.2.2.2.2.2.2.2.2.2.2.2.2.1, T.2.2.2.2.2.2.2.2.2.2.2.2.2.2.2.1, T.2.2.2.2.2.2.2.2.2.2.2.2.2.2.2.2)) H := hP
    replace hD : va_D A (modW g a (T.1, T.2.1, T.2.2.1, T.2.2.2.1, T.2.2.2.2.2.2.2.2.2.2.2.2.2.2.2.2, T.2.2.2.2.2.1, T.2.2.2.2.2.2.1, T.2.2.2.2.2.2.2.1, T.2.2.2.2.2.2.2.2.1, T.2.2.2.2.2.2.2.2.2.1, T.2.2.2.2.2.2.2.2.2.2.1, T.2.2.2.2.2.2.2.2.2.2.2.1, T.2.2.2.2.2.2.2.2.2.2.2.2.1, T.2.2.2.2.2.2.2.2.2.2.2.2.2.1, T.2.2.2.2.2.2.2.2.2.2.2.2.2.2.1, T.2.2.2.2.2.2.2.2.2.2.2.2.2.2.2.1, T.2.2.2.2.2.2.2.2.2.2.2.2.2.2.2.2)) := pq_adr hD (ad_X7 _ _)
    refine lv_aload_n hx hb dX7_execute_99 rfl (lv_at hl 0 rfl) ?_
    refine lv_iload_n hx hb dX7_execute_100 rfl (lv_at hl 1 rfl) ?_
    refine lv_iconst (v := 2) hx hb dX7_execute_101 (by decide) ?_
    refine lv_iconst (v := 2) hx hb dX7_execute_102 (by decide) ?_
    refine lv_iconst (v := 3) hx hb dX7_execute_103 (by decide) ?_
    refine lv_iconst (v := 2) hx hb dX7_execute_104 (by decide) ?_
    obtain ⟨q2, e1, hf⟩ := pq_bind hf
    refine pq_cVi S (c_X7_ends l g a (T.1, T.2.1, T.2.2.1, T.2.2.2.1, T.2.2.2.2.2.2.2.2.2.2.2.2.2.2.2.2, T.2.2.2.2.2.1, T.2.2.2.2.2.2.1, T.2.2.2.2.2.2.2.1, T.2.2.2.2.2.2.2.2.1, T.2.2.2.2.2.2.2.2.2.1, T.2.2.2.2.2.2.2.2.2.2.1, T.2.2.2.2.2.2.2.2.2.2.2.1, T.2.2.2.2.2.2.2.2.2.2.2.2.1, T.2.2.2.2.2.2.2.2.2.2.2.2.2.1, T.2.2.2.2.2.2.2.2.2.2.2.2.2.2.1, T.2.2.2.2.2.2.2.2.2.2.2.2.2.2.2.1, T.2.2.2.2.2.2.2.2.2.2.2.2.2.2.2.2) v1 2 2 3 2 q2.1 q2.2 e1) vv_X7_127 hK hP hD hS hA rfl rfl rfl rfl rfl hl.1 (Nat.le_of_ble_eq_true rfl) dX7_execute_105 (by decide) (by decide) ⟨Nat.le_refl _, Nat.le_refl _⟩ (fun H9 locs hk hP1 hS => ?_)
    replace hP := hP1
    replace hP : va_P g.1 pq_cl (modW g a q2.2) H9 := hP
    replace hD : va_D A (modW g a q2.2) := pq_adr hD (ad_X7 _ _)
    clear hk
    generalize H9 = H at hP hS ⊢
    obtain ⟨h8, h9⟩ := pq_pair hf
    exact hend _ _ _ _ _ dX7_execute_108 rfl h8 (by rw [← h9]; exact hP) hS
  have B66 : ∀ (T : ModS) (v1 : Int32) (v2 : Int32) (ls : Array Slot) (H : Heap) (locs : List Loc), va_P g.1 pq_cl (modW g a T) H → va_D A (modW g a T) → va_S A s.heap H locs → lv_has ls 3 [(0, .ref (a 0)), (1, .int v1), (2, .int v2)] → f_X7_execute_c66 T v1 v2 = some (r, T1) → W p l e (pq_rm 8 0 0) s m ([.ref (a 0)] : List Value).toArray below meth c H locs 0 0 Q (F0 m 66 ls []) := by
    intro T v1 v2 ls H locs hP hD hS hl hf
    rw [f_X7_execute_c66] at hf
    refine lv_iload_n hx hb dX7_execute_66 rfl (lv_at hl 1 rfl) ?_
    refine lv_iconst (v := 3) hx hb dX7_execute_67 (by decide) ?_
    refine lv_icmp_ne (tgt := 91) hx hb dX7_execute_68 (by decide) (fun h3 => ?_) (fun h3 => ?_)
    · replace hf := pq_ifn h3 hf
      exact B91 T v1 ls _ _ hP hD hS (lv_sub hl [0, 1] rfl) hf
    · replace hf := pq_ifp h3 hf
      refine lv_aload_n hx hb dX7_execute_71 rfl (lv_at hl 0 rfl) ?_
      refine lv_aload_n hx hb dX7_execute_72 rfl (lv_at hl 0 rfl) ?_
      refine pq_get S hK hP inX7 0 rfl rfl 5 (by decide) fl_X7_44 rfl (v := .int T.2.2.2.2.2.1) rfl dX7_execute_73 ?_
      refine pq_putf S hK hP hD hS inX7 tyX7_ok nmX7 0 rfl rfl 7 (by decide) fl_X7_50 rfl rfl (ty := .int) rfl rfl rfl (Nat.le_of_ble_eq_true rfl) dX7_execute_76 (fun H locs hP hS => ?_)
      replace hP : va_P g.1 pq_cl (modW g a (T.1, T.2.1, T.2.2.1, T.2.2.2.1, T.2.2.2.2.1, T.2.2.2.2.2.1, T.2.2.2.2.2.2.1, T.2.2.2.2.2.1, T.2.2.2.2.2.2.2.2.1, T.2.2.2.2.2.2.2.2.2.1, T.2.2.2.2.2.2.2.2.2.2.1, T.2.2.2.2.2.2.2.2.2.2.2.1, T.2.2.2.2.2.2.2.2.2.2.2.2.1, T.2.2.2.2.2.2.2.2.2.2.2.2.2.1, T.2.2.2.2.2.2.2.2.2.2.2.2.2.2.1, T.2.2.2.2.2.2.2.2.2.2.2.2.2.2.2.1, T.2.2.2.2.2.2.2.2.2.2.2.2.2.2.2.2)) H := hP
      replace hD : va_D A (modW g a (T.1, T.2.1, T.2.2.1, T.2.2.2.1, T.2.2.2.2.1, T.2.2.2.2.2.1, T.2.2.2.2.2.2.1, T.2.2.2.2.2.1, T.2.2.2.2.2.2.2.2.1, T.2.2.2.2.2.2.2.2.2.1, T.2.2.2.2.2.2.2.2.2.2.1, T.2.2.2.2.2.2.2.2.2.2.2.1, T.2.2.2.2.2.2.2.2.2.2.2.2.1, T.2.2.2.2.2.2.2.2.2.2.2.2.2.1, T.2.2.2.2.2.2.2.2.2.2.2.2.2.2.1, T.2.2.2.2.2.2.2.2.2.2.2.2.2.2.2.1, T.2.2.2.2.2.2.2.2.2.2.2.2.2.2.2.2)) := pq_adr hD (ad_X7 _ _)
      refine lv_aload_n hx hb dX7_execute_79 rfl (lv_at hl 0 rfl) ?_
      refine lv_iconst (v := 4) hx hb dX7_execute_80 (by decide) ?_
      refine pq_putf S hK hP hD hS inX7 tyX7_ok nmX7 0 rfl rfl 5 (by decide) fl_X7_44 rfl rfl (ty := .int) rfl rfl rfl (Nat.le_of_ble_eq_true rfl) dX7_execute_81 (fun H locs hP hS => ?_)
      replace hP : va_P g.1 pq_cl (modW g a (T.1, T.2.1, T.2.2.1, T.2.2.2.1, T.2.2.2.2.1, 4, T.2.2.2.2.2.2.1, T.2.2.2.2.2.1, T.2.2.2.2.2.2.2.2.1, T.2.2.2.2.2.2.2.2.2.1, T.2.2.2.2.2.2.2.2.2.2.1, T.2.2.2.2.2.2.2.2.2.2.2.1, T.2.2.2.2.2.2.2.2.2.2.2.2.1, T.2.2.2.2.2.2.2.2.2.2.2.2.2.1, T.2.2.2.2.2.2.2.2.2.2.2.2.2.2.1, T.2.2.2.2.2.2.2.2.2.2.2.2.2.2.2.1, T.2.2.2.2.2.2.2.2.2.2.2.2.2.2.2.2)) H := hP
      replace hD : va_D A (modW g a (T.1, T.2.1, T.2.2.1, T.2.2.2.1, T.2.2.2.2.1, 4, T.2.2.2.2.2.2.1, T.2.2.2.2.2.1, T.2.2.2.2.2.2.2.2.1, T.2.2.2.2.2.2.2.2.2.1, T.2.2.2.2.2.2.2.2.2.2.1, T.2.2.2.2.2.2.2.2.2.2.2.1, T.2.2.2.2.2.2.2.2.2.2.2.2.1, T.2.2.2.2.2.2.2.2.2.2.2.2.2.1, T.2.2.2.2.2.2.2.2.2.2.2.2.2.2.1, T.2.2.2.2.2.2.2.2.2.2.2.2.2.2.2.1, T.2.2.2.2.2.2.2.2.2.2.2.2.2.2.2.2)) := pq_adr hD (ad_X7 _ _)
      refine lv_aload_n hx hb dX7_execute_84 rfl (lv_at hl 0 rfl) ?_
      refine lv_iload_n hx hb dX7_execute_85 rfl (lv_at hl 2 rfl) ?_
      refine lv_iconst (v := 1) hx hb dX7_execute_86 (by decide) ?_
      refine lv_isub hx hb dX7_execute_87 ?_
      refine pq_putf S hK hP hD hS inX7 tyX7_ok nmX7 0 rfl rfl 6 (by decide) fl_X7_47 rfl rfl (ty := .int) rfl rfl rfl (Nat.le_of_ble_eq_true rfl) dX7_execute_88 (fun H locs hP hS => ?_)
      replace hP : va_P g.1 pq_cl (modW g a (T.1, T.2.1, T.2.2.1, T.2.2.2.1, T.2.2.2.2.1, 4, (v2 - 1), T.2.2.2.2.2.1, T.2.2.2.2.2.2.2.2.1, T.2.2.2.2.2.2.2.2.2.1, T.2.2.2.2.2.2.2.2.2.2.1, T.2.2.2.2.2.2.2.2.2.2.2.1, T.2.2.2.2.2.2.2.2.2.2.2.2.1, T.2.2.2.2.2.2.2.2.2.2.2.2.2.1, T.2.2.2.2.2.2.2.2.2.2.2.2.2.2.1, T.2.2.2.2.2.2.2.2.2.2.2.2.2.2.2.1, T.2.2.2.2.2.2.2.2.2.2.2.2.2.2.2.2)) H := hP
      replace hD : va_D A (modW g a (T.1, T.2.1, T.2.2.1, T.2.2.2.1, T.2.2.2.2.1, 4, (v2 - 1), T.2.2.2.2.2.1, T.2.2.2.2.2.2.2.2.1, T.2.2.2.2.2.2.2.2.2.1, T.2.2.2.2.2.2.2.2.2.2.1, T.2.2.2.2.2.2.2.2.2.2.2.1, T.2.2.2.2.2.2.2.2.2.2.2.2.1, T.2.2.2.2.2.2.2.2.2.2.2.2.2.1, T.2.2.2.2.2.2.2.2.2.2.2.2.2.2.1, T.2.2.2.2.2.2.2.2.2.2.2.2.2.2.2.1, T.2.2.2.2.2.2.2.2.2.2.2.2.2.2.2.2)) := pq_adr hD (ad_X7 _ _)
      exact B91 (T.1, T.2.1, T.2.2.1, T.2.2.2.1, T.2.2.2.2.1, 4, (v2 - 1), T.2.2.2.2.2.1, T.2.2.2.2.2.2.2.2.1, T.2.2.2.2.2.2.2.2.2.1, T.2.2.2.2.2.2.2.2.2.2.1, T.2.2.2.2.2.2.2.2.2.2.2.1, T.2.2.2.2.2.2.2.2.2.2.2.2.1, T.2.2.2.2.2.2.2.2.2.2.2.2.2.1, T.2.2.2.2.2.2.2.2.2.2.2.2.2.2.1, T.2.2.2.2.2.2.2.2.2.2.2.2.2.2.2.1, T.2.2.2.2.2.2.2.2.2.2.2.2.2.2.2.2) v1 ls _ _ hP hD hS (lv_sub hl [0, 1] rfl) hf
  have B39 : ∀ (n39 : Nat) (T : ModS) (v1 : Int32) (v2 : Int32) (ls : Array Slot) (H : Heap) (locs : List Loc), va_P g.1 pq_cl (modW g a T) H → va_D A (modW g a T) → va_S A s.heap H locs → lv_has ls 3 [(0, .ref (a 0)), (1, .int v1), (2, .int v2)] → f_X7_execute_c39 n39 T v1 v2 = some (r, T1) → W p l e (pq_rm 8 0 0) s m ([.ref (a 0)] : List Value).toArray below meth c H locs 0 0 Q (F0 m 39 ls []) := by
    intro n39
    induction n39 with
    | zero =>
      intro T v1 v2 ls H locs hP hD hS hl hf
      exact absurd hf (by simp [f_X7_execute_c39])
    | succ n39 ih39 =>
      intro T v1 v2 ls H locs hP hD hS hl hf
      rw [f_X7_execute_c39] at hf
      refine lv_iload_n hx hb dX7_execute_39 rfl (lv_at hl 2 rfl) ?_
      refine lv_aload_n hx hb dX7_execute_40 rfl (lv_at hl 0 rfl) ?_
      refine pq_get S hK hP inX7 0 rfl rfl 16 (by decide) fl_X7_232 rfl (v := .int T.2.2.2.2.2.2.2.2.2.2.2.2.2.2.2.2) rfl dX7_execute_41 ?_
      refine lv_icmp_ge (tgt := 66) hx hb dX7_execute_44 (by decide) (fun h4 => ?_) (fun h4 => ?_)
      · replace hf := pq_ifp h4 hf
        exact B66 T v1 v2 ls _ _ hP hD hS (lv_sub hl [0, 1, 2] rfl) hf
      · replace hf := pq_ifn h4 hf
        refine lv_iload_n hx hb dX7_execute_47 rfl (lv_at hl 1 rfl) ?_
        refine lv_if_ne (tgt := 66) hx hb dX7_execute_48 (by decide) (fun h5 => ?_) (fun h5 => ?_)
        · replace hf := pq_ifn h5 hf
          exact B66 T v1 v2 ls _ _ hP hD hS (lv_sub hl [0, 1, 2] rfl) hf
        · replace hf := pq_ifp h5 hf
          refine lv_aload_n hx hb dX7_execute_51 rfl (lv_at hl 0 rfl) ?_
          refine lv_bipush (v := 6) hx hb dX7_execute_52 (by decide) ?_
          refine lv_iload_n hx hb dX7_execute_54 rfl (lv_at hl 2 rfl) ?_
          refine lv_imul hx hb dX7_execute_55 ?_
          obtain ⟨q7, e6, hf⟩ := pq_bind hf
          refine pq_cVi S (c_X7_does l g a T (6 * v2) q7.1 q7.2 e6) vv_X7_244 hK hP hD hS hA rfl rfl rfl rfl rfl hl.1 (Nat.le_of_ble_eq_true rfl) dX7_execute_56 (by decide) (by decide) ⟨Nat.le_refl _, Nat.le_refl _⟩ (fun H9 locs hk hP1 hS => ?_)
          replace hP := hP1
          replace hP : va_P g.1 pq_cl (modW g a q7.2) H9 := hP
          replace hD : va_D A (modW g a q7.2) := pq_adr hD (ad_X7 _ _)
          clear hk
          generalize H9 = H at hP hS ⊢
          refine lv_istore_n (lv' := [(1, .int q7.1), (0, .ref (a 0)), (2, .int v2)]) hx hb dX7_execute_59 rfl hl (by decide) rfl (fun ls hl => ?_)
          refine lv_iinc (v := (v2 + 1)) (lv' := [(2, .int (v2 + 1)), (1, .int q7.1), (0, .ref (a 0))]) hx hb dX7_execute_60 hl (k := 2) rfl rfl (by decide) rfl (fun ls hl => ?_)
          refine lv_goto (tgt := 39) hx hb dX7_execute_63 (by decide) ?_
          exact ih39 q7.2 q7.1 (v2 + 1) ls _ _ hP hD hS (lv_sub hl [2, 1, 0] rfl) hf
  refine lv_aload_n hx hb dX7_execute_0 rfl (lv_at hl 0 rfl) ?_
  obtain ⟨q9, e8, hf⟩ := pq_bind hf
  refine pq_cVv S (c_X7_parse l g a T q9 e8) vv_X7_241 hK hP hD hS hA rfl rfl rfl rfl rfl hl.1 (Nat.le_of_ble_eq_true rfl) dX7_execute_1 (by decide) (by decide) ⟨Nat.le_refl _, Nat.le_refl _⟩ (fun H9 locs hk hP1 hS => ?_)
  replace hP := hP1
  replace hP : va_P g.1 pq_cl (modW g a q9) H9 := hP
  replace hD : va_D A (modW g a q9) := pq_adr hD (ad_X7 _ _)
  clear hk
  generalize H9 = H at hP hS ⊢
  refine lv_aload_n hx hb dX7_execute_4 rfl (lv_at hl 0 rfl) ?_
  refine lv_iconst (v := 0) hx hb dX7_execute_5 (by decide) ?_
  refine pq_putf S hK hP hD hS inX7 tyX7_ok nmX7 0 rfl rfl 11 (by decide) fl_X7_214 rfl rfl (ty := .int) rfl rfl rfl (Nat.le_of_ble_eq_true rfl) dX7_execute_6 (fun H locs hP hS => ?_)
  replace hP : va_P g.1 pq_cl (modW g a (q9.1, q9.2.1, q9.2.2.1, q9.2.2.2.1, q9.2.2.2.2.1, q9.2.2.2.2.2.1, q9.2.2.2.2.2.2.1, q9.2.2.2.2.2.2.2.1, q9.2.2.2.2.2.2.2.2.1, q9.2.2.2.2.2.2.2.2.2.1, q9.2.2.2.2.2.2.2.2.2.2.1, 0, q9.2.2.2.2.2.2.2.2.2.2.2.2.1, q9.2.2.2.2.2.2.2.2.2.2.2.2.2.1, q9.2.2.2.2.2.2.2.2.2.2.2.2.2.2.1, q9.2.2.2.2.2.2.2.2.2.2.2.2.2.2.2.1, q9.2.2.2.2.2.2.2.2.2.2.2.2.2.2.2.2)) H := hP
  replace hD : va_D A (modW g a (q9.1, q9.2.1, q9.2.2.1, q9.2.2.2.1, q9.2.2.2.2.1, q9.2.2.2.2.2.1, q9.2.2.2.2.2.2.1, q9.2.2.2.2.2.2.2.1, q9.2.2.2.2.2.2.2.2.1, q9.2.2.2.2.2.2.2.2.2.1, q9.2.2.2.2.2.2.2.2.2.2.1, 0, q9.2.2.2.2.2.2.2.2.2.2.2.2.1, q9.2.2.2.2.2.2.2.2.2.2.2.2.2.1, q9.2.2.2.2.2.2.2.2.2.2.2.2.2.2.1, q9.2.2.2.2.2.2.2.2.2.2.2.2.2.2.2.1, q9.2.2.2.2.2.2.2.2.2.2.2.2.2.2.2.2)) := pq_adr hD (ad_X7 _ _)
  refine lv_aload_n hx hb dX7_execute_9 rfl (lv_at hl 0 rfl) ?_
  refine pq_get S hK hP inX7 0 rfl rfl 13 (by decide) fl_X7_220 rfl (v := .int q9.2.2.2.2.2.2.2.2.2.2.2.2.2.1) rfl dX7_execute_10 ?_
  refine lv_if_lt (tgt := 31) hx hb dX7_execute_13 (by decide) (fun h10 => ?_) (fun h10 => ?_)
  · replace hf := pq_ifp h10 hf
    refine lv_aload_n hx hb dX7_execute_31 rfl (lv_at hl 0 rfl) ?_
    obtain ⟨q12, e11, hf⟩ := pq_bind hf
    refine pq_cVv S (c_X7_begins l g a (q9.1, q9.2.1, q9.2.2.1, q9.2.2.2.1, q9.2.2.2.2.1, q9.2.2.2.2.2.1, q9.2.2.2.2.2.2.1, q9.2.2.2.2.2.2.2.1, q9.2.2.2.2.2.2.2.2.1, q9.2.2.2.2.2.2.2.2.2.1, q9.2.2.2.2.2.2.2.2.2.2.1, 0, q9.2.2.2.2.2.2.2.2.2.2.2.2.1, q9.2.2.2.2.2.2.2.2.2.2.2.2.2.1, q9.2.2.2.2.2.2.2.2.2.2.2.2.2.2.1, q9.2.2.2.2.2.2.2.2.2.2.2.2.2.2.2.1, q9.2.2.2.2.2.2.2.2.2.2.2.2.2.2.2.2) q12 e11) vv_X7_121 hK hP hD hS hA rfl rfl rfl rfl rfl hl.1 (Nat.le_of_ble_eq_true rfl) dX7_execute_32 (by decide) (by decide) ⟨Nat.le_refl _, Nat.le_refl _⟩ (fun H9 locs hk hP1 hS => ?_)
    replace hP := hP1
    replace hP : va_P g.1 pq_cl (modW g a q12) H9 := hP
    replace hD : va_D A (modW g a q12) := pq_adr hD (ad_X7 _ _)
    clear hk
    generalize H9 = H at hP hS ⊢
    refine lv_iconst (v := 0) hx hb dX7_execute_35 (by decide) ?_
    refine lv_istore_n (lv' := [(1, .int 0), (0, .ref (a 0))]) hx hb dX7_execute_36 rfl hl (by decide) rfl (fun ls hl => ?_)
    refine lv_iconst (v := 0) hx hb dX7_execute_37 (by decide) ?_
    refine lv_istore_n (lv' := [(2, .int 0), (1, .int 0), (0, .ref (a 0))]) hx hb dX7_execute_38 rfl hl (by decide) rfl (fun ls hl => ?_)
    exact B39 200 q12 0 0 ls _ _ hP hD hS (lv_sub hl [2, 1, 0] rfl) hf
  · replace hf := pq_ifn h10 hf
    refine lv_aload_n hx hb dX7_execute_16 rfl (lv_at hl 0 rfl) ?_
    refine lv_aload_n hx hb dX7_execute_17 rfl (lv_at hl 0 rfl) ?_
    refine pq_get S hK hP inX7 0 rfl rfl 13 (by decide) fl_X7_220 rfl (v := .int q9.2.2.2.2.2.2.2.2.2.2.2.2.2.1) rfl dX7_execute_18 ?_
    refine pq_putf S hK hP hD hS inX7 tyX7_ok nmX7 0 rfl rfl 14 (by decide) fl_X7_20 rfl rfl (ty := .int) rfl rfl rfl (Nat.le_of_ble_eq_true rfl) dX7_execute_21 (fun H locs hP hS => ?_)
    replace hP : va_P g.1 pq_cl (modW g a (q9.1, q9.2.1, q9.2.2.1, q9.2.2.2.1, q9.2.2.2.2.1, q9.2.2.2.2.2.1, q9.2.2.2.2.2.2.1, q9.2.2.2.2.2.2.2.1, q9.2.2.2.2.2.2.2.2.1, q9.2.2.2.2.2.2.2.2.2.1, q9.2.2.2.2.2.2.2.2.2.2.1, 0, q9.2.2.2.2.2.2.2.2.2.2.2.2.1, q9.2.2.2.2.2.2.2.2.2.2.2.2.2.1, q9.2.2.2.2.2.2.2.2.2.2.2.2.2.1, q9.2.2.2.2.2.2.2.2.2.2.2.2.2.2.2.1, q9.2.2.2.2.2.2.2.2.2.2.2.2.2.2.2.2)) H := hP
    replace hD : va_D A (modW g a (q9.1, q9.2.1, q9.2.2.1, q9.2.2.2.1, q9.2.2.2.2.1, q9.2.2.2.2.2.1, q9.2.2.2.2.2.2.1, q9.2.2.2.2.2.2.2.1, q9.2.2.2.2.2.2.2.2.1, q9.2.2.2.2.2.2.2.2.2.1, q9.2.2.2.2.2.2.2.2.2.2.1, 0, q9.2.2.2.2.2.2.2.2.2.2.2.2.1, q9.2.2.2.2.2.2.2.2.2.2.2.2.2.1, q9.2.2.2.2.2.2.2.2.2.2.2.2.2.1, q9.2.2.2.2.2.2.2.2.2.2.2.2.2.2.2.1, q9.2.2.2.2.2.2.2.2.2.2.2.2.2.2.2.2)) := pq_adr hD (ad_X7 _ _)
    refine lv_aload_n hx hb dX7_execute_24 rfl (lv_at hl 0 rfl) ?_
    refine lv_iconst (v := 1) hx hb dX7_execute_25 (by decide) ?_
    refine pq_putf S hK hP hD hS inX7 tyX7_ok nmX7 0 rfl rfl 0 (by decide) fl_X7_27 rfl rfl (ty := .int) rfl rfl rfl (Nat.le_of_ble_eq_true rfl) dX7_execute_26 (fun H locs hP hS => ?_)
    replace hP : va_P g.1 pq_cl (modW g a (1, q9.2.1, q9.2.2.1, q9.2.2.2.1, q9.2.2.2.2.1, q9.2.2.2.2.2.1, q9.2.2.2.2.2.2.1, q9.2.2.2.2.2.2.2.1, q9.2.2.2.2.2.2.2.2.1, q9.2.2.2.2.2.2.2.2.2.1, q9.2.2.2.2.2.2.2.2.2.2.1, 0, q9.2.2.2.2.2.2.2.2.2.2.2.2.1, q9.2.2.2.2.2.2.2.2.2.2.2.2.2.1, q9.2.2.2.2.2.2.2.2.2.2.2.2.2.1, q9.2.2.2.2.2.2.2.2.2.2.2.2.2.2.2.1, q9.2.2.2.2.2.2.2.2.2.2.2.2.2.2.2.2)) H := hP
    replace hD : va_D A (modW g a (1, q9.2.1, q9.2.2.1, q9.2.2.2.1, q9.2.2.2.2.1, q9.2.2.2.2.2.1, q9.2.2.2.2.2.2.1, q9.2.2.2.2.2.2.2.1, q9.2.2.2.2.2.2.2.2.1, q9.2.2.2.2.2.2.2.2.2.1, q9.2.2.2.2.2.2.2.2.2.2.1, 0, q9.2.2.2.2.2.2.2.2.2.2.2.2.1, q9.2.2.2.2.2.2.2.2.2.2.2.2.2.1, q9.2.2.2.2.2.2.2.2.2.2.2.2.2.1, q9.2.2.2.2.2.2.2.2.2.2.2.2.2.2.2.1, q9.2.2.2.2.2.2.2.2.2.2.2.2.2.2.2.2)) := pq_adr hD (ad_X7 _ _)
    refine lv_iconst (v := 0) hx hb dX7_execute_29 (by decide) ?_
    obtain ⟨h8, h9⟩ := pq_pair hf
    exact hend _ _ _ _ _ dX7_execute_30 rfl h8 (by rw [← h9]; exact hP) hS
def f_X7_syntaxErrorOffset (T : ModS) : Option (Int32 × (ModS)) :=
    if T.2.2.2.2.2.2.2.2.2.2.2.2.2.2.1 = (-1) then
      (f_X7_isFine T 0).bind fun q3 =>
      if q3.1 = 0 then
        some (0, q3.2)
      else
        some (q3.2.2.2.2.2.2.2.2.2.2.2.2.2.2.2.1, q3.2)
    else
      (f_X7_isFine T 1).bind fun q6 =>
      if q6.1 = 0 then
        some (0, q6.2)
      else
        some (q6.2.2.2.2.2.2.2.2.2.2.2.2.2.2.2.1, q6.2)
set_option maxHeartbeats 4000000 in
set_option maxRecDepth 100000 in
theorem c_X7_syntaxErrorOffset (l : Launch) (g : pq_g) (a : Nat → Nat) (T : ModS) (r : Int32) (T1 : ModS) (hf : f_X7_syntaxErrorOffset T = some (r, T1)) : pq_Mi l yX7_syntaxErrorOffset cX7_syntaxErrorOffset 1 .int 2 g (modW g a T) [.ref (a 0)] r (modW g a T1) := by
  rw [f_X7_syntaxErrorOffset] at hf
  refine pq_Mi.of (own := RX7) (by decide) rfl (Nat.le_of_ble_eq_true rfl) rfl ?_
  intro p e s m below meth c ls Q A S hP hK hD hS hA hl hend
  obtain ⟨hx, hb, hml, hown, hts⟩ := id S
  refine lv_aload_n hx hb dX7_syntaxErrorOffset_0 rfl (lv_at hl 0 rfl) ?_
  refine lv_aload_n hx hb dX7_syntaxErrorOffset_1 rfl (lv_at hl 0 rfl) ?_
  refine pq_get S hK hP inX7 0 rfl rfl 14 (by decide) fl_X7_20 rfl (v := .int T.2.2.2.2.2.2.2.2.2.2.2.2.2.2.1) rfl dX7_syntaxErrorOffset_2 ?_
  refine lv_iconst (v := (-1)) hx hb dX7_syntaxErrorOffset_5 (by decide) ?_
  refine lv_icmp_eq (tgt := 13) hx hb dX7_syntaxErrorOffset_6 (by decide) (fun h1 => ?_) (fun h1 => ?_)
  · replace hf := pq_ifp h1 hf
    refine lv_iconst (v := 0) hx hb dX7_syntaxErrorOffset_13 (by decide) ?_
    obtain ⟨q3, e2, hf⟩ := pq_bind hf
    refine pq_cVi S (c_X7_isFine l g a T 0 q3.1 q3.2 e2) vv_X7_53 hK hP hD hS hA rfl rfl rfl rfl rfl hl.1 (Nat.le_of_ble_eq_true rfl) dX7_syntaxErrorOffset_14 (by decide) (by decide) ⟨Nat.le_refl _, Nat.le_refl _⟩ (fun H9 locs hk hP1 hS => ?_)
    replace hP := hP1
    replace hP : va_P g.1 pq_cl (modW g a q3.2) H9 := hP
    replace hD : va_D A (modW g a q3.2) := pq_adr hD (ad_X7 _ _)
    clear hk
    generalize H9 = H at hP hS ⊢
    refine lv_if_eq (tgt := 27) hx hb dX7_syntaxErrorOffset_17 (by decide) (fun h4 => ?_) (fun h4 => ?_)
    · replace hf := pq_ifp h4 hf
      refine lv_iconst (v := 0) hx hb dX7_syntaxErrorOffset_27 (by decide) ?_
      obtain ⟨h8, h9⟩ := pq_pair hf
      exact hend _ _ _ _ _ dX7_syntaxErrorOffset_28 rfl h8 (by rw [← h9]; exact hP) hS
    · replace hf := pq_ifn h4 hf
      refine lv_aload_n hx hb dX7_syntaxErrorOffset_20 rfl (lv_at hl 0 rfl) ?_
      refine pq_get S hK hP inX7 0 rfl rfl 14 (by decide) fl_X7_20 rfl (v := .int q3.2.2.2.2.2.2.2.2.2.2.2.2.2.2.2.1) rfl dX7_syntaxErrorOffset_21 ?_
      refine lv_goto (tgt := 28) hx hb dX7_syntaxErrorOffset_24 (by decide) ?_
      obtain ⟨h8, h9⟩ := pq_pair hf
      exact hend _ _ _ _ _ dX7_syntaxErrorOffset_28 rfl h8 (by rw [← h9]; exact hP) hS
  · replace hf := pq_ifn h1 hf
    refine lv_iconst (v := 1) hx hb dX7_syntaxErrorOffset_9 (by decide) ?_
    refine lv_goto (tgt := 14) hx hb dX7_syntaxErrorOffset_10 (by decide) ?_
    obtain ⟨q6, e5, hf⟩ := pq_bind hf
    refine pq_cVi S (c_X7_isFine l g a T 1 q6.1 q6.2 e5) vv_X7_53 hK hP hD hS hA rfl rfl rfl rfl rfl hl.1 (Nat.le_of_ble_eq_true rfl) dX7_syntaxErrorOffset_14 (by decide) (by decide) ⟨Nat.le_refl _, Nat.le_refl _⟩ (fun H9 locs hk hP1 hS => ?_)
    replace hP := hP1
    replace hP : va_P g.1 pq_cl (modW g a q6.2) H9 := hP
    replace hD : va_D A (modW g a q6.2) := pq_adr hD (ad_X7 _ _)
    clear hk
    generalize H9 = H at hP hS ⊢
    refine lv_if_eq (tgt := 27) hx hb dX7_syntaxErrorOffset_17 (by decide) (fun h7 => ?_) (fun h7 => ?_)
    · replace hf := pq_ifp h7 hf
      refine lv_iconst (v := 0) hx hb dX7_syntaxErrorOffset_27 (by decide) ?_
      obtain ⟨h8, h9⟩ := pq_pair hf
      exact hend _ _ _ _ _ dX7_syntaxErrorOffset_28 rfl h8 (by rw [← h9]; exact hP) hS
    · replace hf := pq_ifn h7 hf
      refine lv_aload_n hx hb dX7_syntaxErrorOffset_20 rfl (lv_at hl 0 rfl) ?_
      refine pq_get S hK hP inX7 0 rfl rfl 14 (by decide) fl_X7_20 rfl (v := .int q6.2.2.2.2.2.2.2.2.2.2.2.2.2.2.2.1) rfl dX7_syntaxErrorOffset_21 ?_
      refine lv_goto (tgt := 28) hx hb dX7_syntaxErrorOffset_24 (by decide) ?_
      obtain ⟨h8, h9⟩ := pq_pair hf
      exact hend _ _ _ _ _ dX7_syntaxErrorOffset_28 rfl h8 (by rw [← h9]; exact hP) hS
def f_X7_undo (T : ModS) : Option (Int32 × (ModS)) :=
    if T.2.2.1 ≤ 0 then
      (f_X7_isFine T 0).bind fun q3 =>
      if q3.1 = 0 then
        some (0, q3.2)
      else
        (f_X7_copies q3.2 q3.2.2.2.1 0).bind fun q6 =>
        some ((q6.2.2.1 - 1), (q6.1, q6.2.1, (q6.2.2.1 - 1), q6.2.2.2.1, q6.2.2.2.2.1, q6.2.2.2.2.2.1, q6.2.2.2.2.2.2.1, q6.2.2.2.2.2.2.2.1, q6.2.2.2.2.2.2.2.2.1, q6.2.2.2.2.2.2.2.2.2.1, q6.2.2.2.2.2.2.2.2.2.2.1, q6.2.2.2.2.2.2.2.2.2.2.2.1, q6.2.2.2.2.2.2.2.2.2.2.2.2.1, q6.2.2.2.2.2.2.2.2.2.2.2.2.2.1, q6.2.2.2.2.2.2.2.2.2.2.2.2.2.2.1, q6.2.2.2.2.2.2.2.2.2.2.2.2.2.2.2.1, q6.2.2.2.2.2.2.2.2.2.2.2.2.2.2.2.2))
    else
      (f_X7_isFine T 1).bind fun q8 =>
      if q8.1 = 0 then
        some (0, q8.2)
      else
        (f_X7_copies q8.2 q8.2.2.2.1 0).bind fun q11 =>
        some ((q11.2.2.1 - 1), (q11.1, q11.2.1, (q11.2.2.1 - 1), q11.2.2.2.1, q11.2.2.2.2.1, q11.2.2.2.2.2.1, q11.2.2.2.2.2.2.1, q11.2.2.2.2.2.2.2.1, q11.2.2.2.2.2.2.2.2.1, q11.2.2.2.2.2.2.2.2.2.1, q11.2.2.2.2.2.2.2.2.2.2.1, q11.2.2.2.2.2.2.2.2.2.2.2.1, q11.2.2.2.2.2.2.2.2.2.2.2.2.1, q11.2.2.2.2.2.2.2.2.2.2.2.2.2.1, q11.2.2.2.2.2.2.2.2.2.2.2.2.2.2.1, q11.2.2.2.2.2.2.2.2.2.2.2.2.2.2.2.1, q11.2.2.2.2.2.2.2.2.2.2.2.2.2.2.2.2))
set_option maxHeartbeats 4000000 in
set_option maxRecDepth 100000 in
theorem c_X7_undo (l : Launch) (g : pq_g) (a : Nat → Nat) (T : ModS) (r : Int32) (T1 : ModS) (hf : f_X7_undo T = some (r, T1)) : pq_Mi l yX7_undo cX7_undo 1 .int 2 g (modW g a T) [.ref (a 0)] r (modW g a T1) := by
  rw [f_X7_undo] at hf
  refine pq_Mi.of (own := RX7) (by decide) rfl (Nat.le_of_ble_eq_true rfl) rfl ?_
  intro p e s m below meth c ls Q A S hP hK hD hS hA hl hend
  obtain ⟨hx, hb, hml, hown, hts⟩ := id S
  refine lv_aload_n hx hb dX7_undo_0 rfl (lv_at hl 0 rfl) ?_
  refine lv_aload_n hx hb dX7_undo_1 rfl (lv_at hl 0 rfl) ?_
  refine pq_get S hK hP inX7 0 rfl rfl 2 (by decide) fl_X7_38 rfl (v := .int T.2.2.1) rfl dX7_undo_2 ?_
  refine lv_if_le (tgt := 12) hx hb dX7_undo_5 (by decide) (fun h1 => ?_) (fun h1 => ?_)
  · replace hf := pq_ifp h1 hf
    refine lv_iconst (v := 0) hx hb dX7_undo_12 (by decide) ?_
    obtain ⟨q3, e2, hf⟩ := pq_bind hf
    refine pq_cVi S (c_X7_isFine l g a T 0 q3.1 q3.2 e2) vv_X7_53 hK hP hD hS hA rfl rfl rfl rfl rfl hl.1 (Nat.le_of_ble_eq_true rfl) dX7_undo_13 (by decide) (by decide) ⟨Nat.le_refl _, Nat.le_refl _⟩ (fun H9 locs hk hP1 hS => ?_)
    replace hP := hP1
    replace hP : va_P g.1 pq_cl (modW g a q3.2) H9 := hP
    replace hD : va_D A (modW g a q3.2) := pq_adr hD (ad_X7 _ _)
    clear hk
    generalize H9 = H at hP hS ⊢
    refine lv_if_ne (tgt := 21) hx hb dX7_undo_16 (by decide) (fun h4 => ?_) (fun h4 => ?_)
    · replace hf := pq_ifn h4 hf
      refine lv_aload_n hx hb dX7_undo_21 rfl (lv_at hl 0 rfl) ?_
      refine lv_aload_n hx hb dX7_undo_22 rfl (lv_at hl 0 rfl) ?_
      refine pq_get S hK hP inX7 0 rfl rfl 2 (by decide) fl_X7_38 rfl (v := .int q3.2.2.2.1) rfl dX7_undo_23 ?_
      refine lv_iconst (v := 0) hx hb dX7_undo_26 (by decide) ?_
      obtain ⟨q6, e5, hf⟩ := pq_bind hf
      refine pq_cVv S (c_X7_copies l g a q3.2 q3.2.2.2.1 0 q6 e5) vv_X7_34 hK hP hD hS hA rfl rfl rfl rfl rfl hl.1 (Nat.le_of_ble_eq_true rfl) dX7_undo_27 (by decide) (by decide) ⟨Nat.le_refl _, Nat.le_refl _⟩ (fun H9 locs hk hP1 hS => ?_)
      replace hP := hP1
      replace hP : va_P g.1 pq_cl (modW g a q6) H9 := hP
      replace hD : va_D A (modW g a q6) := pq_adr hD (ad_X7 _ _)
      clear hk
      generalize H9 = H at hP hS ⊢
      refine lv_aload_n hx hb dX7_undo_30 rfl (lv_at hl 0 rfl) ?_
      refine lv_dup hx hb dX7_undo_31 rfl ?_
      refine pq_get S hK hP inX7 0 rfl rfl 2 (by decide) fl_X7_38 rfl (v := .int q6.2.2.1) rfl dX7_undo_32 ?_
      refine lv_iconst (v := 1) hx hb dX7_undo_35 (by decide) ?_
      refine lv_isub hx hb dX7_undo_36 ?_
      refine pq_putf S hK hP hD hS inX7 tyX7_ok nmX7 0 rfl rfl 2 (by decide) fl_X7_38 rfl rfl (ty := .int) rfl rfl rfl (Nat.le_of_ble_eq_true rfl) dX7_undo_37 (fun H locs hP hS => ?_)
      replace hP : va_P g.1 pq_cl (modW g a (q6.1, q6.2.1, (q6.2.2.1 - 1), q6.2.2.2.1, q6.2.2.2.2.1, q6.2.2.2.2.2.1, q6.2.2.2.2.2.2.1, q6.2.2.2.2.2.2.2.1, q6.2.2.2.2.2.2.2.2.1, q6.2.2.2.2.2.2.2.2.2.1, q6.2.2.2.2.2.2.2.2.2.2.1, q6.2.2.2.2.2.2.2.2.2.2.2.1, q6.2.2.2.2.2.2.2.2.2.2.2.2.1, q6.2.2.2.2.2.2.2.2.2.2.2.2.2.1, q6.2.2.2.2.2.2.2.2.2.2.2.2.2.2.1, q6.2.2.2.2.2.2.2.2.2.2.2.2.2.2.2.1, q6.2.2.2.2.2.2.2.2.2.2.2.2.2.2.2.2)) H := hP
      replace hD : va_D A (modW g a (q6.1, q6.2.1, (q6.2.2.1 - 1), q6.2.2.2.1, q6.2.2.2.2.1, q6.2.2.2.2.2.1, q6.2.2.2.2.2.2.1, q6.2.2.2.2.2.2.2.1, q6.2.2.2.2.2.2.2.2.1, q6.2.2.2.2.2.2.2.2.2.1, q6.2.2.2.2.2.2.2.2.2.2.1, q6.2.2.2.2.2.2.2.2.2.2.2.1, q6.2.2.2.2.2.2.2.2.2.2.2.2.1, q6.2.2.2.2.2.2.2.2.2.2.2.2.2.1, q6.2.2.2.2.2.2.2.2.2.2.2.2.2.2.1, q6.2.2.2.2.2.2.2.2.2.2.2.2.2.2.2.1, q6.2.2.2.2.2.2.2.2.2.2.2.2.2.2.2.2)) := pq_adr hD (ad_X7 _ _)
      refine lv_aload_n hx hb dX7_undo_40 rfl (lv_at hl 0 rfl) ?_
      refine pq_get S hK hP inX7 0 rfl rfl 2 (by decide) fl_X7_38 rfl (v := .int (q6.2.2.1 - 1)) rfl dX7_undo_41 ?_
      obtain ⟨h8, h9⟩ := pq_pair hf
      exact hend _ _ _ _ _ dX7_undo_44 rfl h8 (by rw [← h9]; exact hP) hS
    · replace hf := pq_ifp h4 hf
      refine lv_iconst (v := 0) hx hb dX7_undo_19 (by decide) ?_
      obtain ⟨h8, h9⟩ := pq_pair hf
      exact hend _ _ _ _ _ dX7_undo_20 rfl h8 (by rw [← h9]; exact hP) hS
  · replace hf := pq_ifn h1 hf
    refine lv_iconst (v := 1) hx hb dX7_undo_8 (by decide) ?_
    refine lv_goto (tgt := 13) hx hb dX7_undo_9 (by decide) ?_
    obtain ⟨q8, e7, hf⟩ := pq_bind hf
    refine pq_cVi S (c_X7_isFine l g a T 1 q8.1 q8.2 e7) vv_X7_53 hK hP hD hS hA rfl rfl rfl rfl rfl hl.1 (Nat.le_of_ble_eq_true rfl) dX7_undo_13 (by decide) (by decide) ⟨Nat.le_refl _, Nat.le_refl _⟩ (fun H9 locs hk hP1 hS => ?_)
    replace hP := hP1
    replace hP : va_P g.1 pq_cl (modW g a q8.2) H9 := hP
    replace hD : va_D A (modW g a q8.2) := pq_adr hD (ad_X7 _ _)
    clear hk
    generalize H9 = H at hP hS ⊢
    refine lv_if_ne (tgt := 21) hx hb dX7_undo_16 (by decide) (fun h9 => ?_) (fun h9 => ?_)
    · replace hf := pq_ifn h9 hf
      refine lv_aload_n hx hb dX7_undo_21 rfl (lv_at hl 0 rfl) ?_
      refine lv_aload_n hx hb dX7_undo_22 rfl (lv_at hl 0 rfl) ?_
      refine pq_get S hK hP inX7 0 rfl rfl 2 (by decide) fl_X7_38 rfl (v := .int q8.2.2.2.1) rfl dX7_undo_23 ?_
      refine lv_iconst (v := 0) hx hb dX7_undo_26 (by decide) ?_
      obtain ⟨q11, e10, hf⟩ := pq_bind hf
      refine pq_cVv S (c_X7_copies l g a q8.2 q8.2.2.2.1 0 q11 e10) vv_X7_34 hK hP hD hS hA rfl rfl rfl rfl rfl hl.1 (Nat.le_of_ble_eq_true rfl) dX7_undo_27 (by decide) (by decide) ⟨Nat.le_refl _, Nat.le_refl _⟩ (fun H9 locs hk hP1 hS => ?_)
      replace hP := hP1
      replace hP : va_P g.1 pq_cl (modW g a q11) H9 := hP
      replace hD : va_D A (modW g a q11) := pq_adr hD (ad_X7 _ _)
      clear hk
      generalize H9 = H at hP hS ⊢
      refine lv_aload_n hx hb dX7_undo_30 rfl (lv_at hl 0 rfl) ?_
      refine lv_dup hx hb dX7_undo_31 rfl ?_
      refine pq_get S hK hP inX7 0 rfl rfl 2 (by decide) fl_X7_38 rfl (v := .int q11.2.2.1) rfl dX7_undo_32 ?_
      refine lv_iconst (v := 1) hx hb dX7_undo_35 (by decide) ?_
      refine lv_isub hx hb dX7_undo_36 ?_
      refine pq_putf S hK hP hD hS inX7 tyX7_ok nmX7 0 rfl rfl 2 (by decide) fl_X7_38 rfl rfl (ty := .int) rfl rfl rfl (Nat.le_of_ble_eq_true rfl) dX7_undo_37 (fun H locs hP hS => ?_)
      replace hP : va_P g.1 pq_cl (modW g a (q11.1, q11.2.1, (q11.2.2.1 - 1), q11.2.2.2.1, q11.2.2.2.2.1, q11.2.2.2.2.2.1, q11.2.2.2.2.2.2.1, q11.2.2.2.2.2.2.2.1, q11.2.2.2.2.2.2.2.2.1, q11.2.2.2.2.2.2.2.2.2.1, q11.2.2.2.2.2.2.2.2.2.2.1, q11.2.2.2.2.2.2.2.2.2.2.2.1, q11.2.2.2.2.2.2.2.2.2.2.2.2.1, q11.2.2.2.2.2.2.2.2.2.2.2.2.2.1, q11.2.2.2.2.2.2.2.2.2.2.2.2.2.2.1, q11.2.2.2.2.2.2.2.2.2.2.2.2.2.2.2.1, q11.2.2.2.2.2.2.2.2.2.2.2.2.2.2.2.2)) H := hP
      replace hD : va_D A (modW g a (q11.1, q11.2.1, (q11.2.2.1 - 1), q11.2.2.2.1, q11.2.2.2.2.1, q11.2.2.2.2.2.1, q11.2.2.2.2.2.2.1, q11.2.2.2.2.2.2.2.1, q11.2.2.2.2.2.2.2.2.1, q11.2.2.2.2.2.2.2.2.2.1, q11.2.2.2.2.2.2.2.2.2.2.1, q11.2.2.2.2.2.2.2.2.2.2.2.1, q11.2.2.2.2.2.2.2.2.2.2.2.2.1, q11.2.2.2.2.2.2.2.2.2.2.2.2.2.1, q11.2.2.2.2.2.2.2.2.2.2.2.2.2.2.1, q11.2.2.2.2.2.2.2.2.2.2.2.2.2.2.2.1, q11.2.2.2.2.2.2.2.2.2.2.2.2.2.2.2.2)) := pq_adr hD (ad_X7 _ _)
      refine lv_aload_n hx hb dX7_undo_40 rfl (lv_at hl 0 rfl) ?_
      refine pq_get S hK hP inX7 0 rfl rfl 2 (by decide) fl_X7_38 rfl (v := .int (q11.2.2.1 - 1)) rfl dX7_undo_41 ?_
      obtain ⟨h8, h9⟩ := pq_pair hf
      exact hend _ _ _ _ _ dX7_undo_44 rfl h8 (by rw [← h9]; exact hP) hS
    · replace hf := pq_ifp h9 hf
      refine lv_iconst (v := 0) hx hb dX7_undo_19 (by decide) ?_
      obtain ⟨h8, h9⟩ := pq_pair hf
      exact hend _ _ _ _ _ dX7_undo_20 rfl h8 (by rw [← h9]; exact hP) hS
def f_X7_saveSnapshot (T : ModS) : Option (Int32 × (ModS)) :=
    (f_X7_copies (0, T.2.1, T.2.2.1, 1, T.2.2.2.2.1, T.2.2.2.2.2.1, T.2.2.2.2.2.2.1, T.2.2.2.2.2.2.2.1, T.2.2.2.2.2.2.2.2.1, T.2.2.2.2.2.2.2.2.2.1, T.2.2.2.2.2.2.2.2.2.2.1, T.2.2.2.2.2.2.2.2.2.2.2.1, T.2.2.2.2.2.2.2.2.2.2.2.2.1, T.2.2.2.2.2.2.2.2.2.2.2.2.2.1, T.2.2.2.2.2.2.2.2.2.2.2.2.2.2.1, T.2.2.2.2.2.2.2.2.2.2.2.2.2.2.2.1, T.2.2.2.2.2.2.2.2.2.2.2.2.2.2.2.2) 0 9).bind fun q2 =>
    some ((q2.2.1 (0 : Int32).toNatClampNeg), q2)
set_option maxHeartbeats 4000000 in
set_option maxRecDepth 100000 in
theorem c_X7_saveSnapshot (l : Launch) (g : pq_g) (a : Nat → Nat) (T : ModS) (r : Int32) (T1 : ModS) (hf : f_X7_saveSnapshot T = some (r, T1)) : pq_Mi l yX7_saveSnapshot cX7_saveSnapshot 1 .int 2 g (modW g a T) [.ref (a 0)] r (modW g a T1) := by
  rw [f_X7_saveSnapshot] at hf
  refine pq_Mi.of (own := RX7) (by decide) rfl (Nat.le_of_ble_eq_true rfl) rfl ?_
  intro p e s m below meth c ls Q A S hP hK hD hS hA hl hend
  obtain ⟨hx, hb, hml, hown, hts⟩ := id S
  refine lv_aload_n hx hb dX7_saveSnapshot_0 rfl (lv_at hl 0 rfl) ?_
  refine lv_iconst (v := 0) hx hb dX7_saveSnapshot_1 (by decide) ?_
  refine pq_putf S hK hP hD hS inX7 tyX7_ok nmX7 0 rfl rfl 0 (by decide) fl_X7_27 rfl rfl (ty := .int) rfl rfl rfl (Nat.le_of_ble_eq_true rfl) dX7_saveSnapshot_2 (fun H locs hP hS => ?_)
  replace hP : va_P g.1 pq_cl (modW g a (0, T.2.1, T.2.2.1, T.2.2.2.1, T.2.2.2.2.1, T.2.2.2.2.2.1, T.2.2.2.2.2.2.1, T.2.2.2.2.2.2.2.1, T.2.2.2.2.2.2.2.2.1, T.2.2.2.2.2.2.2.2.2.1, T.2.2.2.2.2.2.2.2.2.2.1, T.2.2.2.2.2.2.2.2.2.2.2.1, T.2.2.2.2.2.2.2.2.2.2.2.2.1, T.2.2.2.2.2.2.2.2.2.2.2.2.2.1, T.2.2.2.2.2.2.2.2.2.2.2.2.2.2.1, T.2.2.2.2.2.2.2.2.2.2.2.2.2.2.2.1, T.2.2.2.2.2.2.2.2.2.2.2.2.2.2.2.2)) H := hP
  replace hD : va_D A (modW g a (0, T.2.1, T.2.2.1, T.2.2.2.1, T.2.2.2.2.1, T.2.2.2.2.2.1, T.2.2.2.2.2.2.1, T.2.2.2.2.2.2.2.1, T.2.2.2.2.2.2.2.2.1, T.2.2.2.2.2.2.2.2.2.1, T.2.2.2.2.2.2.2.2.2.2.1, T.2.2.2.2.2.2.2.2.2.2.2.1, T.2.2.2.2.2.2.2.2.2.2.2.2.1, T.2.2.2.2.2.2.2.2.2.2.2.2.2.1, T.2.2.2.2.2.2.2.2.2.2.2.2.2.2.1, T.2.2.2.2.2.2.2.2.2.2.2.2.2.2.2.1, T.2.2.2.2.2.2.2.2.2.2.2.2.2.2.2.2)) := pq_adr hD (ad_X7 _ _)
  refine lv_aload_n hx hb dX7_saveSnapshot_5 rfl (lv_at hl 0 rfl) ?_
  refine lv_iconst (v := 1) hx hb dX7_saveSnapshot_6 (by decide) ?_
  refine pq_putf S hK hP hD hS inX7 tyX7_ok nmX7 0 rfl rfl 3 (by decide) fl_X7_247 rfl rfl (ty := .boolean) rfl rfl rfl (Nat.le_of_ble_eq_true rfl) dX7_saveSnapshot_7 (fun H locs hP hS => ?_)
  replace hP : va_P g.1 pq_cl (modW g a (0, T.2.1, T.2.2.1, 1, T.2.2.2.2.1, T.2.2.2.2.2.1, T.2.2.2.2.2.2.1, T.2.2.2.2.2.2.2.1, T.2.2.2.2.2.2.2.2.1, T.2.2.2.2.2.2.2.2.2.1, T.2.2.2.2.2.2.2.2.2.2.1, T.2.2.2.2.2.2.2.2.2.2.2.1, T.2.2.2.2.2.2.2.2.2.2.2.2.1, T.2.2.2.2.2.2.2.2.2.2.2.2.2.1, T.2.2.2.2.2.2.2.2.2.2.2.2.2.2.1, T.2.2.2.2.2.2.2.2.2.2.2.2.2.2.2.1, T.2.2.2.2.2.2.2.2.2.2.2.2.2.2.2.2)) H := hP
  replace hD : va_D A (modW g a (0, T.2.1, T.2.2.1, 1, T.2.2.2.2.1, T.2.2.2.2.2.1, T.2.2.2.2.2.2.1, T.2.2.2.2.2.2.2.1, T.2.2.2.2.2.2.2.2.1, T.2.2.2.2.2.2.2.2.2.1, T.2.2.2.2.2.2.2.2.2.2.1, T.2.2.2.2.2.2.2.2.2.2.2.1, T.2.2.2.2.2.2.2.2.2.2.2.2.1, T.2.2.2.2.2.2.2.2.2.2.2.2.2.1, T.2.2.2.2.2.2.2.2.2.2.2.2.2.2.1, T.2.2.2.2.2.2.2.2.2.2.2.2.2.2.2.1, T.2.2.2.2.2.2.2.2.2.2.2.2.2.2.2.2)) := pq_adr hD (ad_X7 _ _)
  refine lv_aload_n hx hb dX7_saveSnapshot_10 rfl (lv_at hl 0 rfl) ?_
  refine lv_iconst (v := 0) hx hb dX7_saveSnapshot_11 (by decide) ?_
  refine lv_bipush (v := 9) hx hb dX7_saveSnapshot_12 (by decide) ?_
  obtain ⟨q2, e1, hf⟩ := pq_bind hf
  refine pq_cVv S (c_X7_copies l g a (0, T.2.1, T.2.2.1, 1, T.2.2.2.2.1, T.2.2.2.2.2.1, T.2.2.2.2.2.2.1, T.2.2.2.2.2.2.2.1, T.2.2.2.2.2.2.2.2.1, T.2.2.2.2.2.2.2.2.2.1, T.2.2.2.2.2.2.2.2.2.2.1, T.2.2.2.2.2.2.2.2.2.2.2.1, T.2.2.2.2.2.2.2.2.2.2.2.2.1, T.2.2.2.2.2.2.2.2.2.2.2.2.2.1, T.2.2.2.2.2.2.2.2.2.2.2.2.2.2.1, T.2.2.2.2.2.2.2.2.2.2.2.2.2.2.2.1, T.2.2.2.2.2.2.2.2.2.2.2.2.2.2.2.2) 0 9 q2 e1) vv_X7_34 hK hP hD hS hA rfl rfl rfl rfl rfl hl.1 (Nat.le_of_ble_eq_true rfl) dX7_saveSnapshot_14 (by decide) (by decide) ⟨Nat.le_refl _, Nat.le_refl _⟩ (fun H9 locs hk hP1 hS => ?_)
  replace hP := hP1
  replace hP : va_P g.1 pq_cl (modW g a q2) H9 := hP
  replace hD : va_D A (modW g a q2) := pq_adr hD (ad_X7 _ _)
  clear hk
  generalize H9 = H at hP hS ⊢
  refine lv_aload_n hx hb dX7_saveSnapshot_17 rfl (lv_at hl 0 rfl) ?_
  refine pq_get S hK hP inX7 0 rfl rfl 1 (by decide) fl_X7_9 rfl (v := .ref (a 1)) rfl dX7_saveSnapshot_18 ?_
  refine lv_iconst (v := 0) hx hb dX7_saveSnapshot_21 (by decide) ?_
  refine va_iald hx hb hK.1 hP 1 0 rfl rfl (show ¬ ((0 : Int32) < 0 ∨ 770 ≤ (0 : Int32).toNatClampNeg) by decide) dX7_saveSnapshot_22 ?_
  obtain ⟨h8, h9⟩ := pq_pair hf
  exact hend _ _ _ _ _ dX7_saveSnapshot_23 rfl h8 (by rw [← h9]; exact hP) hS
def f_X7_restoreSnapshot (T : ModS) : Option (Int32 × (ModS)) :=
    (f_X7_isFine T T.2.2.2.1).bind fun q2 =>
    if q2.1 = 0 then
      some (0, q2.2)
    else
      (f_X7_copies q2.2 9 0).bind fun q5 =>
      some ((q5.2.1 (0 : Int32).toNatClampNeg), (q5.1, q5.2.1, 0, q5.2.2.2.1, q5.2.2.2.2.1, q5.2.2.2.2.2.1, q5.2.2.2.2.2.2.1, q5.2.2.2.2.2.2.2.1, q5.2.2.2.2.2.2.2.2.1, q5.2.2.2.2.2.2.2.2.2.1, q5.2.2.2.2.2.2.2.2.2.2.1, q5.2.2.2.2.2.2.2.2.2.2.2.1, q5.2.2.2.2.2.2.2.2.2.2.2.2.1, q5.2.2.2.2.2.2.2.2.2.2.2.2.2.1, q5.2.2.2.2.2.2.2.2.2.2.2.2.2.2.1, q5.2.2.2.2.2.2.2.2.2.2.2.2.2.2.2.1, q5.2.2.2.2.2.2.2.2.2.2.2.2.2.2.2.2))
set_option maxHeartbeats 4000000 in
set_option maxRecDepth 100000 in
theorem c_X7_restoreSnapshot (l : Launch) (g : pq_g) (a : Nat → Nat) (T : ModS) (r : Int32) (T1 : ModS) (hf : f_X7_restoreSnapshot T = some (r, T1)) : pq_Mi l yX7_restoreSnapshot cX7_restoreSnapshot 1 .int 2 g (modW g a T) [.ref (a 0)] r (modW g a T1) := by
  rw [f_X7_restoreSnapshot] at hf
  refine pq_Mi.of (own := RX7) (by decide) rfl (Nat.le_of_ble_eq_true rfl) rfl ?_
  intro p e s m below meth c ls Q A S hP hK hD hS hA hl hend
  obtain ⟨hx, hb, hml, hown, hts⟩ := id S
  refine lv_aload_n hx hb dX7_restoreSnapshot_0 rfl (lv_at hl 0 rfl) ?_
  refine lv_aload_n hx hb dX7_restoreSnapshot_1 rfl (lv_at hl 0 rfl) ?_
  refine pq_get S hK hP inX7 0 rfl rfl 3 (by decide) fl_X7_247 rfl (v := .int T.2.2.2.1) rfl dX7_restoreSnapshot_2 ?_
  obtain ⟨q2, e1, hf⟩ := pq_bind hf
  refine pq_cVi S (c_X7_isFine l g a T T.2.2.2.1 q2.1 q2.2 e1) vv_X7_53 hK hP hD hS hA rfl rfl rfl rfl rfl hl.1 (Nat.le_of_ble_eq_true rfl) dX7_restoreSnapshot_5 (by decide) (by decide) ⟨Nat.le_refl _, Nat.le_refl _⟩ (fun H9 locs hk hP1 hS => ?_)
  replace hP := hP1
  replace hP : va_P g.1 pq_cl (modW g a q2.2) H9 := hP
  replace hD : va_D A (modW g a q2.2) := pq_adr hD (ad_X7 _ _)
  clear hk
  generalize H9 = H at hP hS ⊢
  refine lv_if_ne (tgt := 13) hx hb dX7_restoreSnapshot_8 (by decide) (fun h3 => ?_) (fun h3 => ?_)
  · replace hf := pq_ifn h3 hf
    refine lv_aload_n hx hb dX7_restoreSnapshot_13 rfl (lv_at hl 0 rfl) ?_
    refine lv_bipush (v := 9) hx hb dX7_restoreSnapshot_14 (by decide) ?_
    refine lv_iconst (v := 0) hx hb dX7_restoreSnapshot_16 (by decide) ?_
    obtain ⟨q5, e4, hf⟩ := pq_bind hf
    refine pq_cVv S (c_X7_copies l g a q2.2 9 0 q5 e4) vv_X7_34 hK hP hD hS hA rfl rfl rfl rfl rfl hl.1 (Nat.le_of_ble_eq_true rfl) dX7_restoreSnapshot_17 (by decide) (by decide) ⟨Nat.le_refl _, Nat.le_refl _⟩ (fun H9 locs hk hP1 hS => ?_)
    replace hP := hP1
    replace hP : va_P g.1 pq_cl (modW g a q5) H9 := hP
    replace hD : va_D A (modW g a q5) := pq_adr hD (ad_X7 _ _)
    clear hk
    generalize H9 = H at hP hS ⊢
    refine lv_aload_n hx hb dX7_restoreSnapshot_20 rfl (lv_at hl 0 rfl) ?_
    refine lv_iconst (v := 0) hx hb dX7_restoreSnapshot_21 (by decide) ?_
    refine pq_putf S hK hP hD hS inX7 tyX7_ok nmX7 0 rfl rfl 2 (by decide) fl_X7_38 rfl rfl (ty := .int) rfl rfl rfl (Nat.le_of_ble_eq_true rfl) dX7_restoreSnapshot_22 (fun H locs hP hS => ?_)
    replace hP : va_P g.1 pq_cl (modW g a (q5.1, q5.2.1, 0, q5.2.2.2.1, q5.2.2.2.2.1, q5.2.2.2.2.2.1, q5.2.2.2.2.2.2.1, q5.2.2.2.2.2.2.2.1, q5.2.2.2.2.2.2.2.2.1, q5.2.2.2.2.2.2.2.2.2.1, q5.2.2.2.2.2.2.2.2.2.2.1, q5.2.2.2.2.2.2.2.2.2.2.2.1, q5.2.2.2.2.2.2.2.2.2.2.2.2.1, q5.2.2.2.2.2.2.2.2.2.2.2.2.2.1, q5.2.2.2.2.2.2.2.2.2.2.2.2.2.2.1, q5.2.2.2.2.2.2.2.2.2.2.2.2.2.2.2.1, q5.2.2.2.2.2.2.2.2.2.2.2.2.2.2.2.2)) H := hP
    replace hD : va_D A (modW g a (q5.1, q5.2.1, 0, q5.2.2.2.1, q5.2.2.2.2.1, q5.2.2.2.2.2.1, q5.2.2.2.2.2.2.1, q5.2.2.2.2.2.2.2.1, q5.2.2.2.2.2.2.2.2.1, q5.2.2.2.2.2.2.2.2.2.1, q5.2.2.2.2.2.2.2.2.2.2.1, q5.2.2.2.2.2.2.2.2.2.2.2.1, q5.2.2.2.2.2.2.2.2.2.2.2.2.1, q5.2.2.2.2.2.2.2.2.2.2.2.2.2.1, q5.2.2.2.2.2.2.2.2.2.2.2.2.2.2.1, q5.2.2.2.2.2.2.2.2.2.2.2.2.2.2.2.1, q5.2.2.2.2.2.2.2.2.2.2.2.2.2.2.2.2)) := pq_adr hD (ad_X7 _ _)
    refine lv_aload_n hx hb dX7_restoreSnapshot_25 rfl (lv_at hl 0 rfl) ?_
    refine pq_get S hK hP inX7 0 rfl rfl 1 (by decide) fl_X7_9 rfl (v := .ref (a 1)) rfl dX7_restoreSnapshot_26 ?_
    refine lv_iconst (v := 0) hx hb dX7_restoreSnapshot_29 (by decide) ?_
    refine va_iald hx hb hK.1 hP 1 0 rfl rfl (show ¬ ((0 : Int32) < 0 ∨ 770 ≤ (0 : Int32).toNatClampNeg) by decide) dX7_restoreSnapshot_30 ?_
    obtain ⟨h8, h9⟩ := pq_pair hf
    exact hend _ _ _ _ _ dX7_restoreSnapshot_31 rfl h8 (by rw [← h9]; exact hP) hS
  · replace hf := pq_ifp h3 hf
    refine lv_iconst (v := 0) hx hb dX7_restoreSnapshot_11 (by decide) ?_
    obtain ⟨h8, h9⟩ := pq_pair hf
    exact hend _ _ _ _ _ dX7_restoreSnapshot_12 rfl h8 (by rw [← h9]; exact hP) hS
