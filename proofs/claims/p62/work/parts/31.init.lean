theorem vo_m : Cond.instanceMethod Lib.objectInit ∈ pq_G := pq_in 52 (by decide +kernel) (by decide +kernel)
theorem vo_c : Cond.code Lib.objectInit ⟨#[0xb1]⟩ 1 none ∈ pq_G := pq_in 53 (by decide +kernel) (by decide +kernel)
theorem vo_aint : Cond.arrayClass (newarray.typeOf .int) ∈ pq_G := pq_in 88 (by decide +kernel) (by decide +kernel)
theorem vo_abyte : Cond.arrayClass (newarray.typeOf .byte) ∈ pq_G := pq_in 308 (by decide +kernel) (by decide +kernel)
theorem vo_X4 : Cond.methodLink RX4 3 Lib.objectInit ∈ pq_G := pq_in 65 (by decide +kernel) (by decide +kernel)
set_option maxHeartbeats 4000000 in
set_option maxRecDepth 100000 in
theorem c_X4_init (l : Launch) (g : pq_g) : pq_C l yX4_init cX4_init 1 1 6 150 g 4 [.null, .null, .null, .null, .null, .null, .int 0] (fun a => treeW g a treeZ) := by
  refine pq_C.of (own := RX4) (by decide) rfl rfl (by decide) ?_
  intro p e s m below meth c ls Q A b S hin hO hP hK hD hS hA hl hend
  obtain ⟨hx, hb, hml, hown, hts⟩ := id S
  refine lv_aload_n hx hb dX4_init_0 rfl (lv_at hl 0 rfl) ?_
  refine pq_obj S vo_X4 vo_m vo_c hl.1 dX4_init_1 (by decide) ?_
  refine lv_aload_n hx hb dX4_init_4 rfl (lv_at hl 0 rfl) ?_
  refine lv_bipush (v := 25) hx hb dX4_init_5 (by decide) ?_
  refine pq_newa S 0 (atype := .int) vo_aint (ty := .int) rfl hK hP hD hS hA (cA := g.2 0) rfl (N' := 25) (a0 := (25, .inl (fun _ => 0))) (fun _ => rfl) (by decide) (by decide) (Nat.le_of_ble_eq_true rfl) (Nat.le_of_ble_eq_true rfl) (Nat.le_of_ble_eq_true rfl) dX4_init_7 (fun q1 H hP hD hS => ?_)
  refine pq_putF S hin hK hP hD hS inX4 tyX4_ok nmX4 0 rfl rfl 0 (by decide) fl_X4_9 rfl rfl (ty := .array .int) (v := .ref (q1)) rfl rfl rfl (Nat.le_of_ble_eq_true rfl) dX4_init_9 (fun H locs hP hD hS => ?_)
  replace hP : va_P g.1 pq_cl (([(b, .inr (4, [.ref (q1), .null, .null, .null, .null, .null, .int 0]))] : va_W) ++ ([(q1, .inl (g.2 0, 25, .inl (fun _ => 0)))] : va_W)) H := hP
  replace hD : va_D A (([(b, .inr (4, [.ref (q1), .null, .null, .null, .null, .null, .int 0]))] : va_W) ++ ([(q1, .inl (g.2 0, 25, .inl (fun _ => 0)))] : va_W)) := hD
  refine lv_aload_n hx hb dX4_init_12 rfl (lv_at hl 0 rfl) ?_
  refine lv_bipush (v := 25) hx hb dX4_init_13 (by decide) ?_
  refine pq_newa S 0 (atype := .int) vo_aint (ty := .int) rfl hK hP hD hS hA (cA := g.2 0) rfl (N' := 25) (a0 := (25, .inl (fun _ => 0))) (fun _ => rfl) (by decide) (by decide) (Nat.le_of_ble_eq_true rfl) (Nat.le_of_ble_eq_true rfl) (Nat.le_of_ble_eq_true rfl) dX4_init_15 (fun q2 H hP hD hS => ?_)
  refine pq_putF S hin hK hP hD hS inX4 tyX4_ok nmX4 0 rfl rfl 1 (by decide) fl_X4_15 rfl rfl (ty := .array .int) (v := .ref (q2)) rfl rfl rfl (Nat.le_of_ble_eq_true rfl) dX4_init_17 (fun H locs hP hD hS => ?_)
  replace hP : va_P g.1 pq_cl ((([(b, .inr (4, [.ref (q1), .ref (q2), .null, .null, .null, .null, .int 0]))] : va_W) ++ ([(q1, .inl (g.2 0, 25, .inl (fun _ => 0)))] : va_W)) ++ ([(q2, .inl (g.2 0, 25, .inl (fun _ => 0)))] : va_W)) H := hP
  replace hD : va_D A ((([(b, .inr (4, [.ref (q1), .ref (q2), .null, .null, .null, .null, .int 0]))] : va_W) ++ ([(q1, .inl (g.2 0, 25, .inl (fun _ => 0)))] : va_W)) ++ ([(q2, .inl (g.2 0, 25, .inl (fun _ => 0)))] : va_W)) := hD
  refine lv_aload_n hx hb dX4_init_20 rfl (lv_at hl 0 rfl) ?_
  refine lv_bipush (v := 25) hx hb dX4_init_21 (by decide) ?_
  refine pq_newa S 0 (atype := .int) vo_aint (ty := .int) rfl hK hP hD hS hA (cA := g.2 0) rfl (N' := 25) (a0 := (25, .inl (fun _ => 0))) (fun _ => rfl) (by decide) (by decide) (Nat.le_of_ble_eq_true rfl) (Nat.le_of_ble_eq_true rfl) (Nat.le_of_ble_eq_true rfl) dX4_init_23 (fun q3 H hP hD hS => ?_)
  refine pq_putF S hin hK hP hD hS inX4 tyX4_ok nmX4 0 rfl rfl 2 (by decide) fl_X4_18 rfl rfl (ty := .array .int) (v := .ref (q3)) rfl rfl rfl (Nat.le_of_ble_eq_true rfl) dX4_init_25 (fun H locs hP hD hS => ?_)
  replace hP : va_P g.1 pq_cl (((([(b, .inr (4, [.ref (q1), .ref (q2), .ref (q3), .null, .null, .null, .int 0]))] : va_W) ++ ([(q1, .inl (g.2 0, 25, .inl (fun _ => 0)))] : va_W)) ++ ([(q2, .inl (g.2 0, 25, .inl (fun _ => 0)))] : va_W)) ++ ([(q3, .inl (g.2 0, 25, .inl (fun _ => 0)))] : va_W)) H := hP
  replace hD : va_D A (((([(b, .inr (4, [.ref (q1), .ref (q2), .ref (q3), .null, .null, .null, .int 0]))] : va_W) ++ ([(q1, .inl (g.2 0, 25, .inl (fun _ => 0)))] : va_W)) ++ ([(q2, .inl (g.2 0, 25, .inl (fun _ => 0)))] : va_W)) ++ ([(q3, .inl (g.2 0, 25, .inl (fun _ => 0)))] : va_W)) := hD
  refine lv_aload_n hx hb dX4_init_28 rfl (lv_at hl 0 rfl) ?_
  refine lv_bipush (v := 25) hx hb dX4_init_29 (by decide) ?_
  refine pq_newa S 0 (atype := .int) vo_aint (ty := .int) rfl hK hP hD hS hA (cA := g.2 0) rfl (N' := 25) (a0 := (25, .inl (fun _ => 0))) (fun _ => rfl) (by decide) (by decide) (Nat.le_of_ble_eq_true rfl) (Nat.le_of_ble_eq_true rfl) (Nat.le_of_ble_eq_true rfl) dX4_init_31 (fun q4 H hP hD hS => ?_)
  refine pq_putF S hin hK hP hD hS inX4 tyX4_ok nmX4 0 rfl rfl 3 (by decide) fl_X4_21 rfl rfl (ty := .array .int) (v := .ref (q4)) rfl rfl rfl (Nat.le_of_ble_eq_true rfl) dX4_init_33 (fun H locs hP hD hS => ?_)
  replace hP : va_P g.1 pq_cl ((((([(b, .inr (4, [.ref (q1), .ref (q2), .ref (q3), .ref (q4), .null, .null, .int 0]))] : va_W) ++ ([(q1, .inl (g.2 0, 25, .inl (fun _ => 0)))] : va_W)) ++ ([(q2, .inl (g.2 0, 25, .inl (fun _ => 0)))] : va_W)) ++ ([(q3, .inl (g.2 0, 25, .inl (fun _ => 0)))] : va_W)) ++ ([(q4, .inl (g.2 0, 25, .inl (fun _ => 0)))] : va_W)) H := hP
  replace hD : va_D A ((((([(b, .inr (4, [.ref (q1), .ref (q2), .ref (q3), .ref (q4), .null, .null, .int 0]))] : va_W) ++ ([(q1, .inl (g.2 0, 25, .inl (fun _ => 0)))] : va_W)) ++ ([(q2, .inl (g.2 0, 25, .inl (fun _ => 0)))] : va_W)) ++ ([(q3, .inl (g.2 0, 25, .inl (fun _ => 0)))] : va_W)) ++ ([(q4, .inl (g.2 0, 25, .inl (fun _ => 0)))] : va_W)) := hD
  refine lv_aload_n hx hb dX4_init_36 rfl (lv_at hl 0 rfl) ?_
  refine lv_bipush (v := 25) hx hb dX4_init_37 (by decide) ?_
  refine pq_newa S 0 (atype := .int) vo_aint (ty := .int) rfl hK hP hD hS hA (cA := g.2 0) rfl (N' := 25) (a0 := (25, .inl (fun _ => 0))) (fun _ => rfl) (by decide) (by decide) (Nat.le_of_ble_eq_true rfl) (Nat.le_of_ble_eq_true rfl) (Nat.le_of_ble_eq_true rfl) dX4_init_39 (fun q5 H hP hD hS => ?_)
  refine pq_putF S hin hK hP hD hS inX4 tyX4_ok nmX4 0 rfl rfl 4 (by decide) fl_X4_24 rfl rfl (ty := .array .int) (v := .ref (q5)) rfl rfl rfl (Nat.le_of_ble_eq_true rfl) dX4_init_41 (fun H locs hP hD hS => ?_)
  replace hP : va_P g.1 pq_cl (((((([(b, .inr (4, [.ref (q1), .ref (q2), .ref (q3), .ref (q4), .ref (q5), .null, .int 0]))] : va_W) ++ ([(q1, .inl (g.2 0, 25, .inl (fun _ => 0)))] : va_W)) ++ ([(q2, .inl (g.2 0, 25, .inl (fun _ => 0)))] : va_W)) ++ ([(q3, .inl (g.2 0, 25, .inl (fun _ => 0)))] : va_W)) ++ ([(q4, .inl (g.2 0, 25, .inl (fun _ => 0)))] : va_W)) ++ ([(q5, .inl (g.2 0, 25, .inl (fun _ => 0)))] : va_W)) H := hP
  replace hD : va_D A (((((([(b, .inr (4, [.ref (q1), .ref (q2), .ref (q3), .ref (q4), .ref (q5), .null, .int 0]))] : va_W) ++ ([(q1, .inl (g.2 0, 25, .inl (fun _ => 0)))] : va_W)) ++ ([(q2, .inl (g.2 0, 25, .inl (fun _ => 0)))] : va_W)) ++ ([(q3, .inl (g.2 0, 25, .inl (fun _ => 0)))] : va_W)) ++ ([(q4, .inl (g.2 0, 25, .inl (fun _ => 0)))] : va_W)) ++ ([(q5, .inl (g.2 0, 25, .inl (fun _ => 0)))] : va_W)) := hD
  refine lv_aload_n hx hb dX4_init_44 rfl (lv_at hl 0 rfl) ?_
  refine lv_bipush (v := 25) hx hb dX4_init_45 (by decide) ?_
  refine pq_newa S 0 (atype := .int) vo_aint (ty := .int) rfl hK hP hD hS hA (cA := g.2 0) rfl (N' := 25) (a0 := (25, .inl (fun _ => 0))) (fun _ => rfl) (by decide) (by decide) (Nat.le_of_ble_eq_true rfl) (Nat.le_of_ble_eq_true rfl) (Nat.le_of_ble_eq_true rfl) dX4_init_47 (fun q6 H hP hD hS => ?_)
  refine pq_putF S hin hK hP hD hS inX4 tyX4_ok nmX4 0 rfl rfl 5 (by decide) fl_X4_27 rfl rfl (ty := .array .int) (v := .ref (q6)) rfl rfl rfl (Nat.le_of_ble_eq_true rfl) dX4_init_49 (fun H locs hP hD hS => ?_)
  replace hP : va_P g.1 pq_cl ((((((([(b, .inr (4, [.ref (q1), .ref (q2), .ref (q3), .ref (q4), .ref (q5), .ref (q6), .int 0]))] : va_W) ++ ([(q1, .inl (g.2 0, 25, .inl (fun _ => 0)))] : va_W)) ++ ([(q2, .inl (g.2 0, 25, .inl (fun _ => 0)))] : va_W)) ++ ([(q3, .inl (g.2 0, 25, .inl (fun _ => 0)))] : va_W)) ++ ([(q4, .inl (g.2 0, 25, .inl (fun _ => 0)))] : va_W)) ++ ([(q5, .inl (g.2 0, 25, .inl (fun _ => 0)))] : va_W)) ++ ([(q6, .inl (g.2 0, 25, .inl (fun _ => 0)))] : va_W)) H := hP
  replace hD : va_D A ((((((([(b, .inr (4, [.ref (q1), .ref (q2), .ref (q3), .ref (q4), .ref (q5), .ref (q6), .int 0]))] : va_W) ++ ([(q1, .inl (g.2 0, 25, .inl (fun _ => 0)))] : va_W)) ++ ([(q2, .inl (g.2 0, 25, .inl (fun _ => 0)))] : va_W)) ++ ([(q3, .inl (g.2 0, 25, .inl (fun _ => 0)))] : va_W)) ++ ([(q4, .inl (g.2 0, 25, .inl (fun _ => 0)))] : va_W)) ++ ([(q5, .inl (g.2 0, 25, .inl (fun _ => 0)))] : va_W)) ++ ([(q6, .inl (g.2 0, 25, .inl (fun _ => 0)))] : va_W)) := hD
  refine lv_aload_n hx hb dX4_init_52 rfl (lv_at hl 0 rfl) ?_
  refine lv_iconst (v := 0) hx hb dX4_init_53 (by decide) ?_
  refine pq_putf S hK hP hD hS inX4 tyX4_ok nmX4 0 rfl rfl 6 (by decide) fl_X4_30 rfl rfl (ty := .int) rfl rfl rfl (Nat.le_of_ble_eq_true rfl) dX4_init_54 (fun H locs hP hS => ?_)
  replace hD := pq_adr (ws' := ((((((([(b, .inr (4, [.ref (q1), .ref (q2), .ref (q3), .ref (q4), .ref (q5), .ref (q6), .int 0]))] : va_W) ++ ([(q1, .inl (g.2 0, 25, .inl (fun _ => 0)))] : va_W)) ++ ([(q2, .inl (g.2 0, 25, .inl (fun _ => 0)))] : va_W)) ++ ([(q3, .inl (g.2 0, 25, .inl (fun _ => 0)))] : va_W)) ++ ([(q4, .inl (g.2 0, 25, .inl (fun _ => 0)))] : va_W)) ++ ([(q5, .inl (g.2 0, 25, .inl (fun _ => 0)))] : va_W)) ++ ([(q6, .inl (g.2 0, 25, .inl (fun _ => 0)))] : va_W))) hD rfl
  replace hP : va_P g.1 pq_cl ((((((([(b, .inr (4, [.ref (q1), .ref (q2), .ref (q3), .ref (q4), .ref (q5), .ref (q6), .int 0]))] : va_W) ++ ([(q1, .inl (g.2 0, 25, .inl (fun _ => 0)))] : va_W)) ++ ([(q2, .inl (g.2 0, 25, .inl (fun _ => 0)))] : va_W)) ++ ([(q3, .inl (g.2 0, 25, .inl (fun _ => 0)))] : va_W)) ++ ([(q4, .inl (g.2 0, 25, .inl (fun _ => 0)))] : va_W)) ++ ([(q5, .inl (g.2 0, 25, .inl (fun _ => 0)))] : va_W)) ++ ([(q6, .inl (g.2 0, 25, .inl (fun _ => 0)))] : va_W)) H := hP
  replace hD : va_D A ((((((([(b, .inr (4, [.ref (q1), .ref (q2), .ref (q3), .ref (q4), .ref (q5), .ref (q6), .int 0]))] : va_W) ++ ([(q1, .inl (g.2 0, 25, .inl (fun _ => 0)))] : va_W)) ++ ([(q2, .inl (g.2 0, 25, .inl (fun _ => 0)))] : va_W)) ++ ([(q3, .inl (g.2 0, 25, .inl (fun _ => 0)))] : va_W)) ++ ([(q4, .inl (g.2 0, 25, .inl (fun _ => 0)))] : va_W)) ++ ([(q5, .inl (g.2 0, 25, .inl (fun _ => 0)))] : va_W)) ++ ([(q6, .inl (g.2 0, 25, .inl (fun _ => 0)))] : va_W)) := hD
  exact hend _ ls _ _ _ _ (fun k => if k = 0 then b else if k < 2 then q1 else if k < 3 then q2 else if k < 4 then q3 else if k < 5 then q4 else if k < 6 then q5 else q6) dX4_init_57 rfl hP hD hS (Nat.le_of_ble_eq_true rfl) (Nat.le_of_ble_eq_true rfl)
theorem vo_X5 : Cond.methodLink RX5 3 Lib.objectInit ∈ pq_G := pq_in 94 (by decide +kernel) (by decide +kernel)
set_option maxHeartbeats 4000000 in
set_option maxRecDepth 100000 in
theorem c_X5_init (l : Launch) (g : pq_g) : pq_C l yX5_init cX5_init 1 1 4 16 g 5 [.null, .null, .null, .null] (fun a => winW g a winZ) := by
  refine pq_C.of (own := RX5) (by decide) rfl rfl (by decide) ?_
  intro p e s m below meth c ls Q A b S hin hO hP hK hD hS hA hl hend
  obtain ⟨hx, hb, hml, hown, hts⟩ := id S
  refine lv_aload_n hx hb dX5_init_0 rfl (lv_at hl 0 rfl) ?_
  refine pq_obj S vo_X5 vo_m vo_c hl.1 dX5_init_1 (by decide) ?_
  refine lv_aload_n hx hb dX5_init_4 rfl (lv_at hl 0 rfl) ?_
  refine lv_iconst (v := 4) hx hb dX5_init_5 (by decide) ?_
  refine pq_newa S 0 (atype := .int) vo_aint (ty := .int) rfl hK hP hD hS hA (cA := g.2 0) rfl (N' := 4) (a0 := (4, .inl (fun _ => 0))) (fun _ => rfl) (by decide) (by decide) (Nat.le_of_ble_eq_true rfl) (Nat.le_of_ble_eq_true rfl) (Nat.le_of_ble_eq_true rfl) dX5_init_6 (fun q1 H hP hD hS => ?_)
  refine pq_putF S hin hK hP hD hS inX5 tyX5_ok nmX5 0 rfl rfl 0 (by decide) fl_X5_9 rfl rfl (ty := .array .int) (v := .ref (q1)) rfl rfl rfl (Nat.le_of_ble_eq_true rfl) dX5_init_8 (fun H locs hP hD hS => ?_)
  replace hP : va_P g.1 pq_cl (([(b, .inr (5, [.ref (q1), .null, .null, .null]))] : va_W) ++ ([(q1, .inl (g.2 0, 4, .inl (fun _ => 0)))] : va_W)) H := hP
  replace hD : va_D A (([(b, .inr (5, [.ref (q1), .null, .null, .null]))] : va_W) ++ ([(q1, .inl (g.2 0, 4, .inl (fun _ => 0)))] : va_W)) := hD
  refine lv_aload_n hx hb dX5_init_11 rfl (lv_at hl 0 rfl) ?_
  refine lv_iconst (v := 4) hx hb dX5_init_12 (by decide) ?_
  refine pq_newa S 0 (atype := .int) vo_aint (ty := .int) rfl hK hP hD hS hA (cA := g.2 0) rfl (N' := 4) (a0 := (4, .inl (fun _ => 0))) (fun _ => rfl) (by decide) (by decide) (Nat.le_of_ble_eq_true rfl) (Nat.le_of_ble_eq_true rfl) (Nat.le_of_ble_eq_true rfl) dX5_init_13 (fun q2 H hP hD hS => ?_)
  refine pq_putF S hin hK hP hD hS inX5 tyX5_ok nmX5 0 rfl rfl 1 (by decide) fl_X5_15 rfl rfl (ty := .array .int) (v := .ref (q2)) rfl rfl rfl (Nat.le_of_ble_eq_true rfl) dX5_init_15 (fun H locs hP hD hS => ?_)
  replace hP : va_P g.1 pq_cl ((([(b, .inr (5, [.ref (q1), .ref (q2), .null, .null]))] : va_W) ++ ([(q1, .inl (g.2 0, 4, .inl (fun _ => 0)))] : va_W)) ++ ([(q2, .inl (g.2 0, 4, .inl (fun _ => 0)))] : va_W)) H := hP
  replace hD : va_D A ((([(b, .inr (5, [.ref (q1), .ref (q2), .null, .null]))] : va_W) ++ ([(q1, .inl (g.2 0, 4, .inl (fun _ => 0)))] : va_W)) ++ ([(q2, .inl (g.2 0, 4, .inl (fun _ => 0)))] : va_W)) := hD
  refine lv_aload_n hx hb dX5_init_18 rfl (lv_at hl 0 rfl) ?_
  refine lv_iconst (v := 4) hx hb dX5_init_19 (by decide) ?_
  refine pq_newa S 0 (atype := .int) vo_aint (ty := .int) rfl hK hP hD hS hA (cA := g.2 0) rfl (N' := 4) (a0 := (4, .inl (fun _ => 0))) (fun _ => rfl) (by decide) (by decide) (Nat.le_of_ble_eq_true rfl) (Nat.le_of_ble_eq_true rfl) (Nat.le_of_ble_eq_true rfl) dX5_init_20 (fun q3 H hP hD hS => ?_)
  refine pq_putF S hin hK hP hD hS inX5 tyX5_ok nmX5 0 rfl rfl 2 (by decide) fl_X5_18 rfl rfl (ty := .array .int) (v := .ref (q3)) rfl rfl rfl (Nat.le_of_ble_eq_true rfl) dX5_init_22 (fun H locs hP hD hS => ?_)
  replace hP : va_P g.1 pq_cl (((([(b, .inr (5, [.ref (q1), .ref (q2), .ref (q3), .null]))] : va_W) ++ ([(q1, .inl (g.2 0, 4, .inl (fun _ => 0)))] : va_W)) ++ ([(q2, .inl (g.2 0, 4, .inl (fun _ => 0)))] : va_W)) ++ ([(q3, .inl (g.2 0, 4, .inl (fun _ => 0)))] : va_W)) H := hP
  replace hD : va_D A (((([(b, .inr (5, [.ref (q1), .ref (q2), .ref (q3), .null]))] : va_W) ++ ([(q1, .inl (g.2 0, 4, .inl (fun _ => 0)))] : va_W)) ++ ([(q2, .inl (g.2 0, 4, .inl (fun _ => 0)))] : va_W)) ++ ([(q3, .inl (g.2 0, 4, .inl (fun _ => 0)))] : va_W)) := hD
  refine lv_aload_n hx hb dX5_init_25 rfl (lv_at hl 0 rfl) ?_
  refine lv_iconst (v := 4) hx hb dX5_init_26 (by decide) ?_
  refine pq_newa S 0 (atype := .int) vo_aint (ty := .int) rfl hK hP hD hS hA (cA := g.2 0) rfl (N' := 4) (a0 := (4, .inl (fun _ => 0))) (fun _ => rfl) (by decide) (by decide) (Nat.le_of_ble_eq_true rfl) (Nat.le_of_ble_eq_true rfl) (Nat.le_of_ble_eq_true rfl) dX5_init_27 (fun q4 H hP hD hS => ?_)
  refine pq_putF S hin hK hP hD hS inX5 tyX5_ok nmX5 0 rfl rfl 3 (by decide) fl_X5_21 rfl rfl (ty := .array .int) (v := .ref (q4)) rfl rfl rfl (Nat.le_of_ble_eq_true rfl) dX5_init_29 (fun H locs hP hD hS => ?_)
  replace hP : va_P g.1 pq_cl ((((([(b, .inr (5, [.ref (q1), .ref (q2), .ref (q3), .ref (q4)]))] : va_W) ++ ([(q1, .inl (g.2 0, 4, .inl (fun _ => 0)))] : va_W)) ++ ([(q2, .inl (g.2 0, 4, .inl (fun _ => 0)))] : va_W)) ++ ([(q3, .inl (g.2 0, 4, .inl (fun _ => 0)))] : va_W)) ++ ([(q4, .inl (g.2 0, 4, .inl (fun _ => 0)))] : va_W)) H := hP
  replace hD : va_D A ((((([(b, .inr (5, [.ref (q1), .ref (q2), .ref (q3), .ref (q4)]))] : va_W) ++ ([(q1, .inl (g.2 0, 4, .inl (fun _ => 0)))] : va_W)) ++ ([(q2, .inl (g.2 0, 4, .inl (fun _ => 0)))] : va_W)) ++ ([(q3, .inl (g.2 0, 4, .inl (fun _ => 0)))] : va_W)) ++ ([(q4, .inl (g.2 0, 4, .inl (fun _ => 0)))] : va_W)) := hD
  exact hend _ ls _ _ _ _ (fun k => if k = 0 then b else if k < 2 then q1 else if k < 3 then q2 else if k < 4 then q3 else q4) dX5_init_32 rfl hP hD hS (Nat.le_of_ble_eq_true rfl) (Nat.le_of_ble_eq_true rfl)
theorem vo_X0 : Cond.methodLink RX0 3 Lib.objectInit ∈ pq_G := pq_in 147 (by decide +kernel) (by decide +kernel)
set_option maxHeartbeats 4000000 in
set_option maxRecDepth 100000 in
theorem c_X0_init (l : Launch) (g : pq_g) : pq_C l yX0_init cX0_init 1 1 3 180 g 0 [.null, .int 0, .int 0, .null, .null, .int 0] (fun a => cmdW g a cmdZ) := by
  refine pq_C.of (own := RX0) (by decide) rfl rfl (by decide) ?_
  intro p e s m below meth c ls Q A b S hin hO hP hK hD hS hA hl hend
  obtain ⟨hx, hb, hml, hown, hts⟩ := id S
  refine lv_aload_n hx hb dX0_init_0 rfl (lv_at hl 0 rfl) ?_
  refine pq_obj S vo_X0 vo_m vo_c hl.1 dX0_init_1 (by decide) ?_
  refine lv_aload_n hx hb dX0_init_4 rfl (lv_at hl 0 rfl) ?_
  refine lv_bipush (v := 60) hx hb dX0_init_5 (by decide) ?_
  refine pq_newa S 0 (atype := .int) vo_aint (ty := .int) rfl hK hP hD hS hA (cA := g.2 0) rfl (N' := 60) (a0 := (60, .inl (fun _ => 0))) (fun _ => rfl) (by decide) (by decide) (Nat.le_of_ble_eq_true rfl) (Nat.le_of_ble_eq_true rfl) (Nat.le_of_ble_eq_true rfl) dX0_init_7 (fun q1 H hP hD hS => ?_)
  refine pq_putF S hin hK hP hD hS inX0 tyX0_ok nmX0 0 rfl rfl 0 (by decide) fl_X0_9 rfl rfl (ty := .array .int) (v := .ref (q1)) rfl rfl rfl (Nat.le_of_ble_eq_true rfl) dX0_init_9 (fun H locs hP hD hS => ?_)
  replace hP : va_P g.1 pq_cl (([(b, .inr (0, [.ref (q1), .int 0, .int 0, .null, .null, .int 0]))] : va_W) ++ ([(q1, .inl (g.2 0, 60, .inl (fun _ => 0)))] : va_W)) H := hP
  replace hD : va_D A (([(b, .inr (0, [.ref (q1), .int 0, .int 0, .null, .null, .int 0]))] : va_W) ++ ([(q1, .inl (g.2 0, 60, .inl (fun _ => 0)))] : va_W)) := hD
  refine lv_aload_n hx hb dX0_init_12 rfl (lv_at hl 0 rfl) ?_
  refine lv_bipush (v := 20) hx hb dX0_init_13 (by decide) ?_
  refine pq_newa S 0 (atype := .int) vo_aint (ty := .int) rfl hK hP hD hS hA (cA := g.2 0) rfl (N' := 20) (a0 := (20, .inl (fun _ => 0))) (fun _ => rfl) (by decide) (by decide) (Nat.le_of_ble_eq_true rfl) (Nat.le_of_ble_eq_true rfl) (Nat.le_of_ble_eq_true rfl) dX0_init_15 (fun q2 H hP hD hS => ?_)
  refine pq_putF S hin hK hP hD hS inX0 tyX0_ok nmX0 0 rfl rfl 3 (by decide) fl_X0_15 rfl rfl (ty := .array .int) (v := .ref (q2)) rfl rfl rfl (Nat.le_of_ble_eq_true rfl) dX0_init_17 (fun H locs hP hD hS => ?_)
  replace hP : va_P g.1 pq_cl ((([(b, .inr (0, [.ref (q1), .int 0, .int 0, .ref (q2), .null, .int 0]))] : va_W) ++ ([(q1, .inl (g.2 0, 60, .inl (fun _ => 0)))] : va_W)) ++ ([(q2, .inl (g.2 0, 20, .inl (fun _ => 0)))] : va_W)) H := hP
  replace hD : va_D A ((([(b, .inr (0, [.ref (q1), .int 0, .int 0, .ref (q2), .null, .int 0]))] : va_W) ++ ([(q1, .inl (g.2 0, 60, .inl (fun _ => 0)))] : va_W)) ++ ([(q2, .inl (g.2 0, 20, .inl (fun _ => 0)))] : va_W)) := hD
  refine lv_aload_n hx hb dX0_init_20 rfl (lv_at hl 0 rfl) ?_
  refine lv_bipush (v := 100) hx hb dX0_init_21 (by decide) ?_
  refine pq_newa S 0 (atype := .int) vo_aint (ty := .int) rfl hK hP hD hS hA (cA := g.2 0) rfl (N' := 100) (a0 := (100, .inl (fun _ => 0))) (fun _ => rfl) (by decide) (by decide) (Nat.le_of_ble_eq_true rfl) (Nat.le_of_ble_eq_true rfl) (Nat.le_of_ble_eq_true rfl) dX0_init_23 (fun q3 H hP hD hS => ?_)
  refine pq_putF S hin hK hP hD hS inX0 tyX0_ok nmX0 0 rfl rfl 4 (by decide) fl_X0_18 rfl rfl (ty := .array .int) (v := .ref (q3)) rfl rfl rfl (Nat.le_of_ble_eq_true rfl) dX0_init_25 (fun H locs hP hD hS => ?_)
  replace hP : va_P g.1 pq_cl (((([(b, .inr (0, [.ref (q1), .int 0, .int 0, .ref (q2), .ref (q3), .int 0]))] : va_W) ++ ([(q1, .inl (g.2 0, 60, .inl (fun _ => 0)))] : va_W)) ++ ([(q2, .inl (g.2 0, 20, .inl (fun _ => 0)))] : va_W)) ++ ([(q3, .inl (g.2 0, 100, .inl (fun _ => 0)))] : va_W)) H := hP
  replace hD : va_D A (((([(b, .inr (0, [.ref (q1), .int 0, .int 0, .ref (q2), .ref (q3), .int 0]))] : va_W) ++ ([(q1, .inl (g.2 0, 60, .inl (fun _ => 0)))] : va_W)) ++ ([(q2, .inl (g.2 0, 20, .inl (fun _ => 0)))] : va_W)) ++ ([(q3, .inl (g.2 0, 100, .inl (fun _ => 0)))] : va_W)) := hD
  exact hend _ ls _ _ _ _ (fun k => if k = 0 then b else if k < 2 then q1 else if k < 3 then q2 else q3) dX0_init_28 rfl hP hD hS (Nat.le_of_ble_eq_true rfl) (Nat.le_of_ble_eq_true rfl)
theorem vo_X3 : Cond.methodLink RX3 3 Lib.objectInit ∈ pq_G := pq_in 169 (by decide +kernel) (by decide +kernel)
set_option maxHeartbeats 4000000 in
set_option maxRecDepth 100000 in
theorem c_X3_init (l : Launch) (g : pq_g) : pq_C l yX3_init cX3_init 1 1 1 168 g 3 [.null, .int 0] (fun a => outW g a outZ) := by
  refine pq_C.of (own := RX3) (by decide) rfl rfl (by decide) ?_
  intro p e s m below meth c ls Q A b S hin hO hP hK hD hS hA hl hend
  obtain ⟨hx, hb, hml, hown, hts⟩ := id S
  refine lv_aload_n hx hb dX3_init_0 rfl (lv_at hl 0 rfl) ?_
  refine pq_obj S vo_X3 vo_m vo_c hl.1 dX3_init_1 (by decide) ?_
  refine lv_aload_n hx hb dX3_init_4 rfl (lv_at hl 0 rfl) ?_
  refine lv_sipush (v := 168) hx hb dX3_init_5 (by decide) ?_
  refine pq_newa S 0 (atype := .int) vo_aint (ty := .int) rfl hK hP hD hS hA (cA := g.2 0) rfl (N' := 168) (a0 := (168, .inl (fun _ => 0))) (fun _ => rfl) (by decide) (by decide) (Nat.le_of_ble_eq_true rfl) (Nat.le_of_ble_eq_true rfl) (Nat.le_of_ble_eq_true rfl) dX3_init_8 (fun q1 H hP hD hS => ?_)
  refine pq_putF S hin hK hP hD hS inX3 tyX3_ok nmX3 0 rfl rfl 0 (by decide) fl_X3_9 rfl rfl (ty := .array .int) (v := .ref (q1)) rfl rfl rfl (Nat.le_of_ble_eq_true rfl) dX3_init_10 (fun H locs hP hD hS => ?_)
  replace hP : va_P g.1 pq_cl (([(b, .inr (3, [.ref (q1), .int 0]))] : va_W) ++ ([(q1, .inl (g.2 0, 168, .inl (fun _ => 0)))] : va_W)) H := hP
  replace hD : va_D A (([(b, .inr (3, [.ref (q1), .int 0]))] : va_W) ++ ([(q1, .inl (g.2 0, 168, .inl (fun _ => 0)))] : va_W)) := hD
  exact hend _ ls _ _ _ _ (fun k => if k = 0 then b else q1) dX3_init_13 rfl hP hD hS (Nat.le_of_ble_eq_true rfl) (Nat.le_of_ble_eq_true rfl)
theorem vo_X1 : Cond.methodLink RX1 3 Lib.objectInit ∈ pq_G := pq_in 59 (by decide +kernel) (by decide +kernel)
theorem vi_X1_11 : pq_Iw RX1 11 yX4_init "PrioritySearchTree" cX4_init 1 := ⟨⟨List.mem_of_getElem? (i := 1) rfl, pq_in 63 (by decide +kernel) (by decide +kernel), pq_in 20 (by decide +kernel) (by decide +kernel), pq_in 64 (by decide +kernel) (by decide +kernel)⟩, rfl, by decide +kernel, by decide +kernel, by decide +kernel⟩
theorem vi_X1_20 : pq_Iw RX1 20 yX5_init "PrioritySearchTree" cX5_init 1 := ⟨⟨List.mem_of_getElem? (i := 2) rfl, pq_in 92 (by decide +kernel) (by decide +kernel), pq_in 21 (by decide +kernel) (by decide +kernel), pq_in 93 (by decide +kernel) (by decide +kernel)⟩, rfl, by decide +kernel, by decide +kernel, by decide +kernel⟩
theorem vnX1_9 : Cond.classLink RX1 9 RX4 ∈ pq_G ∧ Cond.instantiable RX4 7 ∈ pq_G ∧ Cond.initialized RX4 ∈ pq_G := ⟨pq_in 60 (by decide +kernel) (by decide +kernel), pq_in 61 (by decide +kernel) (by decide +kernel), pq_in 20 (by decide +kernel) (by decide +kernel)⟩
theorem vnX1_18 : Cond.classLink RX1 18 RX5 ∈ pq_G ∧ Cond.instantiable RX5 4 ∈ pq_G ∧ Cond.initialized RX5 ∈ pq_G := ⟨pq_in 89 (by decide +kernel) (by decide +kernel), pq_in 90 (by decide +kernel) (by decide +kernel), pq_in 21 (by decide +kernel) (by decide +kernel)⟩
set_option maxHeartbeats 4000000 in
set_option maxRecDepth 100000 in
theorem c_X1_init (l : Launch) (g : pq_g) : pq_C l yX1_init cX1_init 1 2 12 177 g 1 [.null, .null, .int 0] (fun a => dataW g a dataZ) := by
  refine pq_C.of (own := RX1) (by decide) rfl rfl (by decide) ?_
  intro p e s m below meth c ls Q A b S hin hO hP hK hD hS hA hl hend
  obtain ⟨hx, hb, hml, hown, hts⟩ := id S
  refine lv_aload_n hx hb dX1_init_0 rfl (lv_at hl 0 rfl) ?_
  refine pq_obj S vo_X1 vo_m vo_c hl.1 dX1_init_1 (by decide) ?_
  refine lv_aload_n hx hb dX1_init_4 rfl (lv_at hl 0 rfl) ?_
  refine pq_new S inX4 tyX4 tyX4_ok vnX1_9.1 vnX1_9.2.1 vnX1_9.2.2 hK hP hD hS hA (ci := 4) rfl (fs := [.null, .null, .null, .null, .null, .null, .int 0]) (by decide +kernel) (Nat.le_of_ble_eq_true rfl) (Nat.le_of_ble_eq_true rfl) dX1_init_5 (fun q1 H hP hD hS => ?_)
  refine lv_dup hx hb dX1_init_8 rfl ?_
  refine pq_cI S (c_X4_init l g) vi_X1_11 hO hK hP hD hS hA hl.1 (Nat.le_of_ble_eq_true rfl) dX1_init_9 (by decide) (by decide) ⟨Nat.le_of_ble_eq_true rfl, Nat.le_of_ble_eq_true rfl⟩ (fun a1 H locs e1 hP9 hD9 hS9 => ?_)
  clear hP hD hS
  subst e1
  have hP := hP9
  have hD := hD9
  have hS := hS9
  clear hP9 hD9 hS9
  refine pq_putF S hin hK hP hD hS inX1 tyX1_ok nmX1 0 rfl rfl 0 (by decide) fl_X1_12 rfl rfl (ty := .object "PrioritySearchTree$Tree") (v := .ref (a1 0)) rfl rfl rfl (Nat.le_of_ble_eq_true rfl) dX1_init_12 (fun H locs hP hD hS => ?_)
  replace hP : va_P g.1 pq_cl (([(b, .inr (1, [.ref (a1 0), .null, .int 0]))] : va_W) ++ treeW g a1 treeZ) H := hP
  replace hD : va_D A (([(b, .inr (1, [.ref (a1 0), .null, .int 0]))] : va_W) ++ treeW g a1 treeZ) := hD
  refine lv_aload_n hx hb dX1_init_15 rfl (lv_at hl 0 rfl) ?_
  refine pq_new S inX5 tyX5 tyX5_ok vnX1_18.1 vnX1_18.2.1 vnX1_18.2.2 hK hP hD hS hA (ci := 5) rfl (fs := [.null, .null, .null, .null]) (by decide +kernel) (Nat.le_of_ble_eq_true rfl) (Nat.le_of_ble_eq_true rfl) dX1_init_16 (fun q2 H hP hD hS => ?_)
  refine lv_dup hx hb dX1_init_19 rfl ?_
  refine pq_cI S (c_X5_init l g) vi_X1_20 hO hK hP hD hS hA hl.1 (Nat.le_of_ble_eq_true rfl) dX1_init_20 (by decide) (by decide) ⟨Nat.le_of_ble_eq_true rfl, Nat.le_of_ble_eq_true rfl⟩ (fun a8 H locs e8 hP9 hD9 hS9 => ?_)
  clear hP hD hS
  subst e8
  have hP := hP9
  have hD := hD9
  have hS := hS9
  clear hP9 hD9 hS9
  refine pq_putF S hin hK hP hD hS inX1 tyX1_ok nmX1 0 rfl rfl 1 (by decide) fl_X1_21 rfl rfl (ty := .object "PrioritySearchTree$Windows") (v := .ref (a8 0)) rfl rfl rfl (Nat.le_of_ble_eq_true rfl) dX1_init_23 (fun H locs hP hD hS => ?_)
  replace hP : va_P g.1 pq_cl ((([(b, .inr (1, [.ref (a1 0), .ref (a8 0), .int 0]))] : va_W) ++ treeW g a1 treeZ) ++ winW g a8 winZ) H := hP
  replace hD : va_D A ((([(b, .inr (1, [.ref (a1 0), .ref (a8 0), .int 0]))] : va_W) ++ treeW g a1 treeZ) ++ winW g a8 winZ) := hD
  exact hend _ ls _ _ _ _ (fun k => if k = 0 then b else if k < 8 then a1 (k - 1) else a8 (k - 8)) dX1_init_26 rfl hP hD hS (Nat.le_of_ble_eq_true rfl) (Nat.le_of_ble_eq_true rfl)
