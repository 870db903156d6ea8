/-! ===== the law's three turns ===== -/
set_option maxHeartbeats 8000000 in
set_option maxRecDepth 100000 in
theorem lT_all {p : Program} {l : Launch} {e : Env} {s : State} {m : MethodId} {below : List Frame} {meth : Method} {c : Code} {H : Heap} {locs : List Loc} {cells0 slots0 : Nat} {Q : State → Prop} {A : Nat → Prop} {g : pq_g} {ad av : Nat → Nat} {sb L : Nat} {xs : Nat → Int32} {E : va_W} {a : Nat → Nat} {T : MainS} {ls : Array Slot} {R : Room} (C0 : lwC p l s m #[.ref sb] c cL_law 21 A g ad av [] sb L xs) (hR : 64 ≤ R.frames ∧ 6000 ≤ R.locals) (hL : L < 2 ^ 31) (kk : ∀ (T : MainS) (E : va_W) (ls : Array Slot) (H : Heap) (locs : List Loc) (cells slots : Nat), lwM g a T E A s H locs → cells ≤ cells0 + 42000 → slots ≤ slots0 + 3900000 → lv_has ls 21 [(2, .int (nI 3)), (1, .ref (a 0)), (0, .ref sb)] → W p l e R s m #[.ref sb] below meth c H locs cells slots Q (F0 m 1387 ls [])) (hf : cells0 + 42000 ≤ R.cells ∧ slots0 + 3900000 ≤ R.slots) : ∀ (z tu : Nat) (T : MainS) (M : ModS) (E : va_W) (ls : Array Slot) (H : Heap) (locs : List Loc) (cells slots : Nat), tu + z = 3 → PR T M → lwM g a T E A s H locs → cells ≤ cells0 + lwS 14000 tu → slots ≤ slots0 + lwS 1300000 tu → lv_has ls 21 [(2, .int (nI tu)), (1, .ref (a 0)), (0, .ref sb)] → W p l e R s m #[.ref sb] below meth c H locs cells slots Q (F0 m 15 ls []) := by
  obtain ⟨hx, hb, hml, hown, hts⟩ := id C0.1
  intro z
  induction z with
    | zero =>
      intro tu T M E ls H locs cells slots hj hPR M0 hc1 hs1 hl
      obtain rfl : tu = 3 := by omega
      have e4 : lwS 14000 3 = 42000 := rfl
      have e5 : lwS 1300000 3 = 3900000 := rfl
      refine lv_iload_n hx hb dL_law_15 rfl (lv_at hl 0 rfl) ?_
      refine lv_iconst (v := 3) hx hb dL_law_16 (by decide) ?_
      refine lv_icmp_ge (tgt := 1387) hx hb dL_law_17 (by decide) (fun _ => ?_) (fun h9 => absurd (Int32.le_refl _) h9)
      exact kk T E ls _ _ _ _ M0 (by omega) (by omega) hl
    | succ z ih =>
      intro tu T M E ls H locs cells slots hj hPR M0 hc1 hs1 hl
      obtain ⟨t, hw, -, hd⟩ := hPR.now
      have h24 := hw.le
      have hA := C0.2.2.1
      have e5 : lwS 14000 (tu + 1) = lwS 14000 tu + 14000 := rfl
      have e6 : lwS 1300000 (tu + 1) = lwS 1300000 tu + 1300000 := rfl
      have e7 : lwS 14000 tu ≤ 28000 ∧ lwS 1300000 tu ≤ 2600000 := by
        have h3 : tu = 0 ∨ tu = 1 ∨ tu = 2 := by omega
        rcases h3 with rfl | rfl | rfl <;> decide
      refine lv_iload_n hx hb dL_law_15 rfl (lv_at hl 0 rfl) ?_
      refine lv_iconst (v := 3) hx hb dL_law_16 (by decide) ?_
      refine lv_icmp_ge (tgt := 1387) hx hb dL_law_17 (by decide) (fun h9 => absurd h9 (nI_ge (b := 3) (by omega) (by decide))) (fun _ => ?_)
      refine lv_aload_n hx hb dL_law_20 rfl (lv_at hl 1 rfl) ?_
      refine mR C0 M0 (c_X6_size l g a T  (nI t.size) (a_size hw)) vv_L_101 (rest := []) rfl rfl hl.1 (Nat.le_of_ble_eq_true rfl) dL_law_21 ⟨by omega, by omega⟩ ⟨by omega, by omega⟩ ?_
      refine lv_istore_n (lv' := [(3, .int (nI t.size)), (2, .int (nI tu)), (1, .ref (a 0)), (0, .ref sb)]) hx hb dL_law_24 rfl hl (by decide) rfl (fun ls hl => ?_)
      refine lv_iconst (v := (-1)) hx hb dL_law_25 (by decide) ?_
      refine lv_istore (lv' := [(4, .int (-1)), (3, .int (nI t.size)), (2, .int (nI tu)), (1, .ref (a 0)), (0, .ref sb)]) hx hb dL_law_26 hl (by decide) rfl (fun ls hl => ?_)
      refine lv_iconst (v := 0) hx hb dL_law_28 (by decide) ?_
      refine lv_istore (lv' := [(5, .int 0), (4, .int (-1)), (3, .int (nI t.size)), (2, .int (nI tu)), (1, .ref (a 0)), (0, .ref sb)]) hx hb dL_law_29 hl (by decide) rfl (fun ls hl => ?_)
      refine lv_iconst (v := 0) hx hb dL_law_31 (by decide) ?_
      refine lv_istore (lv' := [(6, .int 0), (5, .int 0), (4, .int (-1)), (3, .int (nI t.size)), (2, .int (nI tu)), (1, .ref (a 0)), (0, .ref sb)]) hx hb dL_law_32 hl (by decide) rfl (fun ls hl => ?_)
      refine lv_aload_n hx hb dL_law_34 rfl (lv_at hl 5 rfl) ?_
      refine mH C0 M0 (c_L_root l g a T  C0.2.2.2.2 (if 0 < t.size then nI (kN T.1.1 t t.rt0) else -30000) T (hh_root hw)) vh_L_173 (rest := []) rfl rfl hl.1 (Nat.le_of_ble_eq_true rfl) dL_law_35 ⟨by omega, by omega⟩ ⟨by omega, by omega⟩ (fun H locs M0 => ?_)
      refine lv_istore (lv' := [(7, .int (if 0 < t.size then nI (kN T.1.1 t t.rt0) else -30000)), (6, .int 0), (5, .int 0), (4, .int (-1)), (3, .int (nI t.size)), (2, .int (nI tu)), (1, .ref (a 0)), (0, .ref sb)]) hx hb dL_law_38 hl (by decide) rfl (fun ls hl => ?_)
      refine lv_iconst (v := 0) hx hb dL_law_40 (by decide) ?_
      refine lv_istore (lv' := [(8, .int 0), (7, .int (if 0 < t.size then nI (kN T.1.1 t t.rt0) else -30000)), (6, .int 0), (5, .int 0), (4, .int (-1)), (3, .int (nI t.size)), (2, .int (nI tu)), (1, .ref (a 0)), (0, .ref sb)]) hx hb dL_law_41 hl (by decide) rfl (fun ls hl => ?_)
      refine lK_all (H := H) (locs := locs) (ls := ls) (E := E) (T := T) (cells0 := cells + 1) (slots0 := slots + 6) C0 hR hL hw (rt := (if 0 < t.size then nI (kN T.1.1 t t.rt0) else -30000)) (tn := nI tu) (fun h0 => if_pos h0) (fun mh ls H locs cells2 slots2 hm M0 hc2 hs2 hl => ?_) (by omega) t.size 0 (-1) ls _ _ _ _ (by omega) ⟨fun q hq => absurd hq (Nat.not_lt_zero q), Or.inl rfl⟩ M0 (by omega) (by omega) (lv_sub hl [0, 1, 2, 3, 4, 5, 6, 7, 8] rfl)
      refine lT_a C0 hR hL hd rfl hm M0 (by omega) hl (fun O X E1 ls H locs cells3 slots3 oT M0 hc3 hs3 hl => ?_)
      refine lv_iconst (v := 0) hx hb dL_law_748 (by decide) ?_
      refine lv_istore (lv' := [(8, .int 0), (3, .int (nI t.size)), (2, .int (nI tu)), (1, .ref (a 0)), (0, .ref sb)]) hx hb dL_law_749 hl (by decide) rfl (fun ls hl => ?_)
      have hw2 : WF (mo T O).1.1 t := hw
      refine lR_all (H := H) (locs := locs) (ls := ls) (E := E1) (T := mo T O) (cells0 := cells3) (slots0 := slots3) C0 hR hL hw2 (tu := tu) (by omega) (fun ls H locs cells4 slots4 M0 hc4 hs4 hl => ?_) (by omega) 8 0 ls _ _ _ _ (by omega) M0 (by omega) (by omega) hl
      refine lv_iconst (v := 0) hx hb dL_law_1158 (by decide) ?_
      refine lv_istore (lv' := [(8, .int 0), (3, .int (nI t.size)), (2, .int (nI tu)), (1, .ref (a 0)), (0, .ref sb)]) hx hb dL_law_1159 hl (by decide) rfl (fun ls hl => ?_)
      refine lW_all (H := H) (locs := locs) (ls := ls) (E := E1) (T := T) (T0 := T) (cells0 := cells4) (slots0 := slots4) C0 hR hL hd (tu := tu) (fun O2 X2 E2 ls H locs cells5 slots5 o2 M0 hc5 hs5 hl => ?_) (by omega) 4 0 O X E1 ls _ _ _ _ (by omega) oT M0 (by omega) (Nat.le_refl _) hl
      obtain ⟨M2, hPR2⟩ := pr_out hPR o2
      refine lv_aload_n hx hb dL_law_1369 rfl (lv_at hl 3 rfl) ?_
      refine lv_aload_n hx hb dL_law_1370 rfl (lv_at hl 4 rfl) ?_
      refine lv_sipush (v := 170) hx hb dL_law_1371 (by decide) ?_
      refine lv_iconst (v := 4) hx hb dL_law_1374 (by decide) ?_
      refine lv_iload_n hx hb dL_law_1375 rfl (lv_at hl 2 rfl) ?_
      refine lv_imul hx hb dL_law_1376 ?_
      rw [show ((4 * nI tu) : Int32) = (nI (4 * tu)) from pk_mul 4 tu]
      refine lv_iadd hx hb dL_law_1377 ?_
      rw [show ((170 + nI (4 * tu)) : Int32) = (nI (170 + 4 * tu)) from nI_add 170 (4 * tu)]
      refine mS C0 M0 (c_L_acts l g ad av sb L xs a (mo T O2) M2 C0.2.2.2.2 hL hPR2 (170 + 4 * tu) (by omega)) mS_no vs_L_97 (As := [.ref (a 0), .ref sb, .int (nI (170 + 4 * tu))]) (rest := []) rfl rfl hl.1 (Nat.le_of_ble_eq_true rfl) dL_law_1378 ⟨by omega, by omega⟩ ⟨by omega, by omega⟩ (fun v H1 locs1 hv hz hE hS1 => ?_)
      obtain ⟨rfl, T1, M1, hPR1, hP1⟩ := hv
      replace M0 : lwM g a T1 E2 A s H1 locs1 := ⟨va_P.app hP1 hE, pq_adr M0.2.1 (ad_app (ad_X6 _ _) rfl), hS1⟩
      show W _ _ _ _ _ _ _ _ _ _ _ _ _ _ _ (F0 _ _ _ [])
      refine lv_iinc (v := (nI (tu + 1))) (lv' := [(2, .int (nI (tu + 1))), (8, .int (nI 4)), (3, .int (nI t.size)), (1, .ref (a 0)), (0, .ref sb)]) hx hb dL_law_1381 hl (k := 2) rfl (by rw [nI_succ]; rfl) (by decide) rfl (fun ls hl => ?_)
      refine lv_goto (tgt := 15) hx hb dL_law_1384 (by decide) ?_
      exact ih (tu + 1) T1 M1 E2 ls _ _ _ _ (by omega) hPR1 M0 (by omega) (by omega) (lv_sub hl [0, 3, 4] rfl)
