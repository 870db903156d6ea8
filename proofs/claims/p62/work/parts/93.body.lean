/-! ===== the law, from its entry to its end ===== -/
set_option maxHeartbeats 8000000 in
set_option maxRecDepth 100000 in
theorem lw_body {p : Program} {l : Launch} {e : Env} {s : State} {m : MethodId} {below : List Frame} {meth : Method} {c : Code} {Q : State → Prop} {b L : Nat} {xs : Nat → Int32} {ls : Array Slot} (hst : l.stackTraces = false) (S : CallFix p m c cL_law 21 s #[.ref b] pq_G RL) (hts0 : ∀ w ∈ lw_tbl, w.before #[Value.ref b] s = true) (hgv : (Jvm.Cond.and given_1 narrow_1).before #[Value.ref b] s = true) (hX : va_X b L xs s s.heap) (hbl : b < s.heap.size) (hL : L ≤ 260) (hl : lv_has ls 21 [(0, .ref b)])
    (kend : ∀ (H : Heap) (locs : List Loc) (cells slots : Nat) (ls : Array Slot), va_S (fun q => s.heap.size ≤ q) s.heap H locs → cells ≤ 600258 → slots ≤ 7291370 → W p l e room_1 s m #[.ref b] below meth c H locs cells slots Q (F0 m 1387 ls [])) : W p l e room_1 s m #[.ref b] below meth c s.heap [] 0 0 Q (F0 m 0 ls []) := by
  obtain ⟨hx, hb, hml, hown, hts⟩ := id S
  have hA : ∀ q : Nat, s.heap.size ≤ q → (fun q : Nat => s.heap.size ≤ q) q := fun _ h => h
  have hA2 : ∀ q : Nat, q < s.heap.size → ¬ (fun q : Nat => s.heap.size ≤ q) q := fun q h => Nat.not_le.mpr h
  obtain ⟨g, hK⟩ := pq_startK hts0
  have hs := flat_of_before _ hgv
  have hT := pq_startT hts0 hs (hK.1.1 6 _ rfl).2.1 hA2
  have hL9 := pq_startL hs
  obtain ⟨ad, av, hSX⟩ := pq_startS (A := fun q : Nat => s.heap.size ≤ q) hts0 hs hA2
  have hO : va_AO "PrioritySearchTree$Data" s := va_AO.of (hts0 (.arrayOver (.object "PrioritySearchTree$Data")) (lw_mem 130 (by decide +kernel)))
  have hXT : va_T .int b L (fun j => .int (xs j)) (fun q : Nat => s.heap.size ≤ q) s s.heap := by
    obtain ⟨scr, h1, h2, h3, h4, h5⟩ := hX
    exact ⟨scr, h1, h2, h3, Nat.le_of_eq h4.symm, congrArg Nat.toInt32 h4, h5, Nat.not_le.mpr hbl⟩
  have C0 : lwC p l s m #[.ref b] c cL_law 21 (fun q : Nat => s.heap.size ≤ q) g ad av [] b L xs := ⟨S, hK, hA, ⟨⟨hT, hL9⟩, ⟨hSX, fun q h => absurd h List.not_mem_nil, pq_startP hts0⟩, hXT⟩, hst⟩
  have hR : 64 ≤ room_1.frames ∧ 6000 ≤ room_1.locals := ⟨Nat.le_of_ble_eq_true rfl, Nat.le_of_ble_eq_true rfl⟩
  have hS : va_S (fun q : Nat => s.heap.size ≤ q) s.heap s.heap [] := va_S.rf
  have hP : va_P g.1 pq_cl [] s.heap := pq_P0
  have hD : va_D (fun q : Nat => s.heap.size ≤ q) [] := pq_D0
  refine pq_new S inX6 tyX6 tyX6_ok vnL_14.1 vnL_14.2.1 vnL_14.2.2 hK hP hD hS hA (ci := 6) rfl (fs := [.null, .null, .null, .int 0, .null, .null, .null, .int 0, .int 0, .int 0, .int 0]) (by decide +kernel) (Nat.le_of_ble_eq_true rfl) (Nat.le_of_ble_eq_true rfl) dL_law_0 (fun q1 H hP hD hS => ?_)
  refine lv_dup hx hb dL_law_3 rfl ?_
  refine pq_cIq S (c_X6_init l g) vi_L_168 hO hK hP hD hS hA hl.1 (Nat.le_of_ble_eq_true rfl) dL_law_4 ⟨by decide, by decide⟩ ⟨Nat.le_of_ble_eq_true rfl, Nat.le_of_ble_eq_true rfl⟩ (fun a H locs e1 hP9 hD9 hS9 => ?_)
  clear hP hD hS
  subst e1
  have M0 : lwM g a mainZ [] (fun q : Nat => s.heap.size ≤ q) s H locs := ⟨va_P.app hP9 pq_P0, pq_Da hD9 pq_D0 (fun _ _ q hq => absurd hq List.not_mem_nil), hS9⟩
  clear hP9 hD9 hS9
  refine lv_astore_n (lv' := [(1, .ref (a 0)), (0, .ref b)]) hx hb dL_law_7 rfl hl (by decide) rfl (fun ls hl => ?_)
  refine lv_aload_n hx hb dL_law_8 rfl (lv_at hl 0 rfl) ?_
  refine lv_aload_n hx hb dL_law_9 rfl (lv_at hl 1 rfl) ?_
  refine mS C0 M0 (c_L_build l g ad av b L xs a mainZ modZ hst (by omega) PR.zero) mS_no vs_L_169 (As := [.ref (a 0), .ref b]) (rest := []) rfl rfl hl.1 (Nat.le_of_ble_eq_true rfl) dL_law_10 ⟨Nat.le_of_ble_eq_true rfl, Nat.le_of_ble_eq_true rfl⟩ ⟨Nat.le_of_ble_eq_true rfl, Nat.le_of_ble_eq_true rfl⟩ (fun v H1 locs1 hv hz hE hS1 => ?_)
  obtain ⟨rfl, T1, M1, hPR1, hP1⟩ := hv
  replace M0 : lwM g a T1 [] (fun q : Nat => s.heap.size ≤ q) s H1 locs1 := ⟨va_P.app hP1 pq_P0, pq_adr M0.2.1 (ad_app (ad_X6 _ _) rfl), hS1⟩
  show W _ _ _ _ _ _ _ _ _ _ _ _ _ _ _ (F0 _ _ _ [])
  refine lv_iconst (v := 0) hx hb dL_law_13 (by decide) ?_
  refine lv_istore_n (lv' := [(2, .int 0), (1, .ref (a 0)), (0, .ref b)]) hx hb dL_law_14 rfl hl (by decide) rfl (fun ls hl => ?_)
  refine W.widen (k := 400) (n := 4000) (Nat.le_of_ble_eq_true rfl) (Nat.le_of_ble_eq_true rfl) ?_
  exact lT_all (H := H) (locs := []) (ls := ls) (E := []) (T := T1) (cells0 := 400) (slots0 := 4000) (R := room_1) C0 hR (by omega) (fun T2 E2 ls H2 locs2 cells slots M2 hc hs9 hl => kend H2 locs2 cells slots ls M2.2.2 (Nat.le_trans hc (by decide)) (Nat.le_trans hs9 (by decide))) ⟨Nat.le_of_ble_eq_true rfl, Nat.le_of_ble_eq_true rfl⟩ 3 0 T1 M1 [] ls _ _ _ _ (by omega) hPR1 M0 (Nat.le_refl _) (Nat.le_refl _) (lv_sub hl [0, 1, 2] rfl)
