set_option maxHeartbeats 4000000 in
set_option maxRecDepth 100000 in
theorem lw_case0 {PR : MainS → ModS → Prop} (hM : pq_Ma PR) {p : Program} {l : Launch} {e : Env} {s : State} {m : MethodId} {below : List Frame} {meth : Method} {c : Code} {Q : State → Prop} {A : Nat → Prop} {b L : Nat} {xs : Nat → Int32} {g : pq_g} {a am : Nat → Nat} {b1 b2 : Nat} (hst : l.stackTraces = false) (S : CallFix p m c cL_law 9 s #[.ref b] pq_G RL) (hK : pq_K g s) (hT : pq_T A s s.heap) (hL9 : pq_L s) (hA : ∀ q : Nat, s.heap.size ≤ q → A q) (hX : va_X b L xs s s.heap) (hbl : b < s.heap.size) (hbA : ¬ A b) (hL : L ≤ 3072)
    {i : Nat} (hi : i + 6 ≤ L) {f : Nat → Int64} {fd : Nat → UInt64} {T : MainS} {M : ModS} {H : Heap} {locs : List Loc} {ls : Array Slot} {cells slots : Nat} (hPR : PR T M) (hP : va_P g.1 pq_cl ([(b1, .inl (g.2 3, 1, .inr (.inl (f))))] ++ ([(b2, .inl (g.2 4, 1, .inr (.inr (.inr (.inl (fd))))))] ++ (mainW g a T ++ modW g am M))) H) (hD : va_D A ([(b1, .inl (g.2 3, 1, .inr (.inl (f))))] ++ ([(b2, .inl (g.2 4, 1, .inr (.inr (.inr (.inl (fd))))))] ++ (mainW g a T ++ modW g am M)))) (hS : va_S A s.heap H locs) (hl : lv_has ls 9 [(5, .int (nI i)), (0, .ref b), (1, .ref (a 0)), (2, .ref (am 0)), (3, .ref b1), (4, .ref b2)]) (hc : cells ≤ 10000) (hs : slots ≤ 100000)
    (kk : ∀ (f1 : Nat → Int64) (fd1 : Nat → UInt64) (T1 : MainS) (M1 : ModS) (H1 : Heap) (locs1 : List Loc) (ls1 : Array Slot), PR T1 M1 → va_P g.1 pq_cl ([(b1, .inl (g.2 3, 1, .inr (.inl (f1))))] ++ ([(b2, .inl (g.2 4, 1, .inr (.inr (.inr (.inl (fd1))))))] ++ (mainW g a T1 ++ modW g am M1))) H1 → va_D A ([(b1, .inl (g.2 3, 1, .inr (.inl (f1))))] ++ ([(b2, .inl (g.2 4, 1, .inr (.inr (.inr (.inl (fd1))))))] ++ (mainW g a T1 ++ modW g am M1))) → va_S A s.heap H1 locs1 → lv_has ls1 9 [(5, .int (nI i)), (0, .ref b), (1, .ref (a 0)), (2, .ref (am 0)), (3, .ref b1), (4, .ref b2)] → W p l e room_1 s m #[.ref b] below meth c H1 locs1 (cells + 6) (slots + 36) Q (F0 m 3417 ls1 [])) : W p l e room_1 s m #[.ref b] below meth c H locs cells slots Q (F0 m 296 ls []) := by
  obtain ⟨hx, hb, hml, hown, hts⟩ := id S
  obtain ⟨o, T1, bb, M1, h6, h7, hPR1, hcd, hbb⟩ := hM.insert T M (xs (i + 1)) (xs (i + 2)) hPR
  refine lv_aload_n hx hb dL_law_296 rfl (lv_at hl 2 rfl) ?_
  refine lv_aload_n hx hb dL_law_297 rfl (lv_at hl 1 rfl) ?_
  refine lv_iload hx hb dL_law_298 (lv_at hl 0 rfl) ?_
  refine lv_iconst (v := 1) hx hb dL_law_300 (by decide) ?_
  refine lv_iadd hx hb dL_law_301 ?_
  refine pq_sld hx hb hX hbl hbA hS (j := 1) (show i + 1 < L by omega) (by omega) (by decide) dL_law_302 ?_
  refine lv_aload_n hx hb dL_law_303 rfl (lv_at hl 1 rfl) ?_
  refine lv_iload hx hb dL_law_304 (lv_at hl 0 rfl) ?_
  refine lv_iconst (v := 2) hx hb dL_law_306 (by decide) ?_
  refine lv_iadd hx hb dL_law_307 ?_
  refine pq_sld hx hb hX hbl hbA hS (j := 2) (show i + 2 < L by omega) (by omega) (by decide) dL_law_308 ?_
  refine lv_aload_n hx hb dL_law_309 rfl (lv_at hl 4 rfl) ?_
  obtain ⟨hPs, hDs, hJ⟩ := pq_4a hP hD
  refine pq_cH S (c_L_insert l g a b1 f T (xs (i + 1)) (xs (i + 2)) hst o T1 h6 M1.1 hcd) vh_L_187 hK hT hL9 hPs hDs hS hA rfl rfl hl.1 (Nat.le_of_ble_eq_true rfl) dL_law_310 ⟨by decide, by decide⟩ ⟨by show cells + 3 ≤ 603072; omega, by show slots + 18 ≤ 7178346; omega⟩ (fun H1 locs1 hk hP1 hS1 => ?_)
  replace hP : va_P g.1 pq_cl ([(b1, .inl (g.2 3, 1, .inr (.inl ((pq_nf f (fun v => v.toInt64) o)))))] ++ ([(b2, .inl (g.2 4, 1, .inr (.inr (.inr (.inl (fd))))))] ++ (mainW g a T1 ++ modW g am M))) H1 := hJ hk hP1
  replace hD : va_D A ([(b1, .inl (g.2 3, 1, .inr (.inl ((pq_nf f (fun v => v.toInt64) o)))))] ++ ([(b2, .inl (g.2 4, 1, .inr (.inr (.inr (.inl (fd))))))] ++ (mainW g a T1 ++ modW g am M))) := pq_adr hD (ad_app rfl (ad_app rfl (ad_app (ad_X6 _ _) (ad_X7 _ _))))
  clear hJ hk hP1 hPs hDs hS
  generalize H1 = H at hP hS1 ⊢
  have hS := hS1
  clear hS1
  refine lv_istore (lv' := [(6, .int M1.1), (5, .int (nI i)), (0, .ref b), (1, .ref (a 0)), (2, .ref (am 0)), (3, .ref b1), (4, .ref b2)]) hx hb dL_law_313 hl (by decide) rfl (fun ls hl => ?_)
  refine lv_aload_n hx hb dL_law_315 rfl (lv_at hl 4 rfl) ?_
  refine lv_aload_n hx hb dL_law_316 rfl (lv_at hl 2 rfl) ?_
  refine lv_iload hx hb dL_law_317 (lv_at hl 1 rfl) ?_
  refine lv_iconst (v := 1) hx hb dL_law_319 (by decide) ?_
  refine lv_iadd hx hb dL_law_320 ?_
  refine pq_sld hx hb hX hbl hbA hS (j := 1) (show i + 1 < L by omega) (by omega) (by decide) dL_law_321 ?_
  refine lv_aload_n hx hb dL_law_322 rfl (lv_at hl 2 rfl) ?_
  refine lv_iload hx hb dL_law_323 (lv_at hl 1 rfl) ?_
  refine lv_iconst (v := 2) hx hb dL_law_325 (by decide) ?_
  refine lv_iadd hx hb dL_law_326 ?_
  refine pq_sld hx hb hX hbl hbA hS (j := 2) (show i + 2 < L by omega) (by omega) (by decide) dL_law_327 ?_
  obtain ⟨hPs, hDs, hJ⟩ := pq_4y hP hD
  refine pq_lVi S (c_X7_insert l g am M (xs (i + 1)) (xs (i + 2)) bb M1 h7) vv_L_192 hK hPs hDs hS hA rfl rfl rfl rfl rfl hl.1 (Nat.le_of_ble_eq_true rfl) dL_law_328 ⟨by decide, by decide⟩ ⟨by show cells+3 ≤ 603072; omega, by show slots+18 ≤ 7178346; omega⟩ (fun H1 locs1 hk hP1 hS1 => ?_)
  replace hP : va_P g.1 pq_cl ([(b1, .inl (g.2 3, 1, .inr (.inl ((pq_nf f (fun v => v.toInt64) o)))))] ++ ([(b2, .inl (g.2 4, 1, .inr (.inr (.inr (.inl (fd))))))] ++ (mainW g a T1 ++ modW g am M1))) H1 := hJ hk hP1
  replace hD : va_D A ([(b1, .inl (g.2 3, 1, .inr (.inl ((pq_nf f (fun v => v.toInt64) o)))))] ++ ([(b2, .inl (g.2 4, 1, .inr (.inr (.inr (.inl (fd))))))] ++ (mainW g a T1 ++ modW g am M1))) := pq_adr hD (ad_app rfl (ad_app rfl (ad_app (ad_X6 _ _) (ad_X7 _ _))))
  clear hJ hk hP1 hPs hDs hS
  generalize H1 = H at hP hS1 ⊢
  have hS := hS1
  clear hS1
  refine lv_istore (lv' := [(7, .int bb), (6, .int M1.1), (5, .int (nI i)), (0, .ref b), (1, .ref (a 0)), (2, .ref (am 0)), (3, .ref b1), (4, .ref b2)]) hx hb dL_law_331 hl (by decide) rfl (fun ls hl => ?_)
  refine lv_aload_n hx hb dL_law_333 rfl (lv_at hl 5 rfl) ?_
  obtain ⟨hPs, hDs, hJ⟩ := pq_4y hP hD
  refine pq_lV S (c_X7_thrown l g am M1 M1.1 rfl) vv_L_193 hK hPs rfl rfl rfl rfl rfl hl.1 (Nat.le_of_ble_eq_true rfl) dL_law_334 ⟨by decide, by decide⟩ ⟨by show cells+3 ≤ 603072; omega, by show slots+18 ≤ 7178346; omega⟩ ?_
  clear hJ hPs hDs
  refine lv_iload hx hb dL_law_337 (lv_at hl 1 rfl) ?_
  refine lv_icmp_eq (tgt := 344) hx hb dL_law_339 (by decide) (fun _ => ?_) (fun h9 => absurd rfl h9)
  refine lv_iload hx hb dL_law_344 (lv_at hl 1 rfl) ?_
  refine lv_if_ne (tgt := 361) hx hb dL_law_346 (by decide) (fun h0 => ?_) (fun h0 => ?_)
  · skip
    refine lv_goto (tgt := 3417) hx hb dL_law_361 (by decide) ?_
    exact W.widen (by omega) (by omega) (kk (pq_nf f (fun v => v.toInt64) o) fd T1 M1 H _ ls hPR1 hP hD hS (lv_sub hl [2, 3, 4, 5, 6, 7] rfl))
  · have e0 := hbb h0
    subst e0
    refine lv_aload_n hx hb dL_law_349 rfl (lv_at hl 6 rfl) ?_
    refine lv_iconst (v := 0) hx hb dL_law_350 (by decide) ?_
    refine va_lald hx hb hK.1 hP 0 3 rfl rfl pq_in01 dL_law_351 ?_
    refine lv_iload hx hb dL_law_352 (lv_at hl 0 rfl) ?_
    refine lv_i2l hx hb dL_law_354 rfl ?_
    refine W.lcmp hx hb dL_law_355 ?_
    refine lv_if_eq (tgt := 361) hx hb dL_law_356 (by decide) (fun _ => ?_) (fun h9 => absurd (pq_lcmp _) h9)
    refine lv_goto (tgt := 3417) hx hb dL_law_361 (by decide) ?_
    exact W.widen (by omega) (by omega) (kk (pq_nf f (fun v => v.toInt64) (.inr bb)) fd T1 M1 H _ ls hPR1 hP hD hS (lv_sub hl [2, 3, 4, 5, 6, 7] rfl))
set_option maxHeartbeats 4000000 in
set_option maxRecDepth 100000 in
theorem lw_case1 {PR : MainS → ModS → Prop} (hM : pq_Ma PR) {p : Program} {l : Launch} {e : Env} {s : State} {m : MethodId} {below : List Frame} {meth : Method} {c : Code} {Q : State → Prop} {A : Nat → Prop} {b L : Nat} {xs : Nat → Int32} {g : pq_g} {a am : Nat → Nat} {b1 b2 : Nat} (hst : l.stackTraces = false) (S : CallFix p m c cL_law 9 s #[.ref b] pq_G RL) (hK : pq_K g s) (hT : pq_T A s s.heap) (hL9 : pq_L s) (hA : ∀ q : Nat, s.heap.size ≤ q → A q) (hX : va_X b L xs s s.heap) (hbl : b < s.heap.size) (hbA : ¬ A b) (hL : L ≤ 3072)
    {i : Nat} (hi : i + 6 ≤ L) {f : Nat → Int64} {fd : Nat → UInt64} {T : MainS} {M : ModS} {H : Heap} {locs : List Loc} {ls : Array Slot} {cells slots : Nat} (hPR : PR T M) (hP : va_P g.1 pq_cl ([(b1, .inl (g.2 3, 1, .inr (.inl (f))))] ++ ([(b2, .inl (g.2 4, 1, .inr (.inr (.inr (.inl (fd))))))] ++ (mainW g a T ++ modW g am M))) H) (hD : va_D A ([(b1, .inl (g.2 3, 1, .inr (.inl (f))))] ++ ([(b2, .inl (g.2 4, 1, .inr (.inr (.inr (.inl (fd))))))] ++ (mainW g a T ++ modW g am M)))) (hS : va_S A s.heap H locs) (hl : lv_has ls 9 [(5, .int (nI i)), (0, .ref b), (1, .ref (a 0)), (2, .ref (am 0)), (3, .ref b1), (4, .ref b2)]) (hc : cells ≤ 10000) (hs : slots ≤ 100000)
    (kk : ∀ (f1 : Nat → Int64) (fd1 : Nat → UInt64) (T1 : MainS) (M1 : ModS) (H1 : Heap) (locs1 : List Loc) (ls1 : Array Slot), PR T1 M1 → va_P g.1 pq_cl ([(b1, .inl (g.2 3, 1, .inr (.inl (f1))))] ++ ([(b2, .inl (g.2 4, 1, .inr (.inr (.inr (.inl (fd1))))))] ++ (mainW g a T1 ++ modW g am M1))) H1 → va_D A ([(b1, .inl (g.2 3, 1, .inr (.inl (f1))))] ++ ([(b2, .inl (g.2 4, 1, .inr (.inr (.inr (.inl (fd1))))))] ++ (mainW g a T1 ++ modW g am M1))) → va_S A s.heap H1 locs1 → lv_has ls1 9 [(5, .int (nI i)), (0, .ref b), (1, .ref (a 0)), (2, .ref (am 0)), (3, .ref b1), (4, .ref b2)] → W p l e room_1 s m #[.ref b] below meth c H1 locs1 (cells + 6) (slots + 36) Q (F0 m 3417 ls1 [])) : W p l e room_1 s m #[.ref b] below meth c H locs cells slots Q (F0 m 364 ls []) := by
  obtain ⟨hx, hb, hml, hown, hts⟩ := id S
  obtain ⟨o, T1, bb, M1, h6, h7, hPR1, hcd, hbb⟩ := hM.delete T M (xs (i + 1)) hPR
  refine lv_aload_n hx hb dL_law_364 rfl (lv_at hl 2 rfl) ?_
  refine lv_aload_n hx hb dL_law_365 rfl (lv_at hl 1 rfl) ?_
  refine lv_iload hx hb dL_law_366 (lv_at hl 0 rfl) ?_
  refine lv_iconst (v := 1) hx hb dL_law_368 (by decide) ?_
  refine lv_iadd hx hb dL_law_369 ?_
  refine pq_sld hx hb hX hbl hbA hS (j := 1) (show i + 1 < L by omega) (by omega) (by decide) dL_law_370 ?_
  refine lv_aload_n hx hb dL_law_371 rfl (lv_at hl 4 rfl) ?_
  obtain ⟨hPs, hDs, hJ⟩ := pq_4a hP hD
  refine pq_cH S (c_L_delete l g a b1 f T (xs (i + 1)) hst o T1 h6 M1.1 hcd) vh_L_196 hK hT hL9 hPs hDs hS hA rfl rfl hl.1 (Nat.le_of_ble_eq_true rfl) dL_law_372 ⟨by decide, by decide⟩ ⟨by show cells + 1 ≤ 603072; omega, by show slots + 6 ≤ 7178346; omega⟩ (fun H1 locs1 hk hP1 hS1 => ?_)
  replace hP : va_P g.1 pq_cl ([(b1, .inl (g.2 3, 1, .inr (.inl ((pq_nf f (fun v => v.toInt64) o)))))] ++ ([(b2, .inl (g.2 4, 1, .inr (.inr (.inr (.inl (fd))))))] ++ (mainW g a T1 ++ modW g am M))) H1 := hJ hk hP1
  replace hD : va_D A ([(b1, .inl (g.2 3, 1, .inr (.inl ((pq_nf f (fun v => v.toInt64) o)))))] ++ ([(b2, .inl (g.2 4, 1, .inr (.inr (.inr (.inl (fd))))))] ++ (mainW g a T1 ++ modW g am M))) := pq_adr hD (ad_app rfl (ad_app rfl (ad_app (ad_X6 _ _) (ad_X7 _ _))))
  clear hJ hk hP1 hPs hDs hS
  generalize H1 = H at hP hS1 ⊢
  have hS := hS1
  clear hS1
  refine lv_istore (lv' := [(6, .int M1.1), (5, .int (nI i)), (0, .ref b), (1, .ref (a 0)), (2, .ref (am 0)), (3, .ref b1), (4, .ref b2)]) hx hb dL_law_375 hl (by decide) rfl (fun ls hl => ?_)
  refine lv_aload_n hx hb dL_law_377 rfl (lv_at hl 4 rfl) ?_
  refine lv_aload_n hx hb dL_law_378 rfl (lv_at hl 2 rfl) ?_
  refine lv_iload hx hb dL_law_379 (lv_at hl 1 rfl) ?_
  refine lv_iconst (v := 1) hx hb dL_law_381 (by decide) ?_
  refine lv_iadd hx hb dL_law_382 ?_
  refine pq_sld hx hb hX hbl hbA hS (j := 1) (show i + 1 < L by omega) (by omega) (by decide) dL_law_383 ?_
  obtain ⟨hPs, hDs, hJ⟩ := pq_4y hP hD
  refine pq_lVi S (c_X7_delete l g am M (xs (i + 1)) bb M1 h7) vv_L_199 hK hPs hDs hS hA rfl rfl rfl rfl rfl hl.1 (Nat.le_of_ble_eq_true rfl) dL_law_384 ⟨by decide, by decide⟩ ⟨by show cells+1 ≤ 603072; omega, by show slots+6 ≤ 7178346; omega⟩ (fun H1 locs1 hk hP1 hS1 => ?_)
  replace hP : va_P g.1 pq_cl ([(b1, .inl (g.2 3, 1, .inr (.inl ((pq_nf f (fun v => v.toInt64) o)))))] ++ ([(b2, .inl (g.2 4, 1, .inr (.inr (.inr (.inl (fd))))))] ++ (mainW g a T1 ++ modW g am M1))) H1 := hJ hk hP1
  replace hD : va_D A ([(b1, .inl (g.2 3, 1, .inr (.inl ((pq_nf f (fun v => v.toInt64) o)))))] ++ ([(b2, .inl (g.2 4, 1, .inr (.inr (.inr (.inl (fd))))))] ++ (mainW g a T1 ++ modW g am M1))) := pq_adr hD (ad_app rfl (ad_app rfl (ad_app (ad_X6 _ _) (ad_X7 _ _))))
  clear hJ hk hP1 hPs hDs hS
  generalize H1 = H at hP hS1 ⊢
  have hS := hS1
  clear hS1
  refine lv_istore (lv' := [(7, .int bb), (6, .int M1.1), (5, .int (nI i)), (0, .ref b), (1, .ref (a 0)), (2, .ref (am 0)), (3, .ref b1), (4, .ref b2)]) hx hb dL_law_387 hl (by decide) rfl (fun ls hl => ?_)
  refine lv_aload_n hx hb dL_law_389 rfl (lv_at hl 5 rfl) ?_
  obtain ⟨hPs, hDs, hJ⟩ := pq_4y hP hD
  refine pq_lV S (c_X7_thrown l g am M1 M1.1 rfl) vv_L_193 hK hPs rfl rfl rfl rfl rfl hl.1 (Nat.le_of_ble_eq_true rfl) dL_law_390 ⟨by decide, by decide⟩ ⟨by show cells+1 ≤ 603072; omega, by show slots+6 ≤ 7178346; omega⟩ ?_
  clear hJ hPs hDs
  refine lv_iload hx hb dL_law_393 (lv_at hl 1 rfl) ?_
  refine lv_icmp_eq (tgt := 400) hx hb dL_law_395 (by decide) (fun _ => ?_) (fun h9 => absurd rfl h9)
  refine lv_iload hx hb dL_law_400 (lv_at hl 1 rfl) ?_
  refine lv_if_ne (tgt := 417) hx hb dL_law_402 (by decide) (fun h0 => ?_) (fun h0 => ?_)
  · skip
    refine lv_goto (tgt := 3417) hx hb dL_law_417 (by decide) ?_
    exact W.widen (by omega) (by omega) (kk (pq_nf f (fun v => v.toInt64) o) fd T1 M1 H _ ls hPR1 hP hD hS (lv_sub hl [2, 3, 4, 5, 6, 7] rfl))
  · have e0 := hbb h0
    subst e0
    refine lv_aload_n hx hb dL_law_405 rfl (lv_at hl 6 rfl) ?_
    refine lv_iconst (v := 0) hx hb dL_law_406 (by decide) ?_
    refine va_lald hx hb hK.1 hP 0 3 rfl rfl pq_in01 dL_law_407 ?_
    refine lv_iload hx hb dL_law_408 (lv_at hl 0 rfl) ?_
    refine lv_i2l hx hb dL_law_410 rfl ?_
    refine W.lcmp hx hb dL_law_411 ?_
    refine lv_if_eq (tgt := 417) hx hb dL_law_412 (by decide) (fun _ => ?_) (fun h9 => absurd (pq_lcmp _) h9)
    refine lv_goto (tgt := 3417) hx hb dL_law_417 (by decide) ?_
    exact W.widen (by omega) (by omega) (kk (pq_nf f (fun v => v.toInt64) (.inr bb)) fd T1 M1 H _ ls hPR1 hP hD hS (lv_sub hl [2, 3, 4, 5, 6, 7] rfl))
set_option maxHeartbeats 4000000 in
set_option maxRecDepth 100000 in
theorem lw_case2 {PR : MainS → ModS → Prop} (hM : pq_Ma PR) {p : Program} {l : Launch} {e : Env} {s : State} {m : MethodId} {below : List Frame} {meth : Method} {c : Code} {Q : State → Prop} {A : Nat → Prop} {b L : Nat} {xs : Nat → Int32} {g : pq_g} {a am : Nat → Nat} {b1 b2 : Nat} (hst : l.stackTraces = false) (S : CallFix p m c cL_law 9 s #[.ref b] pq_G RL) (hK : pq_K g s) (hT : pq_T A s s.heap) (hL9 : pq_L s) (hA : ∀ q : Nat, s.heap.size ≤ q → A q) (hX : va_X b L xs s s.heap) (hbl : b < s.heap.size) (hbA : ¬ A b) (hL : L ≤ 3072)
    {i : Nat} (hi : i + 6 ≤ L) {f : Nat → Int64} {fd : Nat → UInt64} {T : MainS} {M : ModS} {H : Heap} {locs : List Loc} {ls : Array Slot} {cells slots : Nat} (hPR : PR T M) (hP : va_P g.1 pq_cl ([(b1, .inl (g.2 3, 1, .inr (.inl (f))))] ++ ([(b2, .inl (g.2 4, 1, .inr (.inr (.inr (.inl (fd))))))] ++ (mainW g a T ++ modW g am M))) H) (hD : va_D A ([(b1, .inl (g.2 3, 1, .inr (.inl (f))))] ++ ([(b2, .inl (g.2 4, 1, .inr (.inr (.inr (.inl (fd))))))] ++ (mainW g a T ++ modW g am M)))) (hS : va_S A s.heap H locs) (hl : lv_has ls 9 [(5, .int (nI i)), (0, .ref b), (1, .ref (a 0)), (2, .ref (am 0)), (3, .ref b1), (4, .ref b2)]) (hc : cells ≤ 10000) (hs : slots ≤ 100000)
    (kk : ∀ (f1 : Nat → Int64) (fd1 : Nat → UInt64) (T1 : MainS) (M1 : ModS) (H1 : Heap) (locs1 : List Loc) (ls1 : Array Slot), PR T1 M1 → va_P g.1 pq_cl ([(b1, .inl (g.2 3, 1, .inr (.inl (f1))))] ++ ([(b2, .inl (g.2 4, 1, .inr (.inr (.inr (.inl (fd1))))))] ++ (mainW g a T1 ++ modW g am M1))) H1 → va_D A ([(b1, .inl (g.2 3, 1, .inr (.inl (f1))))] ++ ([(b2, .inl (g.2 4, 1, .inr (.inr (.inr (.inl (fd1))))))] ++ (mainW g a T1 ++ modW g am M1))) → va_S A s.heap H1 locs1 → lv_has ls1 9 [(5, .int (nI i)), (0, .ref b), (1, .ref (a 0)), (2, .ref (am 0)), (3, .ref b1), (4, .ref b2)] → W p l e room_1 s m #[.ref b] below meth c H1 locs1 (cells + 6) (slots + 36) Q (F0 m 3417 ls1 [])) : W p l e room_1 s m #[.ref b] below meth c H locs cells slots Q (F0 m 420 ls []) := by
  obtain ⟨hx, hb, hml, hown, hts⟩ := id S
  obtain ⟨o, T1, bb, M1, h6, h7, hPR1, hcd, hbb⟩ := hM.changePriority T M (xs (i + 1)) (xs (i + 2)) hPR
  refine lv_aload_n hx hb dL_law_420 rfl (lv_at hl 2 rfl) ?_
  refine lv_aload_n hx hb dL_law_421 rfl (lv_at hl 1 rfl) ?_
  refine lv_iload hx hb dL_law_422 (lv_at hl 0 rfl) ?_
  refine lv_iconst (v := 1) hx hb dL_law_424 (by decide) ?_
  refine lv_iadd hx hb dL_law_425 ?_
  refine pq_sld hx hb hX hbl hbA hS (j := 1) (show i + 1 < L by omega) (by omega) (by decide) dL_law_426 ?_
  refine lv_aload_n hx hb dL_law_427 rfl (lv_at hl 1 rfl) ?_
  refine lv_iload hx hb dL_law_428 (lv_at hl 0 rfl) ?_
  refine lv_iconst (v := 2) hx hb dL_law_430 (by decide) ?_
  refine lv_iadd hx hb dL_law_431 ?_
  refine pq_sld hx hb hX hbl hbA hS (j := 2) (show i + 2 < L by omega) (by omega) (by decide) dL_law_432 ?_
  refine lv_aload_n hx hb dL_law_433 rfl (lv_at hl 4 rfl) ?_
  obtain ⟨hPs, hDs, hJ⟩ := pq_4a hP hD
  refine pq_cH S (c_L_changePriority l g a b1 f T (xs (i + 1)) (xs (i + 2)) hst o T1 h6 M1.1 hcd) vh_L_200 hK hT hL9 hPs hDs hS hA rfl rfl hl.1 (Nat.le_of_ble_eq_true rfl) dL_law_434 ⟨by decide, by decide⟩ ⟨by show cells + 3 ≤ 603072; omega, by show slots + 18 ≤ 7178346; omega⟩ (fun H1 locs1 hk hP1 hS1 => ?_)
  replace hP : va_P g.1 pq_cl ([(b1, .inl (g.2 3, 1, .inr (.inl ((pq_nf f (fun v => v.toInt64) o)))))] ++ ([(b2, .inl (g.2 4, 1, .inr (.inr (.inr (.inl (fd))))))] ++ (mainW g a T1 ++ modW g am M))) H1 := hJ hk hP1
  replace hD : va_D A ([(b1, .inl (g.2 3, 1, .inr (.inl ((pq_nf f (fun v => v.toInt64) o)))))] ++ ([(b2, .inl (g.2 4, 1, .inr (.inr (.inr (.inl (fd))))))] ++ (mainW g a T1 ++ modW g am M))) := pq_adr hD (ad_app rfl (ad_app rfl (ad_app (ad_X6 _ _) (ad_X7 _ _))))
  clear hJ hk hP1 hPs hDs hS
  generalize H1 = H at hP hS1 ⊢
  have hS := hS1
  clear hS1
  refine lv_istore (lv' := [(6, .int M1.1), (5, .int (nI i)), (0, .ref b), (1, .ref (a 0)), (2, .ref (am 0)), (3, .ref b1), (4, .ref b2)]) hx hb dL_law_437 hl (by decide) rfl (fun ls hl => ?_)
  refine lv_aload_n hx hb dL_law_439 rfl (lv_at hl 4 rfl) ?_
  refine lv_aload_n hx hb dL_law_440 rfl (lv_at hl 2 rfl) ?_
  refine lv_iload hx hb dL_law_441 (lv_at hl 1 rfl) ?_
  refine lv_iconst (v := 1) hx hb dL_law_443 (by decide) ?_
  refine lv_iadd hx hb dL_law_444 ?_
  refine pq_sld hx hb hX hbl hbA hS (j := 1) (show i + 1 < L by omega) (by omega) (by decide) dL_law_445 ?_
  refine lv_aload_n hx hb dL_law_446 rfl (lv_at hl 2 rfl) ?_
  refine lv_iload hx hb dL_law_447 (lv_at hl 1 rfl) ?_
  refine lv_iconst (v := 2) hx hb dL_law_449 (by decide) ?_
  refine lv_iadd hx hb dL_law_450 ?_
  refine pq_sld hx hb hX hbl hbA hS (j := 2) (show i + 2 < L by omega) (by omega) (by decide) dL_law_451 ?_
  obtain ⟨hPs, hDs, hJ⟩ := pq_4y hP hD
  refine pq_lVi S (c_X7_changePriority l g am M (xs (i + 1)) (xs (i + 2)) bb M1 h7) vv_L_202 hK hPs hDs hS hA rfl rfl rfl rfl rfl hl.1 (Nat.le_of_ble_eq_true rfl) dL_law_452 ⟨by decide, by decide⟩ ⟨by show cells+3 ≤ 603072; omega, by show slots+18 ≤ 7178346; omega⟩ (fun H1 locs1 hk hP1 hS1 => ?_)
  replace hP : va_P g.1 pq_cl ([(b1, .inl (g.2 3, 1, .inr (.inl ((pq_nf f (fun v => v.toInt64) o)))))] ++ ([(b2, .inl (g.2 4, 1, .inr (.inr (.inr (.inl (fd))))))] ++ (mainW g a T1 ++ modW g am M1))) H1 := hJ hk hP1
  replace hD : va_D A ([(b1, .inl (g.2 3, 1, .inr (.inl ((pq_nf f (fun v => v.toInt64) o)))))] ++ ([(b2, .inl (g.2 4, 1, .inr (.inr (.inr (.inl (fd))))))] ++ (mainW g a T1 ++ modW g am M1))) := pq_adr hD (ad_app rfl (ad_app rfl (ad_app (ad_X6 _ _) (ad_X7 _ _))))
  clear hJ hk hP1 hPs hDs hS
  generalize H1 = H at hP hS1 ⊢
  have hS := hS1
  clear hS1
  refine lv_istore (lv' := [(7, .int bb), (6, .int M1.1), (5, .int (nI i)), (0, .ref b), (1, .ref (a 0)), (2, .ref (am 0)), (3, .ref b1), (4, .ref b2)]) hx hb dL_law_455 hl (by decide) rfl (fun ls hl => ?_)
  refine lv_aload_n hx hb dL_law_457 rfl (lv_at hl 5 rfl) ?_
  obtain ⟨hPs, hDs, hJ⟩ := pq_4y hP hD
  refine pq_lV S (c_X7_thrown l g am M1 M1.1 rfl) vv_L_193 hK hPs rfl rfl rfl rfl rfl hl.1 (Nat.le_of_ble_eq_true rfl) dL_law_458 ⟨by decide, by decide⟩ ⟨by show cells+3 ≤ 603072; omega, by show slots+18 ≤ 7178346; omega⟩ ?_
  clear hJ hPs hDs
  refine lv_iload hx hb dL_law_461 (lv_at hl 1 rfl) ?_
  refine lv_icmp_eq (tgt := 468) hx hb dL_law_463 (by decide) (fun _ => ?_) (fun h9 => absurd rfl h9)
  refine lv_iload hx hb dL_law_468 (lv_at hl 1 rfl) ?_
  refine lv_if_ne (tgt := 485) hx hb dL_law_470 (by decide) (fun h0 => ?_) (fun h0 => ?_)
  · skip
    refine lv_goto (tgt := 3417) hx hb dL_law_485 (by decide) ?_
    exact W.widen (by omega) (by omega) (kk (pq_nf f (fun v => v.toInt64) o) fd T1 M1 H _ ls hPR1 hP hD hS (lv_sub hl [2, 3, 4, 5, 6, 7] rfl))
  · have e0 := hbb h0
    subst e0
    refine lv_aload_n hx hb dL_law_473 rfl (lv_at hl 6 rfl) ?_
    refine lv_iconst (v := 0) hx hb dL_law_474 (by decide) ?_
    refine va_lald hx hb hK.1 hP 0 3 rfl rfl pq_in01 dL_law_475 ?_
    refine lv_iload hx hb dL_law_476 (lv_at hl 0 rfl) ?_
    refine lv_i2l hx hb dL_law_478 rfl ?_
    refine W.lcmp hx hb dL_law_479 ?_
    refine lv_if_eq (tgt := 485) hx hb dL_law_480 (by decide) (fun _ => ?_) (fun h9 => absurd (pq_lcmp _) h9)
    refine lv_goto (tgt := 3417) hx hb dL_law_485 (by decide) ?_
    exact W.widen (by omega) (by omega) (kk (pq_nf f (fun v => v.toInt64) (.inr bb)) fd T1 M1 H _ ls hPR1 hP hD hS (lv_sub hl [2, 3, 4, 5, 6, 7] rfl))
set_option maxHeartbeats 4000000 in
set_option maxRecDepth 100000 in
theorem lw_case3 {PR : MainS → ModS → Prop} (hM : pq_Ma PR) {p : Program} {l : Launch} {e : Env} {s : State} {m : MethodId} {below : List Frame} {meth : Method} {c : Code} {Q : State → Prop} {A : Nat → Prop} {b L : Nat} {xs : Nat → Int32} {g : pq_g} {a am : Nat → Nat} {b1 b2 : Nat} (hst : l.stackTraces = false) (S : CallFix p m c cL_law 9 s #[.ref b] pq_G RL) (hK : pq_K g s) (hT : pq_T A s s.heap) (hL9 : pq_L s) (hA : ∀ q : Nat, s.heap.size ≤ q → A q) (hX : va_X b L xs s s.heap) (hbl : b < s.heap.size) (hbA : ¬ A b) (hL : L ≤ 3072)
    {i : Nat} (hi : i + 6 ≤ L) {f : Nat → Int64} {fd : Nat → UInt64} {T : MainS} {M : ModS} {H : Heap} {locs : List Loc} {ls : Array Slot} {cells slots : Nat} (hPR : PR T M) (hP : va_P g.1 pq_cl ([(b1, .inl (g.2 3, 1, .inr (.inl (f))))] ++ ([(b2, .inl (g.2 4, 1, .inr (.inr (.inr (.inl (fd))))))] ++ (mainW g a T ++ modW g am M))) H) (hD : va_D A ([(b1, .inl (g.2 3, 1, .inr (.inl (f))))] ++ ([(b2, .inl (g.2 4, 1, .inr (.inr (.inr (.inl (fd))))))] ++ (mainW g a T ++ modW g am M)))) (hS : va_S A s.heap H locs) (hl : lv_has ls 9 [(5, .int (nI i)), (0, .ref b), (1, .ref (a 0)), (2, .ref (am 0)), (3, .ref b1), (4, .ref b2)]) (hc : cells ≤ 10000) (hs : slots ≤ 100000)
    (kk : ∀ (f1 : Nat → Int64) (fd1 : Nat → UInt64) (T1 : MainS) (M1 : ModS) (H1 : Heap) (locs1 : List Loc) (ls1 : Array Slot), PR T1 M1 → va_P g.1 pq_cl ([(b1, .inl (g.2 3, 1, .inr (.inl (f1))))] ++ ([(b2, .inl (g.2 4, 1, .inr (.inr (.inr (.inl (fd1))))))] ++ (mainW g a T1 ++ modW g am M1))) H1 → va_D A ([(b1, .inl (g.2 3, 1, .inr (.inl (f1))))] ++ ([(b2, .inl (g.2 4, 1, .inr (.inr (.inr (.inl (fd1))))))] ++ (mainW g a T1 ++ modW g am M1))) → va_S A s.heap H1 locs1 → lv_has ls1 9 [(5, .int (nI i)), (0, .ref b), (1, .ref (a 0)), (2, .ref (am 0)), (3, .ref b1), (4, .ref b2)] → W p l e room_1 s m #[.ref b] below meth c H1 locs1 (cells + 6) (slots + 36) Q (F0 m 3417 ls1 [])) : W p l e room_1 s m #[.ref b] below meth c H locs cells slots Q (F0 m 488 ls []) := by
  obtain ⟨hx, hb, hml, hown, hts⟩ := id S
  obtain ⟨o, T1, bb, M1, h6, h7, hPR1, hcd, hbb⟩ := hM.moveKey T M (xs (i + 1)) (xs (i + 2)) hPR
  refine lv_aload_n hx hb dL_law_488 rfl (lv_at hl 2 rfl) ?_
  refine lv_aload_n hx hb dL_law_489 rfl (lv_at hl 1 rfl) ?_
  refine lv_iload hx hb dL_law_490 (lv_at hl 0 rfl) ?_
  refine lv_iconst (v := 1) hx hb dL_law_492 (by decide) ?_
  refine lv_iadd hx hb dL_law_493 ?_
  refine pq_sld hx hb hX hbl hbA hS (j := 1) (show i + 1 < L by omega) (by omega) (by decide) dL_law_494 ?_
  refine lv_aload_n hx hb dL_law_495 rfl (lv_at hl 1 rfl) ?_
  refine lv_iload hx hb dL_law_496 (lv_at hl 0 rfl) ?_
  refine lv_iconst (v := 2) hx hb dL_law_498 (by decide) ?_
  refine lv_iadd hx hb dL_law_499 ?_
  refine pq_sld hx hb hX hbl hbA hS (j := 2) (show i + 2 < L by omega) (by omega) (by decide) dL_law_500 ?_
  refine lv_aload_n hx hb dL_law_501 rfl (lv_at hl 4 rfl) ?_
  obtain ⟨hPs, hDs, hJ⟩ := pq_4a hP hD
  refine pq_cH S (c_L_moveKey l g a b1 f T (xs (i + 1)) (xs (i + 2)) hst o T1 h6 M1.1 hcd) vh_L_203 hK hT hL9 hPs hDs hS hA rfl rfl hl.1 (Nat.le_of_ble_eq_true rfl) dL_law_502 ⟨by decide, by decide⟩ ⟨by show cells + 3 ≤ 603072; omega, by show slots + 18 ≤ 7178346; omega⟩ (fun H1 locs1 hk hP1 hS1 => ?_)
  replace hP : va_P g.1 pq_cl ([(b1, .inl (g.2 3, 1, .inr (.inl ((pq_nf f (fun v => v.toInt64) o)))))] ++ ([(b2, .inl (g.2 4, 1, .inr (.inr (.inr (.inl (fd))))))] ++ (mainW g a T1 ++ modW g am M))) H1 := hJ hk hP1
  replace hD : va_D A ([(b1, .inl (g.2 3, 1, .inr (.inl ((pq_nf f (fun v => v.toInt64) o)))))] ++ ([(b2, .inl (g.2 4, 1, .inr (.inr (.inr (.inl (fd))))))] ++ (mainW g a T1 ++ modW g am M))) := pq_adr hD (ad_app rfl (ad_app rfl (ad_app (ad_X6 _ _) (ad_X7 _ _))))
  clear hJ hk hP1 hPs hDs hS
  generalize H1 = H at hP hS1 ⊢
  have hS := hS1
  clear hS1
  refine lv_istore (lv' := [(6, .int M1.1), (5, .int (nI i)), (0, .ref b), (1, .ref (a 0)), (2, .ref (am 0)), (3, .ref b1), (4, .ref b2)]) hx hb dL_law_505 hl (by decide) rfl (fun ls hl => ?_)
  refine lv_aload_n hx hb dL_law_507 rfl (lv_at hl 4 rfl) ?_
  refine lv_aload_n hx hb dL_law_508 rfl (lv_at hl 2 rfl) ?_
  refine lv_iload hx hb dL_law_509 (lv_at hl 1 rfl) ?_
  refine lv_iconst (v := 1) hx hb dL_law_511 (by decide) ?_
  refine lv_iadd hx hb dL_law_512 ?_
  refine pq_sld hx hb hX hbl hbA hS (j := 1) (show i + 1 < L by omega) (by omega) (by decide) dL_law_513 ?_
  refine lv_aload_n hx hb dL_law_514 rfl (lv_at hl 2 rfl) ?_
  refine lv_iload hx hb dL_law_515 (lv_at hl 1 rfl) ?_
  refine lv_iconst (v := 2) hx hb dL_law_517 (by decide) ?_
  refine lv_iadd hx hb dL_law_518 ?_
  refine pq_sld hx hb hX hbl hbA hS (j := 2) (show i + 2 < L by omega) (by omega) (by decide) dL_law_519 ?_
  obtain ⟨hPs, hDs, hJ⟩ := pq_4y hP hD
  refine pq_lVi S (c_X7_moveKey l g am M (xs (i + 1)) (xs (i + 2)) bb M1 h7) vv_L_205 hK hPs hDs hS hA rfl rfl rfl rfl rfl hl.1 (Nat.le_of_ble_eq_true rfl) dL_law_520 ⟨by decide, by decide⟩ ⟨by show cells+3 ≤ 603072; omega, by show slots+18 ≤ 7178346; omega⟩ (fun H1 locs1 hk hP1 hS1 => ?_)
  replace hP : va_P g.1 pq_cl ([(b1, .inl (g.2 3, 1, .inr (.inl ((pq_nf f (fun v => v.toInt64) o)))))] ++ ([(b2, .inl (g.2 4, 1, .inr (.inr (.inr (.inl (fd))))))] ++ (mainW g a T1 ++ modW g am M1))) H1 := hJ hk hP1
  replace hD : va_D A ([(b1, .inl (g.2 3, 1, .inr (.inl ((pq_nf f (fun v => v.toInt64) o)))))] ++ ([(b2, .inl (g.2 4, 1, .inr (.inr (.inr (.inl (fd))))))] ++ (mainW g a T1 ++ modW g am M1))) := pq_adr hD (ad_app rfl (ad_app rfl (ad_app (ad_X6 _ _) (ad_X7 _ _))))
  clear hJ hk hP1 hPs hDs hS
  generalize H1 = H at hP hS1 ⊢
  have hS := hS1
  clear hS1
  refine lv_istore (lv' := [(7, .int bb), (6, .int M1.1), (5, .int (nI i)), (0, .ref b), (1, .ref (a 0)), (2, .ref (am 0)), (3, .ref b1), (4, .ref b2)]) hx hb dL_law_523 hl (by decide) rfl (fun ls hl => ?_)
  refine lv_aload_n hx hb dL_law_525 rfl (lv_at hl 5 rfl) ?_
  obtain ⟨hPs, hDs, hJ⟩ := pq_4y hP hD
  refine pq_lV S (c_X7_thrown l g am M1 M1.1 rfl) vv_L_193 hK hPs rfl rfl rfl rfl rfl hl.1 (Nat.le_of_ble_eq_true rfl) dL_law_526 ⟨by decide, by decide⟩ ⟨by show cells+3 ≤ 603072; omega, by show slots+18 ≤ 7178346; omega⟩ ?_
  clear hJ hPs hDs
  refine lv_iload hx hb dL_law_529 (lv_at hl 1 rfl) ?_
  refine lv_icmp_eq (tgt := 536) hx hb dL_law_531 (by decide) (fun _ => ?_) (fun h9 => absurd rfl h9)
  refine lv_iload hx hb dL_law_536 (lv_at hl 1 rfl) ?_
  refine lv_if_ne (tgt := 553) hx hb dL_law_538 (by decide) (fun h0 => ?_) (fun h0 => ?_)
  · skip
    refine lv_goto (tgt := 3417) hx hb dL_law_553 (by decide) ?_
    exact W.widen (by omega) (by omega) (kk (pq_nf f (fun v => v.toInt64) o) fd T1 M1 H _ ls hPR1 hP hD hS (lv_sub hl [2, 3, 4, 5, 6, 7] rfl))
  · have e0 := hbb h0
    subst e0
    refine lv_aload_n hx hb dL_law_541 rfl (lv_at hl 6 rfl) ?_
    refine lv_iconst (v := 0) hx hb dL_law_542 (by decide) ?_
    refine va_lald hx hb hK.1 hP 0 3 rfl rfl pq_in01 dL_law_543 ?_
    refine lv_iload hx hb dL_law_544 (lv_at hl 0 rfl) ?_
    refine lv_i2l hx hb dL_law_546 rfl ?_
    refine W.lcmp hx hb dL_law_547 ?_
    refine lv_if_eq (tgt := 553) hx hb dL_law_548 (by decide) (fun _ => ?_) (fun h9 => absurd (pq_lcmp _) h9)
    refine lv_goto (tgt := 3417) hx hb dL_law_553 (by decide) ?_
    exact W.widen (by omega) (by omega) (kk (pq_nf f (fun v => v.toInt64) (.inr bb)) fd T1 M1 H _ ls hPR1 hP hD hS (lv_sub hl [2, 3, 4, 5, 6, 7] rfl))
set_option maxHeartbeats 4000000 in
set_option maxRecDepth 100000 in
theorem lw_case4 {PR : MainS → ModS → Prop} (hM : pq_Ma PR) {p : Program} {l : Launch} {e : Env} {s : State} {m : MethodId} {below : List Frame} {meth : Method} {c : Code} {Q : State → Prop} {A : Nat → Prop} {b L : Nat} {xs : Nat → Int32} {g : pq_g} {a am : Nat → Nat} {b1 b2 : Nat} (hst : l.stackTraces = false) (S : CallFix p m c cL_law 9 s #[.ref b] pq_G RL) (hK : pq_K g s) (hT : pq_T A s s.heap) (hL9 : pq_L s) (hA : ∀ q : Nat, s.heap.size ≤ q → A q) (hX : va_X b L xs s s.heap) (hbl : b < s.heap.size) (hbA : ¬ A b) (hL : L ≤ 3072)
    {i : Nat} (hi : i + 6 ≤ L) {f : Nat → Int64} {fd : Nat → UInt64} {T : MainS} {M : ModS} {H : Heap} {locs : List Loc} {ls : Array Slot} {cells slots : Nat} (hPR : PR T M) (hP : va_P g.1 pq_cl ([(b1, .inl (g.2 3, 1, .inr (.inl (f))))] ++ ([(b2, .inl (g.2 4, 1, .inr (.inr (.inr (.inl (fd))))))] ++ (mainW g a T ++ modW g am M))) H) (hD : va_D A ([(b1, .inl (g.2 3, 1, .inr (.inl (f))))] ++ ([(b2, .inl (g.2 4, 1, .inr (.inr (.inr (.inl (fd))))))] ++ (mainW g a T ++ modW g am M)))) (hS : va_S A s.heap H locs) (hl : lv_has ls 9 [(5, .int (nI i)), (0, .ref b), (1, .ref (a 0)), (2, .ref (am 0)), (3, .ref b1), (4, .ref b2)]) (hc : cells ≤ 10000) (hs : slots ≤ 100000)
    (kk : ∀ (f1 : Nat → Int64) (fd1 : Nat → UInt64) (T1 : MainS) (M1 : ModS) (H1 : Heap) (locs1 : List Loc) (ls1 : Array Slot), PR T1 M1 → va_P g.1 pq_cl ([(b1, .inl (g.2 3, 1, .inr (.inl (f1))))] ++ ([(b2, .inl (g.2 4, 1, .inr (.inr (.inr (.inl (fd1))))))] ++ (mainW g a T1 ++ modW g am M1))) H1 → va_D A ([(b1, .inl (g.2 3, 1, .inr (.inl (f1))))] ++ ([(b2, .inl (g.2 4, 1, .inr (.inr (.inr (.inl (fd1))))))] ++ (mainW g a T1 ++ modW g am M1))) → va_S A s.heap H1 locs1 → lv_has ls1 9 [(5, .int (nI i)), (0, .ref b), (1, .ref (a 0)), (2, .ref (am 0)), (3, .ref b1), (4, .ref b2)] → W p l e room_1 s m #[.ref b] below meth c H1 locs1 (cells + 6) (slots + 36) Q (F0 m 3417 ls1 [])) : W p l e room_1 s m #[.ref b] below meth c H locs cells slots Q (F0 m 556 ls []) := by
  obtain ⟨hx, hb, hml, hown, hts⟩ := id S
  obtain ⟨o, T1, bb, M1, h6, h7, hPR1, hcd, hbb⟩ := hM.deleteRange T M (xs (i + 1)) (xs (i + 2)) hPR
  refine lv_aload_n hx hb dL_law_556 rfl (lv_at hl 2 rfl) ?_
  refine lv_aload_n hx hb dL_law_557 rfl (lv_at hl 1 rfl) ?_
  refine lv_iload hx hb dL_law_558 (lv_at hl 0 rfl) ?_
  refine lv_iconst (v := 1) hx hb dL_law_560 (by decide) ?_
  refine lv_iadd hx hb dL_law_561 ?_
  refine pq_sld hx hb hX hbl hbA hS (j := 1) (show i + 1 < L by omega) (by omega) (by decide) dL_law_562 ?_
  refine lv_aload_n hx hb dL_law_563 rfl (lv_at hl 1 rfl) ?_
  refine lv_iload hx hb dL_law_564 (lv_at hl 0 rfl) ?_
  refine lv_iconst (v := 2) hx hb dL_law_566 (by decide) ?_
  refine lv_iadd hx hb dL_law_567 ?_
  refine pq_sld hx hb hX hbl hbA hS (j := 2) (show i + 2 < L by omega) (by omega) (by decide) dL_law_568 ?_
  refine lv_aload_n hx hb dL_law_569 rfl (lv_at hl 4 rfl) ?_
  obtain ⟨hPs, hDs, hJ⟩ := pq_4a hP hD
  refine pq_cH S (c_L_deleteRange l g a b1 f T (xs (i + 1)) (xs (i + 2)) hst o T1 h6 M1.1 hcd) vh_L_206 hK hT hL9 hPs hDs hS hA rfl rfl hl.1 (Nat.le_of_ble_eq_true rfl) dL_law_570 ⟨by decide, by decide⟩ ⟨by show cells + 1 ≤ 603072; omega, by show slots + 6 ≤ 7178346; omega⟩ (fun H1 locs1 hk hP1 hS1 => ?_)
  replace hP : va_P g.1 pq_cl ([(b1, .inl (g.2 3, 1, .inr (.inl ((pq_nf f (fun v => v.toInt64) o)))))] ++ ([(b2, .inl (g.2 4, 1, .inr (.inr (.inr (.inl (fd))))))] ++ (mainW g a T1 ++ modW g am M))) H1 := hJ hk hP1
  replace hD : va_D A ([(b1, .inl (g.2 3, 1, .inr (.inl ((pq_nf f (fun v => v.toInt64) o)))))] ++ ([(b2, .inl (g.2 4, 1, .inr (.inr (.inr (.inl (fd))))))] ++ (mainW g a T1 ++ modW g am M))) := pq_adr hD (ad_app rfl (ad_app rfl (ad_app (ad_X6 _ _) (ad_X7 _ _))))
  clear hJ hk hP1 hPs hDs hS
  generalize H1 = H at hP hS1 ⊢
  have hS := hS1
  clear hS1
  refine lv_istore (lv' := [(6, .int M1.1), (5, .int (nI i)), (0, .ref b), (1, .ref (a 0)), (2, .ref (am 0)), (3, .ref b1), (4, .ref b2)]) hx hb dL_law_573 hl (by decide) rfl (fun ls hl => ?_)
  refine lv_aload_n hx hb dL_law_575 rfl (lv_at hl 4 rfl) ?_
  refine lv_aload_n hx hb dL_law_576 rfl (lv_at hl 2 rfl) ?_
  refine lv_iload hx hb dL_law_577 (lv_at hl 1 rfl) ?_
  refine lv_iconst (v := 1) hx hb dL_law_579 (by decide) ?_
  refine lv_iadd hx hb dL_law_580 ?_
  refine pq_sld hx hb hX hbl hbA hS (j := 1) (show i + 1 < L by omega) (by omega) (by decide) dL_law_581 ?_
  refine lv_aload_n hx hb dL_law_582 rfl (lv_at hl 2 rfl) ?_
  refine lv_iload hx hb dL_law_583 (lv_at hl 1 rfl) ?_
  refine lv_iconst (v := 2) hx hb dL_law_585 (by decide) ?_
  refine lv_iadd hx hb dL_law_586 ?_
  refine pq_sld hx hb hX hbl hbA hS (j := 2) (show i + 2 < L by omega) (by omega) (by decide) dL_law_587 ?_
  obtain ⟨hPs, hDs, hJ⟩ := pq_4y hP hD
  refine pq_lVi S (c_X7_deleteRange l g am M (xs (i + 1)) (xs (i + 2)) bb M1 h7) vv_L_208 hK hPs hDs hS hA rfl rfl rfl rfl rfl hl.1 (Nat.le_of_ble_eq_true rfl) dL_law_588 ⟨by decide, by decide⟩ ⟨by show cells+1 ≤ 603072; omega, by show slots+6 ≤ 7178346; omega⟩ (fun H1 locs1 hk hP1 hS1 => ?_)
  replace hP : va_P g.1 pq_cl ([(b1, .inl (g.2 3, 1, .inr (.inl ((pq_nf f (fun v => v.toInt64) o)))))] ++ ([(b2, .inl (g.2 4, 1, .inr (.inr (.inr (.inl (fd))))))] ++ (mainW g a T1 ++ modW g am M1))) H1 := hJ hk hP1
  replace hD : va_D A ([(b1, .inl (g.2 3, 1, .inr (.inl ((pq_nf f (fun v => v.toInt64) o)))))] ++ ([(b2, .inl (g.2 4, 1, .inr (.inr (.inr (.inl (fd))))))] ++ (mainW g a T1 ++ modW g am M1))) := pq_adr hD (ad_app rfl (ad_app rfl (ad_app (ad_X6 _ _) (ad_X7 _ _))))
  clear hJ hk hP1 hPs hDs hS
  generalize H1 = H at hP hS1 ⊢
  have hS := hS1
  clear hS1
  refine lv_istore (lv' := [(7, .int bb), (6, .int M1.1), (5, .int (nI i)), (0, .ref b), (1, .ref (a 0)), (2, .ref (am 0)), (3, .ref b1), (4, .ref b2)]) hx hb dL_law_591 hl (by decide) rfl (fun ls hl => ?_)
  refine lv_aload_n hx hb dL_law_593 rfl (lv_at hl 5 rfl) ?_
  obtain ⟨hPs, hDs, hJ⟩ := pq_4y hP hD
  refine pq_lV S (c_X7_thrown l g am M1 M1.1 rfl) vv_L_193 hK hPs rfl rfl rfl rfl rfl hl.1 (Nat.le_of_ble_eq_true rfl) dL_law_594 ⟨by decide, by decide⟩ ⟨by show cells+1 ≤ 603072; omega, by show slots+6 ≤ 7178346; omega⟩ ?_
  clear hJ hPs hDs
  refine lv_iload hx hb dL_law_597 (lv_at hl 1 rfl) ?_
  refine lv_icmp_eq (tgt := 604) hx hb dL_law_599 (by decide) (fun _ => ?_) (fun h9 => absurd rfl h9)
  refine lv_iload hx hb dL_law_604 (lv_at hl 1 rfl) ?_
  refine lv_if_ne (tgt := 621) hx hb dL_law_606 (by decide) (fun h0 => ?_) (fun h0 => ?_)
  · skip
    refine lv_goto (tgt := 3417) hx hb dL_law_621 (by decide) ?_
    exact W.widen (by omega) (by omega) (kk (pq_nf f (fun v => v.toInt64) o) fd T1 M1 H _ ls hPR1 hP hD hS (lv_sub hl [2, 3, 4, 5, 6, 7] rfl))
  · have e0 := hbb h0
    subst e0
    refine lv_aload_n hx hb dL_law_609 rfl (lv_at hl 6 rfl) ?_
    refine lv_iconst (v := 0) hx hb dL_law_610 (by decide) ?_
    refine va_lald hx hb hK.1 hP 0 3 rfl rfl pq_in01 dL_law_611 ?_
    refine lv_iload hx hb dL_law_612 (lv_at hl 0 rfl) ?_
    refine lv_i2l hx hb dL_law_614 rfl ?_
    refine W.lcmp hx hb dL_law_615 ?_
    refine lv_if_eq (tgt := 621) hx hb dL_law_616 (by decide) (fun _ => ?_) (fun h9 => absurd (pq_lcmp _) h9)
    refine lv_goto (tgt := 3417) hx hb dL_law_621 (by decide) ?_
    exact W.widen (by omega) (by omega) (kk (pq_nf f (fun v => v.toInt64) (.inr bb)) fd T1 M1 H _ ls hPR1 hP hD hS (lv_sub hl [2, 3, 4, 5, 6, 7] rfl))
set_option maxHeartbeats 4000000 in
set_option maxRecDepth 100000 in
theorem lw_case5 {PR : MainS → ModS → Prop} (hM : pq_Ma PR) {p : Program} {l : Launch} {e : Env} {s : State} {m : MethodId} {below : List Frame} {meth : Method} {c : Code} {Q : State → Prop} {A : Nat → Prop} {b L : Nat} {xs : Nat → Int32} {g : pq_g} {a am : Nat → Nat} {b1 b2 : Nat} (hst : l.stackTraces = false) (S : CallFix p m c cL_law 9 s #[.ref b] pq_G RL) (hK : pq_K g s) (hT : pq_T A s s.heap) (hL9 : pq_L s) (hA : ∀ q : Nat, s.heap.size ≤ q → A q) (hX : va_X b L xs s s.heap) (hbl : b < s.heap.size) (hbA : ¬ A b) (hL : L ≤ 3072)
    {i : Nat} (hi : i + 6 ≤ L) {f : Nat → Int64} {fd : Nat → UInt64} {T : MainS} {M : ModS} {H : Heap} {locs : List Loc} {ls : Array Slot} {cells slots : Nat} (hPR : PR T M) (hP : va_P g.1 pq_cl ([(b1, .inl (g.2 3, 1, .inr (.inl (f))))] ++ ([(b2, .inl (g.2 4, 1, .inr (.inr (.inr (.inl (fd))))))] ++ (mainW g a T ++ modW g am M))) H) (hD : va_D A ([(b1, .inl (g.2 3, 1, .inr (.inl (f))))] ++ ([(b2, .inl (g.2 4, 1, .inr (.inr (.inr (.inl (fd))))))] ++ (mainW g a T ++ modW g am M)))) (hS : va_S A s.heap H locs) (hl : lv_has ls 9 [(5, .int (nI i)), (0, .ref b), (1, .ref (a 0)), (2, .ref (am 0)), (3, .ref b1), (4, .ref b2)]) (hc : cells ≤ 10000) (hs : slots ≤ 100000)
    (kk : ∀ (f1 : Nat → Int64) (fd1 : Nat → UInt64) (T1 : MainS) (M1 : ModS) (H1 : Heap) (locs1 : List Loc) (ls1 : Array Slot), PR T1 M1 → va_P g.1 pq_cl ([(b1, .inl (g.2 3, 1, .inr (.inl (f1))))] ++ ([(b2, .inl (g.2 4, 1, .inr (.inr (.inr (.inl (fd1))))))] ++ (mainW g a T1 ++ modW g am M1))) H1 → va_D A ([(b1, .inl (g.2 3, 1, .inr (.inl (f1))))] ++ ([(b2, .inl (g.2 4, 1, .inr (.inr (.inr (.inl (fd1))))))] ++ (mainW g a T1 ++ modW g am M1))) → va_S A s.heap H1 locs1 → lv_has ls1 9 [(5, .int (nI i)), (0, .ref b), (1, .ref (a 0)), (2, .ref (am 0)), (3, .ref b1), (4, .ref b2)] → W p l e room_1 s m #[.ref b] below meth c H1 locs1 (cells + 6) (slots + 36) Q (F0 m 3417 ls1 [])) : W p l e room_1 s m #[.ref b] below meth c H locs cells slots Q (F0 m 624 ls []) := by
  obtain ⟨hx, hb, hml, hown, hts⟩ := id S
  obtain ⟨bb, M1, h6, h7, hPR1⟩ := hM.size T M hPR
  refine lv_aload_n hx hb dL_law_624 rfl (lv_at hl 2 rfl) ?_
  obtain ⟨hPs, hDs, hJ⟩ := pq_4x hP hD
  refine pq_lV S (c_X6_size l g a T bb h6) vv_L_209 hK hPs rfl rfl rfl rfl rfl hl.1 (Nat.le_of_ble_eq_true rfl) dL_law_625 ⟨by decide, by decide⟩ ⟨by show cells ≤ 603072; omega, by show slots ≤ 7178346; omega⟩ ?_
  clear hJ hPs hDs
  refine lv_aload_n hx hb dL_law_628 rfl (lv_at hl 3 rfl) ?_
  obtain ⟨hPs, hDs, hJ⟩ := pq_4y hP hD
  refine pq_lVi S (c_X7_size l g am M bb M1 h7) vv_L_212 hK hPs hDs hS hA rfl rfl rfl rfl rfl hl.1 (Nat.le_of_ble_eq_true rfl) dL_law_629 ⟨by decide, by decide⟩ ⟨by show cells ≤ 603072; omega, by show slots ≤ 7178346; omega⟩ (fun H1 locs1 hk hP1 hS1 => ?_)
  replace hP : va_P g.1 pq_cl ([(b1, .inl (g.2 3, 1, .inr (.inl (f))))] ++ ([(b2, .inl (g.2 4, 1, .inr (.inr (.inr (.inl (fd))))))] ++ (mainW g a T ++ modW g am M1))) H1 := hJ hk hP1
  replace hD : va_D A ([(b1, .inl (g.2 3, 1, .inr (.inl (f))))] ++ ([(b2, .inl (g.2 4, 1, .inr (.inr (.inr (.inl (fd))))))] ++ (mainW g a T ++ modW g am M1))) := pq_adr hD (ad_app rfl (ad_app rfl (ad_app (ad_X6 _ _) (ad_X7 _ _))))
  clear hJ hk hP1 hPs hDs hS
  generalize H1 = H at hP hS1 ⊢
  have hS := hS1
  clear hS1
  refine lv_icmp_eq (tgt := 3417) hx hb dL_law_632 (by decide) (fun _ => ?_) (fun h9 => absurd rfl h9)
  exact W.widen (by omega) (by omega) (kk f fd T M1 H _ ls hPR1 hP hD hS (lv_sub hl [0, 1, 2, 3, 4, 5] rfl))
set_option maxHeartbeats 4000000 in
set_option maxRecDepth 100000 in
theorem lw_case6 {PR : MainS → ModS → Prop} (hM : pq_Ma PR) {p : Program} {l : Launch} {e : Env} {s : State} {m : MethodId} {below : List Frame} {meth : Method} {c : Code} {Q : State → Prop} {A : Nat → Prop} {b L : Nat} {xs : Nat → Int32} {g : pq_g} {a am : Nat → Nat} {b1 b2 : Nat} (hst : l.stackTraces = false) (S : CallFix p m c cL_law 9 s #[.ref b] pq_G RL) (hK : pq_K g s) (hT : pq_T A s s.heap) (hL9 : pq_L s) (hA : ∀ q : Nat, s.heap.size ≤ q → A q) (hX : va_X b L xs s s.heap) (hbl : b < s.heap.size) (hbA : ¬ A b) (hL : L ≤ 3072)
    {i : Nat} (hi : i + 6 ≤ L) {f : Nat → Int64} {fd : Nat → UInt64} {T : MainS} {M : ModS} {H : Heap} {locs : List Loc} {ls : Array Slot} {cells slots : Nat} (hPR : PR T M) (hP : va_P g.1 pq_cl ([(b1, .inl (g.2 3, 1, .inr (.inl (f))))] ++ ([(b2, .inl (g.2 4, 1, .inr (.inr (.inr (.inl (fd))))))] ++ (mainW g a T ++ modW g am M))) H) (hD : va_D A ([(b1, .inl (g.2 3, 1, .inr (.inl (f))))] ++ ([(b2, .inl (g.2 4, 1, .inr (.inr (.inr (.inl (fd))))))] ++ (mainW g a T ++ modW g am M)))) (hS : va_S A s.heap H locs) (hl : lv_has ls 9 [(5, .int (nI i)), (0, .ref b), (1, .ref (a 0)), (2, .ref (am 0)), (3, .ref b1), (4, .ref b2)]) (hc : cells ≤ 10000) (hs : slots ≤ 100000)
    (kk : ∀ (f1 : Nat → Int64) (fd1 : Nat → UInt64) (T1 : MainS) (M1 : ModS) (H1 : Heap) (locs1 : List Loc) (ls1 : Array Slot), PR T1 M1 → va_P g.1 pq_cl ([(b1, .inl (g.2 3, 1, .inr (.inl (f1))))] ++ ([(b2, .inl (g.2 4, 1, .inr (.inr (.inr (.inl (fd1))))))] ++ (mainW g a T1 ++ modW g am M1))) H1 → va_D A ([(b1, .inl (g.2 3, 1, .inr (.inl (f1))))] ++ ([(b2, .inl (g.2 4, 1, .inr (.inr (.inr (.inl (fd1))))))] ++ (mainW g a T1 ++ modW g am M1))) → va_S A s.heap H1 locs1 → lv_has ls1 9 [(5, .int (nI i)), (0, .ref b), (1, .ref (a 0)), (2, .ref (am 0)), (3, .ref b1), (4, .ref b2)] → W p l e room_1 s m #[.ref b] below meth c H1 locs1 (cells + 6) (slots + 36) Q (F0 m 3417 ls1 [])) : W p l e room_1 s m #[.ref b] below meth c H locs cells slots Q (F0 m 637 ls []) := by
  obtain ⟨hx, hb, hml, hown, hts⟩ := id S
  obtain ⟨bb, M1, h6, h7, hPR1⟩ := hM.contains T M (xs (i + 1)) hPR
  refine lv_aload_n hx hb dL_law_637 rfl (lv_at hl 2 rfl) ?_
  refine lv_aload_n hx hb dL_law_638 rfl (lv_at hl 1 rfl) ?_
  refine lv_iload hx hb dL_law_639 (lv_at hl 0 rfl) ?_
  refine lv_iconst (v := 1) hx hb dL_law_641 (by decide) ?_
  refine lv_iadd hx hb dL_law_642 ?_
  refine pq_sld hx hb hX hbl hbA hS (j := 1) (show i + 1 < L by omega) (by omega) (by decide) dL_law_643 ?_
  obtain ⟨hPs, hDs, hJ⟩ := pq_4x hP hD
  refine pq_lV S (c_X6_contains l g a T (xs (i + 1)) bb h6) vv_L_213 hK hPs rfl rfl rfl rfl rfl hl.1 (Nat.le_of_ble_eq_true rfl) dL_law_644 ⟨by decide, by decide⟩ ⟨by show cells ≤ 603072; omega, by show slots ≤ 7178346; omega⟩ ?_
  clear hJ hPs hDs
  refine lv_aload_n hx hb dL_law_647 rfl (lv_at hl 3 rfl) ?_
  refine lv_aload_n hx hb dL_law_648 rfl (lv_at hl 1 rfl) ?_
  refine lv_iload hx hb dL_law_649 (lv_at hl 0 rfl) ?_
  refine lv_iconst (v := 1) hx hb dL_law_651 (by decide) ?_
  refine lv_iadd hx hb dL_law_652 ?_
  refine pq_sld hx hb hX hbl hbA hS (j := 1) (show i + 1 < L by omega) (by omega) (by decide) dL_law_653 ?_
  obtain ⟨hPs, hDs, hJ⟩ := pq_4y hP hD
  refine pq_lVi S (c_X7_contains l g am M (xs (i + 1)) bb M1 h7) vv_L_216 hK hPs hDs hS hA rfl rfl rfl rfl rfl hl.1 (Nat.le_of_ble_eq_true rfl) dL_law_654 ⟨by decide, by decide⟩ ⟨by show cells ≤ 603072; omega, by show slots ≤ 7178346; omega⟩ (fun H1 locs1 hk hP1 hS1 => ?_)
  replace hP : va_P g.1 pq_cl ([(b1, .inl (g.2 3, 1, .inr (.inl (f))))] ++ ([(b2, .inl (g.2 4, 1, .inr (.inr (.inr (.inl (fd))))))] ++ (mainW g a T ++ modW g am M1))) H1 := hJ hk hP1
  replace hD : va_D A ([(b1, .inl (g.2 3, 1, .inr (.inl (f))))] ++ ([(b2, .inl (g.2 4, 1, .inr (.inr (.inr (.inl (fd))))))] ++ (mainW g a T ++ modW g am M1))) := pq_adr hD (ad_app rfl (ad_app rfl (ad_app (ad_X6 _ _) (ad_X7 _ _))))
  clear hJ hk hP1 hPs hDs hS
  generalize H1 = H at hP hS1 ⊢
  have hS := hS1
  clear hS1
  refine lv_icmp_eq (tgt := 3417) hx hb dL_law_657 (by decide) (fun _ => ?_) (fun h9 => absurd rfl h9)
  exact W.widen (by omega) (by omega) (kk f fd T M1 H _ ls hPR1 hP hD hS (lv_sub hl [0, 1, 2, 3, 4, 5] rfl))
set_option maxHeartbeats 4000000 in
set_option maxRecDepth 100000 in
theorem lw_case7 {PR : MainS → ModS → Prop} (hM : pq_Ma PR) {p : Program} {l : Launch} {e : Env} {s : State} {m : MethodId} {below : List Frame} {meth : Method} {c : Code} {Q : State → Prop} {A : Nat → Prop} {b L : Nat} {xs : Nat → Int32} {g : pq_g} {a am : Nat → Nat} {b1 b2 : Nat} (hst : l.stackTraces = false) (S : CallFix p m c cL_law 9 s #[.ref b] pq_G RL) (hK : pq_K g s) (hT : pq_T A s s.heap) (hL9 : pq_L s) (hA : ∀ q : Nat, s.heap.size ≤ q → A q) (hX : va_X b L xs s s.heap) (hbl : b < s.heap.size) (hbA : ¬ A b) (hL : L ≤ 3072)
    {i : Nat} (hi : i + 6 ≤ L) {f : Nat → Int64} {fd : Nat → UInt64} {T : MainS} {M : ModS} {H : Heap} {locs : List Loc} {ls : Array Slot} {cells slots : Nat} (hPR : PR T M) (hP : va_P g.1 pq_cl ([(b1, .inl (g.2 3, 1, .inr (.inl (f))))] ++ ([(b2, .inl (g.2 4, 1, .inr (.inr (.inr (.inl (fd))))))] ++ (mainW g a T ++ modW g am M))) H) (hD : va_D A ([(b1, .inl (g.2 3, 1, .inr (.inl (f))))] ++ ([(b2, .inl (g.2 4, 1, .inr (.inr (.inr (.inl (fd))))))] ++ (mainW g a T ++ modW g am M)))) (hS : va_S A s.heap H locs) (hl : lv_has ls 9 [(5, .int (nI i)), (0, .ref b), (1, .ref (a 0)), (2, .ref (am 0)), (3, .ref b1), (4, .ref b2)]) (hc : cells ≤ 10000) (hs : slots ≤ 100000)
    (kk : ∀ (f1 : Nat → Int64) (fd1 : Nat → UInt64) (T1 : MainS) (M1 : ModS) (H1 : Heap) (locs1 : List Loc) (ls1 : Array Slot), PR T1 M1 → va_P g.1 pq_cl ([(b1, .inl (g.2 3, 1, .inr (.inl (f1))))] ++ ([(b2, .inl (g.2 4, 1, .inr (.inr (.inr (.inl (fd1))))))] ++ (mainW g a T1 ++ modW g am M1))) H1 → va_D A ([(b1, .inl (g.2 3, 1, .inr (.inl (f1))))] ++ ([(b2, .inl (g.2 4, 1, .inr (.inr (.inr (.inl (fd1))))))] ++ (mainW g a T1 ++ modW g am M1))) → va_S A s.heap H1 locs1 → lv_has ls1 9 [(5, .int (nI i)), (0, .ref b), (1, .ref (a 0)), (2, .ref (am 0)), (3, .ref b1), (4, .ref b2)] → W p l e room_1 s m #[.ref b] below meth c H1 locs1 (cells + 6) (slots + 36) Q (F0 m 3417 ls1 [])) : W p l e room_1 s m #[.ref b] below meth c H locs cells slots Q (F0 m 662 ls []) := by
  obtain ⟨hx, hb, hml, hown, hts⟩ := id S
  obtain ⟨o, T1, bb, M1, h6, h7, hPR1, hcd, hbb⟩ := hM.priorityOf T M (xs (i + 1)) hPR
  refine lv_aload_n hx hb dL_law_662 rfl (lv_at hl 2 rfl) ?_
  refine lv_aload_n hx hb dL_law_663 rfl (lv_at hl 1 rfl) ?_
  refine lv_iload hx hb dL_law_664 (lv_at hl 0 rfl) ?_
  refine lv_iconst (v := 1) hx hb dL_law_666 (by decide) ?_
  refine lv_iadd hx hb dL_law_667 ?_
  refine pq_sld hx hb hX hbl hbA hS (j := 1) (show i + 1 < L by omega) (by omega) (by decide) dL_law_668 ?_
  refine lv_aload_n hx hb dL_law_669 rfl (lv_at hl 4 rfl) ?_
  obtain ⟨hPs, hDs, hJ⟩ := pq_4a hP hD
  refine pq_cH S (c_L_priorityOf l g a b1 f T (xs (i + 1)) hst o T1 h6 M1.1 hcd) vh_L_217 hK hT hL9 hPs hDs hS hA rfl rfl hl.1 (Nat.le_of_ble_eq_true rfl) dL_law_670 ⟨by decide, by decide⟩ ⟨by show cells + 1 ≤ 603072; omega, by show slots + 6 ≤ 7178346; omega⟩ (fun H1 locs1 hk hP1 hS1 => ?_)
  replace hP : va_P g.1 pq_cl ([(b1, .inl (g.2 3, 1, .inr (.inl ((pq_nf f (fun v => v.toInt64) o)))))] ++ ([(b2, .inl (g.2 4, 1, .inr (.inr (.inr (.inl (fd))))))] ++ (mainW g a T1 ++ modW g am M))) H1 := hJ hk hP1
  replace hD : va_D A ([(b1, .inl (g.2 3, 1, .inr (.inl ((pq_nf f (fun v => v.toInt64) o)))))] ++ ([(b2, .inl (g.2 4, 1, .inr (.inr (.inr (.inl (fd))))))] ++ (mainW g a T1 ++ modW g am M))) := pq_adr hD (ad_app rfl (ad_app rfl (ad_app (ad_X6 _ _) (ad_X7 _ _))))
  clear hJ hk hP1 hPs hDs hS
  generalize H1 = H at hP hS1 ⊢
  have hS := hS1
  clear hS1
  refine lv_istore (lv' := [(6, .int M1.1), (5, .int (nI i)), (0, .ref b), (1, .ref (a 0)), (2, .ref (am 0)), (3, .ref b1), (4, .ref b2)]) hx hb dL_law_673 hl (by decide) rfl (fun ls hl => ?_)
  refine lv_aload_n hx hb dL_law_675 rfl (lv_at hl 4 rfl) ?_
  refine lv_aload_n hx hb dL_law_676 rfl (lv_at hl 2 rfl) ?_
  refine lv_iload hx hb dL_law_677 (lv_at hl 1 rfl) ?_
  refine lv_iconst (v := 1) hx hb dL_law_679 (by decide) ?_
  refine lv_iadd hx hb dL_law_680 ?_
  refine pq_sld hx hb hX hbl hbA hS (j := 1) (show i + 1 < L by omega) (by omega) (by decide) dL_law_681 ?_
  obtain ⟨hPs, hDs, hJ⟩ := pq_4y hP hD
  refine pq_lVi S (c_X7_priorityOf l g am M (xs (i + 1)) bb M1 h7) vv_L_219 hK hPs hDs hS hA rfl rfl rfl rfl rfl hl.1 (Nat.le_of_ble_eq_true rfl) dL_law_682 ⟨by decide, by decide⟩ ⟨by show cells+1 ≤ 603072; omega, by show slots+6 ≤ 7178346; omega⟩ (fun H1 locs1 hk hP1 hS1 => ?_)
  replace hP : va_P g.1 pq_cl ([(b1, .inl (g.2 3, 1, .inr (.inl ((pq_nf f (fun v => v.toInt64) o)))))] ++ ([(b2, .inl (g.2 4, 1, .inr (.inr (.inr (.inl (fd))))))] ++ (mainW g a T1 ++ modW g am M1))) H1 := hJ hk hP1
  replace hD : va_D A ([(b1, .inl (g.2 3, 1, .inr (.inl ((pq_nf f (fun v => v.toInt64) o)))))] ++ ([(b2, .inl (g.2 4, 1, .inr (.inr (.inr (.inl (fd))))))] ++ (mainW g a T1 ++ modW g am M1))) := pq_adr hD (ad_app rfl (ad_app rfl (ad_app (ad_X6 _ _) (ad_X7 _ _))))
  clear hJ hk hP1 hPs hDs hS
  generalize H1 = H at hP hS1 ⊢
  have hS := hS1
  clear hS1
  refine lv_istore (lv' := [(7, .int bb), (6, .int M1.1), (5, .int (nI i)), (0, .ref b), (1, .ref (a 0)), (2, .ref (am 0)), (3, .ref b1), (4, .ref b2)]) hx hb dL_law_685 hl (by decide) rfl (fun ls hl => ?_)
  refine lv_aload_n hx hb dL_law_687 rfl (lv_at hl 5 rfl) ?_
  obtain ⟨hPs, hDs, hJ⟩ := pq_4y hP hD
  refine pq_lV S (c_X7_thrown l g am M1 M1.1 rfl) vv_L_193 hK hPs rfl rfl rfl rfl rfl hl.1 (Nat.le_of_ble_eq_true rfl) dL_law_688 ⟨by decide, by decide⟩ ⟨by show cells+1 ≤ 603072; omega, by show slots+6 ≤ 7178346; omega⟩ ?_
  clear hJ hPs hDs
  refine lv_iload hx hb dL_law_691 (lv_at hl 1 rfl) ?_
  refine lv_icmp_eq (tgt := 698) hx hb dL_law_693 (by decide) (fun _ => ?_) (fun h9 => absurd rfl h9)
  refine lv_iload hx hb dL_law_698 (lv_at hl 1 rfl) ?_
  refine lv_if_ne (tgt := 715) hx hb dL_law_700 (by decide) (fun h0 => ?_) (fun h0 => ?_)
  · skip
    refine lv_goto (tgt := 3417) hx hb dL_law_715 (by decide) ?_
    exact W.widen (by omega) (by omega) (kk (pq_nf f (fun v => v.toInt64) o) fd T1 M1 H _ ls hPR1 hP hD hS (lv_sub hl [2, 3, 4, 5, 6, 7] rfl))
  · have e0 := hbb h0
    subst e0
    refine lv_aload_n hx hb dL_law_703 rfl (lv_at hl 6 rfl) ?_
    refine lv_iconst (v := 0) hx hb dL_law_704 (by decide) ?_
    refine va_lald hx hb hK.1 hP 0 3 rfl rfl pq_in01 dL_law_705 ?_
    refine lv_iload hx hb dL_law_706 (lv_at hl 0 rfl) ?_
    refine lv_i2l hx hb dL_law_708 rfl ?_
    refine W.lcmp hx hb dL_law_709 ?_
    refine lv_if_eq (tgt := 715) hx hb dL_law_710 (by decide) (fun _ => ?_) (fun h9 => absurd (pq_lcmp _) h9)
    refine lv_goto (tgt := 3417) hx hb dL_law_715 (by decide) ?_
    exact W.widen (by omega) (by omega) (kk (pq_nf f (fun v => v.toInt64) (.inr bb)) fd T1 M1 H _ ls hPR1 hP hD hS (lv_sub hl [2, 3, 4, 5, 6, 7] rfl))
set_option maxHeartbeats 4000000 in
set_option maxRecDepth 100000 in
theorem lw_case8 {PR : MainS → ModS → Prop} (hM : pq_Ma PR) {p : Program} {l : Launch} {e : Env} {s : State} {m : MethodId} {below : List Frame} {meth : Method} {c : Code} {Q : State → Prop} {A : Nat → Prop} {b L : Nat} {xs : Nat → Int32} {g : pq_g} {a am : Nat → Nat} {b1 b2 : Nat} (hst : l.stackTraces = false) (S : CallFix p m c cL_law 9 s #[.ref b] pq_G RL) (hK : pq_K g s) (hT : pq_T A s s.heap) (hL9 : pq_L s) (hA : ∀ q : Nat, s.heap.size ≤ q → A q) (hX : va_X b L xs s s.heap) (hbl : b < s.heap.size) (hbA : ¬ A b) (hL : L ≤ 3072)
    {i : Nat} (hi : i + 6 ≤ L) {f : Nat → Int64} {fd : Nat → UInt64} {T : MainS} {M : ModS} {H : Heap} {locs : List Loc} {ls : Array Slot} {cells slots : Nat} (hPR : PR T M) (hP : va_P g.1 pq_cl ([(b1, .inl (g.2 3, 1, .inr (.inl (f))))] ++ ([(b2, .inl (g.2 4, 1, .inr (.inr (.inr (.inl (fd))))))] ++ (mainW g a T ++ modW g am M))) H) (hD : va_D A ([(b1, .inl (g.2 3, 1, .inr (.inl (f))))] ++ ([(b2, .inl (g.2 4, 1, .inr (.inr (.inr (.inl (fd))))))] ++ (mainW g a T ++ modW g am M)))) (hS : va_S A s.heap H locs) (hl : lv_has ls 9 [(5, .int (nI i)), (0, .ref b), (1, .ref (a 0)), (2, .ref (am 0)), (3, .ref b1), (4, .ref b2)]) (hc : cells ≤ 10000) (hs : slots ≤ 100000)
    (kk : ∀ (f1 : Nat → Int64) (fd1 : Nat → UInt64) (T1 : MainS) (M1 : ModS) (H1 : Heap) (locs1 : List Loc) (ls1 : Array Slot), PR T1 M1 → va_P g.1 pq_cl ([(b1, .inl (g.2 3, 1, .inr (.inl (f1))))] ++ ([(b2, .inl (g.2 4, 1, .inr (.inr (.inr (.inl (fd1))))))] ++ (mainW g a T1 ++ modW g am M1))) H1 → va_D A ([(b1, .inl (g.2 3, 1, .inr (.inl (f1))))] ++ ([(b2, .inl (g.2 4, 1, .inr (.inr (.inr (.inl (fd1))))))] ++ (mainW g a T1 ++ modW g am M1))) → va_S A s.heap H1 locs1 → lv_has ls1 9 [(5, .int (nI i)), (0, .ref b), (1, .ref (a 0)), (2, .ref (am 0)), (3, .ref b1), (4, .ref b2)] → W p l e room_1 s m #[.ref b] below meth c H1 locs1 (cells + 6) (slots + 36) Q (F0 m 3417 ls1 [])) : W p l e room_1 s m #[.ref b] below meth c H locs cells slots Q (F0 m 718 ls []) := by
  obtain ⟨hx, hb, hml, hown, hts⟩ := id S
  obtain ⟨o, T1, bb, M1, h6, h7, hPR1, hcd, hbb⟩ := hM.lowestKey T M hPR
  refine lv_aload_n hx hb dL_law_718 rfl (lv_at hl 2 rfl) ?_
  refine lv_aload_n hx hb dL_law_719 rfl (lv_at hl 4 rfl) ?_
  obtain ⟨hPs, hDs, hJ⟩ := pq_4a hP hD
  refine pq_cH S (c_L_lowestKey l g a b1 f T hst o T1 h6 M1.1 hcd) vh_L_220 hK hT hL9 hPs hDs hS hA rfl rfl hl.1 (Nat.le_of_ble_eq_true rfl) dL_law_720 ⟨by decide, by decide⟩ ⟨by show cells + 1 ≤ 603072; omega, by show slots + 6 ≤ 7178346; omega⟩ (fun H1 locs1 hk hP1 hS1 => ?_)
  replace hP : va_P g.1 pq_cl ([(b1, .inl (g.2 3, 1, .inr (.inl ((pq_nf f (fun v => v.toInt64) o)))))] ++ ([(b2, .inl (g.2 4, 1, .inr (.inr (.inr (.inl (fd))))))] ++ (mainW g a T1 ++ modW g am M))) H1 := hJ hk hP1
  replace hD : va_D A ([(b1, .inl (g.2 3, 1, .inr (.inl ((pq_nf f (fun v => v.toInt64) o)))))] ++ ([(b2, .inl (g.2 4, 1, .inr (.inr (.inr (.inl (fd))))))] ++ (mainW g a T1 ++ modW g am M))) := pq_adr hD (ad_app rfl (ad_app rfl (ad_app (ad_X6 _ _) (ad_X7 _ _))))
  clear hJ hk hP1 hPs hDs hS
  generalize H1 = H at hP hS1 ⊢
  have hS := hS1
  clear hS1
  refine lv_istore (lv' := [(6, .int M1.1), (5, .int (nI i)), (0, .ref b), (1, .ref (a 0)), (2, .ref (am 0)), (3, .ref b1), (4, .ref b2)]) hx hb dL_law_723 hl (by decide) rfl (fun ls hl => ?_)
  refine lv_aload_n hx hb dL_law_725 rfl (lv_at hl 4 rfl) ?_
  obtain ⟨hPs, hDs, hJ⟩ := pq_4y hP hD
  refine pq_lVi S (c_X7_lowestKey l g am M bb M1 h7) vv_L_223 hK hPs hDs hS hA rfl rfl rfl rfl rfl hl.1 (Nat.le_of_ble_eq_true rfl) dL_law_726 ⟨by decide, by decide⟩ ⟨by show cells+1 ≤ 603072; omega, by show slots+6 ≤ 7178346; omega⟩ (fun H1 locs1 hk hP1 hS1 => ?_)
  replace hP : va_P g.1 pq_cl ([(b1, .inl (g.2 3, 1, .inr (.inl ((pq_nf f (fun v => v.toInt64) o)))))] ++ ([(b2, .inl (g.2 4, 1, .inr (.inr (.inr (.inl (fd))))))] ++ (mainW g a T1 ++ modW g am M1))) H1 := hJ hk hP1
  replace hD : va_D A ([(b1, .inl (g.2 3, 1, .inr (.inl ((pq_nf f (fun v => v.toInt64) o)))))] ++ ([(b2, .inl (g.2 4, 1, .inr (.inr (.inr (.inl (fd))))))] ++ (mainW g a T1 ++ modW g am M1))) := pq_adr hD (ad_app rfl (ad_app rfl (ad_app (ad_X6 _ _) (ad_X7 _ _))))
  clear hJ hk hP1 hPs hDs hS
  generalize H1 = H at hP hS1 ⊢
  have hS := hS1
  clear hS1
  refine lv_istore (lv' := [(7, .int bb), (6, .int M1.1), (5, .int (nI i)), (0, .ref b), (1, .ref (a 0)), (2, .ref (am 0)), (3, .ref b1), (4, .ref b2)]) hx hb dL_law_729 hl (by decide) rfl (fun ls hl => ?_)
  refine lv_aload_n hx hb dL_law_731 rfl (lv_at hl 5 rfl) ?_
  obtain ⟨hPs, hDs, hJ⟩ := pq_4y hP hD
  refine pq_lV S (c_X7_thrown l g am M1 M1.1 rfl) vv_L_193 hK hPs rfl rfl rfl rfl rfl hl.1 (Nat.le_of_ble_eq_true rfl) dL_law_732 ⟨by decide, by decide⟩ ⟨by show cells+1 ≤ 603072; omega, by show slots+6 ≤ 7178346; omega⟩ ?_
  clear hJ hPs hDs
  refine lv_iload hx hb dL_law_735 (lv_at hl 1 rfl) ?_
  refine lv_icmp_eq (tgt := 742) hx hb dL_law_737 (by decide) (fun _ => ?_) (fun h9 => absurd rfl h9)
  refine lv_iload hx hb dL_law_742 (lv_at hl 1 rfl) ?_
  refine lv_if_ne (tgt := 759) hx hb dL_law_744 (by decide) (fun h0 => ?_) (fun h0 => ?_)
  · skip
    refine lv_goto (tgt := 3417) hx hb dL_law_759 (by decide) ?_
    exact W.widen (by omega) (by omega) (kk (pq_nf f (fun v => v.toInt64) o) fd T1 M1 H _ ls hPR1 hP hD hS (lv_sub hl [2, 3, 4, 5, 6, 7] rfl))
  · have e0 := hbb h0
    subst e0
    refine lv_aload_n hx hb dL_law_747 rfl (lv_at hl 6 rfl) ?_
    refine lv_iconst (v := 0) hx hb dL_law_748 (by decide) ?_
    refine va_lald hx hb hK.1 hP 0 3 rfl rfl pq_in01 dL_law_749 ?_
    refine lv_iload hx hb dL_law_750 (lv_at hl 0 rfl) ?_
    refine lv_i2l hx hb dL_law_752 rfl ?_
    refine W.lcmp hx hb dL_law_753 ?_
    refine lv_if_eq (tgt := 759) hx hb dL_law_754 (by decide) (fun _ => ?_) (fun h9 => absurd (pq_lcmp _) h9)
    refine lv_goto (tgt := 3417) hx hb dL_law_759 (by decide) ?_
    exact W.widen (by omega) (by omega) (kk (pq_nf f (fun v => v.toInt64) (.inr bb)) fd T1 M1 H _ ls hPR1 hP hD hS (lv_sub hl [2, 3, 4, 5, 6, 7] rfl))
set_option maxHeartbeats 4000000 in
set_option maxRecDepth 100000 in
theorem lw_case9 {PR : MainS → ModS → Prop} (hM : pq_Ma PR) {p : Program} {l : Launch} {e : Env} {s : State} {m : MethodId} {below : List Frame} {meth : Method} {c : Code} {Q : State → Prop} {A : Nat → Prop} {b L : Nat} {xs : Nat → Int32} {g : pq_g} {a am : Nat → Nat} {b1 b2 : Nat} (hst : l.stackTraces = false) (S : CallFix p m c cL_law 9 s #[.ref b] pq_G RL) (hK : pq_K g s) (hT : pq_T A s s.heap) (hL9 : pq_L s) (hA : ∀ q : Nat, s.heap.size ≤ q → A q) (hX : va_X b L xs s s.heap) (hbl : b < s.heap.size) (hbA : ¬ A b) (hL : L ≤ 3072)
    {i : Nat} (hi : i + 6 ≤ L) {f : Nat → Int64} {fd : Nat → UInt64} {T : MainS} {M : ModS} {H : Heap} {locs : List Loc} {ls : Array Slot} {cells slots : Nat} (hPR : PR T M) (hP : va_P g.1 pq_cl ([(b1, .inl (g.2 3, 1, .inr (.inl (f))))] ++ ([(b2, .inl (g.2 4, 1, .inr (.inr (.inr (.inl (fd))))))] ++ (mainW g a T ++ modW g am M))) H) (hD : va_D A ([(b1, .inl (g.2 3, 1, .inr (.inl (f))))] ++ ([(b2, .inl (g.2 4, 1, .inr (.inr (.inr (.inl (fd))))))] ++ (mainW g a T ++ modW g am M)))) (hS : va_S A s.heap H locs) (hl : lv_has ls 9 [(5, .int (nI i)), (0, .ref b), (1, .ref (a 0)), (2, .ref (am 0)), (3, .ref b1), (4, .ref b2)]) (hc : cells ≤ 10000) (hs : slots ≤ 100000)
    (kk : ∀ (f1 : Nat → Int64) (fd1 : Nat → UInt64) (T1 : MainS) (M1 : ModS) (H1 : Heap) (locs1 : List Loc) (ls1 : Array Slot), PR T1 M1 → va_P g.1 pq_cl ([(b1, .inl (g.2 3, 1, .inr (.inl (f1))))] ++ ([(b2, .inl (g.2 4, 1, .inr (.inr (.inr (.inl (fd1))))))] ++ (mainW g a T1 ++ modW g am M1))) H1 → va_D A ([(b1, .inl (g.2 3, 1, .inr (.inl (f1))))] ++ ([(b2, .inl (g.2 4, 1, .inr (.inr (.inr (.inl (fd1))))))] ++ (mainW g a T1 ++ modW g am M1))) → va_S A s.heap H1 locs1 → lv_has ls1 9 [(5, .int (nI i)), (0, .ref b), (1, .ref (a 0)), (2, .ref (am 0)), (3, .ref b1), (4, .ref b2)] → W p l e room_1 s m #[.ref b] below meth c H1 locs1 (cells + 6) (slots + 36) Q (F0 m 3417 ls1 [])) : W p l e room_1 s m #[.ref b] below meth c H locs cells slots Q (F0 m 762 ls []) := by
  obtain ⟨hx, hb, hml, hown, hts⟩ := id S
  obtain ⟨o, T1, bb, M1, h6, h7, hPR1, hcd, hbb⟩ := hM.greatestKey T M hPR
  refine lv_aload_n hx hb dL_law_762 rfl (lv_at hl 2 rfl) ?_
  refine lv_aload_n hx hb dL_law_763 rfl (lv_at hl 4 rfl) ?_
  obtain ⟨hPs, hDs, hJ⟩ := pq_4a hP hD
  refine pq_cH S (c_L_greatestKey l g a b1 f T hst o T1 h6 M1.1 hcd) vh_L_224 hK hT hL9 hPs hDs hS hA rfl rfl hl.1 (Nat.le_of_ble_eq_true rfl) dL_law_764 ⟨by decide, by decide⟩ ⟨by show cells + 1 ≤ 603072; omega, by show slots + 6 ≤ 7178346; omega⟩ (fun H1 locs1 hk hP1 hS1 => ?_)
  replace hP : va_P g.1 pq_cl ([(b1, .inl (g.2 3, 1, .inr (.inl ((pq_nf f (fun v => v.toInt64) o)))))] ++ ([(b2, .inl (g.2 4, 1, .inr (.inr (.inr (.inl (fd))))))] ++ (mainW g a T1 ++ modW g am M))) H1 := hJ hk hP1
  replace hD : va_D A ([(b1, .inl (g.2 3, 1, .inr (.inl ((pq_nf f (fun v => v.toInt64) o)))))] ++ ([(b2, .inl (g.2 4, 1, .inr (.inr (.inr (.inl (fd))))))] ++ (mainW g a T1 ++ modW g am M))) := pq_adr hD (ad_app rfl (ad_app rfl (ad_app (ad_X6 _ _) (ad_X7 _ _))))
  clear hJ hk hP1 hPs hDs hS
  generalize H1 = H at hP hS1 ⊢
  have hS := hS1
  clear hS1
  refine lv_istore (lv' := [(6, .int M1.1), (5, .int (nI i)), (0, .ref b), (1, .ref (a 0)), (2, .ref (am 0)), (3, .ref b1), (4, .ref b2)]) hx hb dL_law_767 hl (by decide) rfl (fun ls hl => ?_)
  refine lv_aload_n hx hb dL_law_769 rfl (lv_at hl 4 rfl) ?_
  obtain ⟨hPs, hDs, hJ⟩ := pq_4y hP hD
  refine pq_lVi S (c_X7_greatestKey l g am M bb M1 h7) vv_L_226 hK hPs hDs hS hA rfl rfl rfl rfl rfl hl.1 (Nat.le_of_ble_eq_true rfl) dL_law_770 ⟨by decide, by decide⟩ ⟨by show cells+1 ≤ 603072; omega, by show slots+6 ≤ 7178346; omega⟩ (fun H1 locs1 hk hP1 hS1 => ?_)
  replace hP : va_P g.1 pq_cl ([(b1, .inl (g.2 3, 1, .inr (.inl ((pq_nf f (fun v => v.toInt64) o)))))] ++ ([(b2, .inl (g.2 4, 1, .inr (.inr (.inr (.inl (fd))))))] ++ (mainW g a T1 ++ modW g am M1))) H1 := hJ hk hP1
  replace hD : va_D A ([(b1, .inl (g.2 3, 1, .inr (.inl ((pq_nf f (fun v => v.toInt64) o)))))] ++ ([(b2, .inl (g.2 4, 1, .inr (.inr (.inr (.inl (fd))))))] ++ (mainW g a T1 ++ modW g am M1))) := pq_adr hD (ad_app rfl (ad_app rfl (ad_app (ad_X6 _ _) (ad_X7 _ _))))
  clear hJ hk hP1 hPs hDs hS
  generalize H1 = H at hP hS1 ⊢
  have hS := hS1
  clear hS1
  refine lv_istore (lv' := [(7, .int bb), (6, .int M1.1), (5, .int (nI i)), (0, .ref b), (1, .ref (a 0)), (2, .ref (am 0)), (3, .ref b1), (4, .ref b2)]) hx hb dL_law_773 hl (by decide) rfl (fun ls hl => ?_)
  refine lv_aload_n hx hb dL_law_775 rfl (lv_at hl 5 rfl) ?_
  obtain ⟨hPs, hDs, hJ⟩ := pq_4y hP hD
  refine pq_lV S (c_X7_thrown l g am M1 M1.1 rfl) vv_L_193 hK hPs rfl rfl rfl rfl rfl hl.1 (Nat.le_of_ble_eq_true rfl) dL_law_776 ⟨by decide, by decide⟩ ⟨by show cells+1 ≤ 603072; omega, by show slots+6 ≤ 7178346; omega⟩ ?_
  clear hJ hPs hDs
  refine lv_iload hx hb dL_law_779 (lv_at hl 1 rfl) ?_
  refine lv_icmp_eq (tgt := 786) hx hb dL_law_781 (by decide) (fun _ => ?_) (fun h9 => absurd rfl h9)
  refine lv_iload hx hb dL_law_786 (lv_at hl 1 rfl) ?_
  refine lv_if_ne (tgt := 803) hx hb dL_law_788 (by decide) (fun h0 => ?_) (fun h0 => ?_)
  · skip
    refine lv_goto (tgt := 3417) hx hb dL_law_803 (by decide) ?_
    exact W.widen (by omega) (by omega) (kk (pq_nf f (fun v => v.toInt64) o) fd T1 M1 H _ ls hPR1 hP hD hS (lv_sub hl [2, 3, 4, 5, 6, 7] rfl))
  · have e0 := hbb h0
    subst e0
    refine lv_aload_n hx hb dL_law_791 rfl (lv_at hl 6 rfl) ?_
    refine lv_iconst (v := 0) hx hb dL_law_792 (by decide) ?_
    refine va_lald hx hb hK.1 hP 0 3 rfl rfl pq_in01 dL_law_793 ?_
    refine lv_iload hx hb dL_law_794 (lv_at hl 0 rfl) ?_
    refine lv_i2l hx hb dL_law_796 rfl ?_
    refine W.lcmp hx hb dL_law_797 ?_
    refine lv_if_eq (tgt := 803) hx hb dL_law_798 (by decide) (fun _ => ?_) (fun h9 => absurd (pq_lcmp _) h9)
    refine lv_goto (tgt := 3417) hx hb dL_law_803 (by decide) ?_
    exact W.widen (by omega) (by omega) (kk (pq_nf f (fun v => v.toInt64) (.inr bb)) fd T1 M1 H _ ls hPR1 hP hD hS (lv_sub hl [2, 3, 4, 5, 6, 7] rfl))
set_option maxHeartbeats 4000000 in
set_option maxRecDepth 100000 in
theorem lw_case10 {PR : MainS → ModS → Prop} (hM : pq_Ma PR) {p : Program} {l : Launch} {e : Env} {s : State} {m : MethodId} {below : List Frame} {meth : Method} {c : Code} {Q : State → Prop} {A : Nat → Prop} {b L : Nat} {xs : Nat → Int32} {g : pq_g} {a am : Nat → Nat} {b1 b2 : Nat} (hst : l.stackTraces = false) (S : CallFix p m c cL_law 9 s #[.ref b] pq_G RL) (hK : pq_K g s) (hT : pq_T A s s.heap) (hL9 : pq_L s) (hA : ∀ q : Nat, s.heap.size ≤ q → A q) (hX : va_X b L xs s s.heap) (hbl : b < s.heap.size) (hbA : ¬ A b) (hL : L ≤ 3072)
    {i : Nat} (hi : i + 6 ≤ L) {f : Nat → Int64} {fd : Nat → UInt64} {T : MainS} {M : ModS} {H : Heap} {locs : List Loc} {ls : Array Slot} {cells slots : Nat} (hPR : PR T M) (hP : va_P g.1 pq_cl ([(b1, .inl (g.2 3, 1, .inr (.inl (f))))] ++ ([(b2, .inl (g.2 4, 1, .inr (.inr (.inr (.inl (fd))))))] ++ (mainW g a T ++ modW g am M))) H) (hD : va_D A ([(b1, .inl (g.2 3, 1, .inr (.inl (f))))] ++ ([(b2, .inl (g.2 4, 1, .inr (.inr (.inr (.inl (fd))))))] ++ (mainW g a T ++ modW g am M)))) (hS : va_S A s.heap H locs) (hl : lv_has ls 9 [(5, .int (nI i)), (0, .ref b), (1, .ref (a 0)), (2, .ref (am 0)), (3, .ref b1), (4, .ref b2)]) (hc : cells ≤ 10000) (hs : slots ≤ 100000)
    (kk : ∀ (f1 : Nat → Int64) (fd1 : Nat → UInt64) (T1 : MainS) (M1 : ModS) (H1 : Heap) (locs1 : List Loc) (ls1 : Array Slot), PR T1 M1 → va_P g.1 pq_cl ([(b1, .inl (g.2 3, 1, .inr (.inl (f1))))] ++ ([(b2, .inl (g.2 4, 1, .inr (.inr (.inr (.inl (fd1))))))] ++ (mainW g a T1 ++ modW g am M1))) H1 → va_D A ([(b1, .inl (g.2 3, 1, .inr (.inl (f1))))] ++ ([(b2, .inl (g.2 4, 1, .inr (.inr (.inr (.inl (fd1))))))] ++ (mainW g a T1 ++ modW g am M1))) → va_S A s.heap H1 locs1 → lv_has ls1 9 [(5, .int (nI i)), (0, .ref b), (1, .ref (a 0)), (2, .ref (am 0)), (3, .ref b1), (4, .ref b2)] → W p l e room_1 s m #[.ref b] below meth c H1 locs1 (cells + 6) (slots + 36) Q (F0 m 3417 ls1 [])) : W p l e room_1 s m #[.ref b] below meth c H locs cells slots Q (F0 m 806 ls []) := by
  obtain ⟨hx, hb, hml, hown, hts⟩ := id S
  obtain ⟨o, T1, bb, M1, h6, h7, hPR1, hcd, hbb⟩ := hM.floorKey T M (xs (i + 1)) hPR
  refine lv_aload_n hx hb dL_law_806 rfl (lv_at hl 2 rfl) ?_
  refine lv_aload_n hx hb dL_law_807 rfl (lv_at hl 1 rfl) ?_
  refine lv_iload hx hb dL_law_808 (lv_at hl 0 rfl) ?_
  refine lv_iconst (v := 1) hx hb dL_law_810 (by decide) ?_
  refine lv_iadd hx hb dL_law_811 ?_
  refine pq_sld hx hb hX hbl hbA hS (j := 1) (show i + 1 < L by omega) (by omega) (by decide) dL_law_812 ?_
  refine lv_aload_n hx hb dL_law_813 rfl (lv_at hl 4 rfl) ?_
  obtain ⟨hPs, hDs, hJ⟩ := pq_4a hP hD
  refine pq_cH S (c_L_floorKey l g a b1 f T (xs (i + 1)) hst o T1 h6 M1.1 hcd) vh_L_227 hK hT hL9 hPs hDs hS hA rfl rfl hl.1 (Nat.le_of_ble_eq_true rfl) dL_law_814 ⟨by decide, by decide⟩ ⟨by show cells + 1 ≤ 603072; omega, by show slots + 6 ≤ 7178346; omega⟩ (fun H1 locs1 hk hP1 hS1 => ?_)
  replace hP : va_P g.1 pq_cl ([(b1, .inl (g.2 3, 1, .inr (.inl ((pq_nf f (fun v => v.toInt64) o)))))] ++ ([(b2, .inl (g.2 4, 1, .inr (.inr (.inr (.inl (fd))))))] ++ (mainW g a T1 ++ modW g am M))) H1 := hJ hk hP1
  replace hD : va_D A ([(b1, .inl (g.2 3, 1, .inr (.inl ((pq_nf f (fun v => v.toInt64) o)))))] ++ ([(b2, .inl (g.2 4, 1, .inr (.inr (.inr (.inl (fd))))))] ++ (mainW g a T1 ++ modW g am M))) := pq_adr hD (ad_app rfl (ad_app rfl (ad_app (ad_X6 _ _) (ad_X7 _ _))))
  clear hJ hk hP1 hPs hDs hS
  generalize H1 = H at hP hS1 ⊢
  have hS := hS1
  clear hS1
  refine lv_istore (lv' := [(6, .int M1.1), (5, .int (nI i)), (0, .ref b), (1, .ref (a 0)), (2, .ref (am 0)), (3, .ref b1), (4, .ref b2)]) hx hb dL_law_817 hl (by decide) rfl (fun ls hl => ?_)
  refine lv_aload_n hx hb dL_law_819 rfl (lv_at hl 4 rfl) ?_
  refine lv_aload_n hx hb dL_law_820 rfl (lv_at hl 2 rfl) ?_
  refine lv_iload hx hb dL_law_821 (lv_at hl 1 rfl) ?_
  refine lv_iconst (v := 1) hx hb dL_law_823 (by decide) ?_
  refine lv_iadd hx hb dL_law_824 ?_
  refine pq_sld hx hb hX hbl hbA hS (j := 1) (show i + 1 < L by omega) (by omega) (by decide) dL_law_825 ?_
  obtain ⟨hPs, hDs, hJ⟩ := pq_4y hP hD
  refine pq_lVi S (c_X7_floorKey l g am M (xs (i + 1)) bb M1 h7) vv_L_229 hK hPs hDs hS hA rfl rfl rfl rfl rfl hl.1 (Nat.le_of_ble_eq_true rfl) dL_law_826 ⟨by decide, by decide⟩ ⟨by show cells+1 ≤ 603072; omega, by show slots+6 ≤ 7178346; omega⟩ (fun H1 locs1 hk hP1 hS1 => ?_)
  replace hP : va_P g.1 pq_cl ([(b1, .inl (g.2 3, 1, .inr (.inl ((pq_nf f (fun v => v.toInt64) o)))))] ++ ([(b2, .inl (g.2 4, 1, .inr (.inr (.inr (.inl (fd))))))] ++ (mainW g a T1 ++ modW g am M1))) H1 := hJ hk hP1
  replace hD : va_D A ([(b1, .inl (g.2 3, 1, .inr (.inl ((pq_nf f (fun v => v.toInt64) o)))))] ++ ([(b2, .inl (g.2 4, 1, .inr (.inr (.inr (.inl (fd))))))] ++ (mainW g a T1 ++ modW g am M1))) := pq_adr hD (ad_app rfl (ad_app rfl (ad_app (ad_X6 _ _) (ad_X7 _ _))))
  clear hJ hk hP1 hPs hDs hS
  generalize H1 = H at hP hS1 ⊢
  have hS := hS1
  clear hS1
  refine lv_istore (lv' := [(7, .int bb), (6, .int M1.1), (5, .int (nI i)), (0, .ref b), (1, .ref (a 0)), (2, .ref (am 0)), (3, .ref b1), (4, .ref b2)]) hx hb dL_law_829 hl (by decide) rfl (fun ls hl => ?_)
  refine lv_aload_n hx hb dL_law_831 rfl (lv_at hl 5 rfl) ?_
  obtain ⟨hPs, hDs, hJ⟩ := pq_4y hP hD
  refine pq_lV S (c_X7_thrown l g am M1 M1.1 rfl) vv_L_193 hK hPs rfl rfl rfl rfl rfl hl.1 (Nat.le_of_ble_eq_true rfl) dL_law_832 ⟨by decide, by decide⟩ ⟨by show cells+1 ≤ 603072; omega, by show slots+6 ≤ 7178346; omega⟩ ?_
  clear hJ hPs hDs
  refine lv_iload hx hb dL_law_835 (lv_at hl 1 rfl) ?_
  refine lv_icmp_eq (tgt := 842) hx hb dL_law_837 (by decide) (fun _ => ?_) (fun h9 => absurd rfl h9)
  refine lv_iload hx hb dL_law_842 (lv_at hl 1 rfl) ?_
  refine lv_if_ne (tgt := 859) hx hb dL_law_844 (by decide) (fun h0 => ?_) (fun h0 => ?_)
  · skip
    refine lv_goto (tgt := 3417) hx hb dL_law_859 (by decide) ?_
    exact W.widen (by omega) (by omega) (kk (pq_nf f (fun v => v.toInt64) o) fd T1 M1 H _ ls hPR1 hP hD hS (lv_sub hl [2, 3, 4, 5, 6, 7] rfl))
  · have e0 := hbb h0
    subst e0
    refine lv_aload_n hx hb dL_law_847 rfl (lv_at hl 6 rfl) ?_
    refine lv_iconst (v := 0) hx hb dL_law_848 (by decide) ?_
    refine va_lald hx hb hK.1 hP 0 3 rfl rfl pq_in01 dL_law_849 ?_
    refine lv_iload hx hb dL_law_850 (lv_at hl 0 rfl) ?_
    refine lv_i2l hx hb dL_law_852 rfl ?_
    refine W.lcmp hx hb dL_law_853 ?_
    refine lv_if_eq (tgt := 859) hx hb dL_law_854 (by decide) (fun _ => ?_) (fun h9 => absurd (pq_lcmp _) h9)
    refine lv_goto (tgt := 3417) hx hb dL_law_859 (by decide) ?_
    exact W.widen (by omega) (by omega) (kk (pq_nf f (fun v => v.toInt64) (.inr bb)) fd T1 M1 H _ ls hPR1 hP hD hS (lv_sub hl [2, 3, 4, 5, 6, 7] rfl))
set_option maxHeartbeats 4000000 in
set_option maxRecDepth 100000 in
theorem lw_case11 {PR : MainS → ModS → Prop} (hM : pq_Ma PR) {p : Program} {l : Launch} {e : Env} {s : State} {m : MethodId} {below : List Frame} {meth : Method} {c : Code} {Q : State → Prop} {A : Nat → Prop} {b L : Nat} {xs : Nat → Int32} {g : pq_g} {a am : Nat → Nat} {b1 b2 : Nat} (hst : l.stackTraces = false) (S : CallFix p m c cL_law 9 s #[.ref b] pq_G RL) (hK : pq_K g s) (hT : pq_T A s s.heap) (hL9 : pq_L s) (hA : ∀ q : Nat, s.heap.size ≤ q → A q) (hX : va_X b L xs s s.heap) (hbl : b < s.heap.size) (hbA : ¬ A b) (hL : L ≤ 3072)
    {i : Nat} (hi : i + 6 ≤ L) {f : Nat → Int64} {fd : Nat → UInt64} {T : MainS} {M : ModS} {H : Heap} {locs : List Loc} {ls : Array Slot} {cells slots : Nat} (hPR : PR T M) (hP : va_P g.1 pq_cl ([(b1, .inl (g.2 3, 1, .inr (.inl (f))))] ++ ([(b2, .inl (g.2 4, 1, .inr (.inr (.inr (.inl (fd))))))] ++ (mainW g a T ++ modW g am M))) H) (hD : va_D A ([(b1, .inl (g.2 3, 1, .inr (.inl (f))))] ++ ([(b2, .inl (g.2 4, 1, .inr (.inr (.inr (.inl (fd))))))] ++ (mainW g a T ++ modW g am M)))) (hS : va_S A s.heap H locs) (hl : lv_has ls 9 [(5, .int (nI i)), (0, .ref b), (1, .ref (a 0)), (2, .ref (am 0)), (3, .ref b1), (4, .ref b2)]) (hc : cells ≤ 10000) (hs : slots ≤ 100000)
    (kk : ∀ (f1 : Nat → Int64) (fd1 : Nat → UInt64) (T1 : MainS) (M1 : ModS) (H1 : Heap) (locs1 : List Loc) (ls1 : Array Slot), PR T1 M1 → va_P g.1 pq_cl ([(b1, .inl (g.2 3, 1, .inr (.inl (f1))))] ++ ([(b2, .inl (g.2 4, 1, .inr (.inr (.inr (.inl (fd1))))))] ++ (mainW g a T1 ++ modW g am M1))) H1 → va_D A ([(b1, .inl (g.2 3, 1, .inr (.inl (f1))))] ++ ([(b2, .inl (g.2 4, 1, .inr (.inr (.inr (.inl (fd1))))))] ++ (mainW g a T1 ++ modW g am M1))) → va_S A s.heap H1 locs1 → lv_has ls1 9 [(5, .int (nI i)), (0, .ref b), (1, .ref (a 0)), (2, .ref (am 0)), (3, .ref b1), (4, .ref b2)] → W p l e room_1 s m #[.ref b] below meth c H1 locs1 (cells + 6) (slots + 36) Q (F0 m 3417 ls1 [])) : W p l e room_1 s m #[.ref b] below meth c H locs cells slots Q (F0 m 862 ls []) := by
  obtain ⟨hx, hb, hml, hown, hts⟩ := id S
  obtain ⟨o, T1, bb, M1, h6, h7, hPR1, hcd, hbb⟩ := hM.ceilingKey T M (xs (i + 1)) hPR
  refine lv_aload_n hx hb dL_law_862 rfl (lv_at hl 2 rfl) ?_
  refine lv_aload_n hx hb dL_law_863 rfl (lv_at hl 1 rfl) ?_
  refine lv_iload hx hb dL_law_864 (lv_at hl 0 rfl) ?_
  refine lv_iconst (v := 1) hx hb dL_law_866 (by decide) ?_
  refine lv_iadd hx hb dL_law_867 ?_
  refine pq_sld hx hb hX hbl hbA hS (j := 1) (show i + 1 < L by omega) (by omega) (by decide) dL_law_868 ?_
  refine lv_aload_n hx hb dL_law_869 rfl (lv_at hl 4 rfl) ?_
  obtain ⟨hPs, hDs, hJ⟩ := pq_4a hP hD
  refine pq_cH S (c_L_ceilingKey l g a b1 f T (xs (i + 1)) hst o T1 h6 M1.1 hcd) vh_L_230 hK hT hL9 hPs hDs hS hA rfl rfl hl.1 (Nat.le_of_ble_eq_true rfl) dL_law_870 ⟨by decide, by decide⟩ ⟨by show cells + 1 ≤ 603072; omega, by show slots + 6 ≤ 7178346; omega⟩ (fun H1 locs1 hk hP1 hS1 => ?_)
  replace hP : va_P g.1 pq_cl ([(b1, .inl (g.2 3, 1, .inr (.inl ((pq_nf f (fun v => v.toInt64) o)))))] ++ ([(b2, .inl (g.2 4, 1, .inr (.inr (.inr (.inl (fd))))))] ++ (mainW g a T1 ++ modW g am M))) H1 := hJ hk hP1
  replace hD : va_D A ([(b1, .inl (g.2 3, 1, .inr (.inl ((pq_nf f (fun v => v.toInt64) o)))))] ++ ([(b2, .inl (g.2 4, 1, .inr (.inr (.inr (.inl (fd))))))] ++ (mainW g a T1 ++ modW g am M))) := pq_adr hD (ad_app rfl (ad_app rfl (ad_app (ad_X6 _ _) (ad_X7 _ _))))
  clear hJ hk hP1 hPs hDs hS
  generalize H1 = H at hP hS1 ⊢
  have hS := hS1
  clear hS1
  refine lv_istore (lv' := [(6, .int M1.1), (5, .int (nI i)), (0, .ref b), (1, .ref (a 0)), (2, .ref (am 0)), (3, .ref b1), (4, .ref b2)]) hx hb dL_law_873 hl (by decide) rfl (fun ls hl => ?_)
  refine lv_aload_n hx hb dL_law_875 rfl (lv_at hl 4 rfl) ?_
  refine lv_aload_n hx hb dL_law_876 rfl (lv_at hl 2 rfl) ?_
  refine lv_iload hx hb dL_law_877 (lv_at hl 1 rfl) ?_
  refine lv_iconst (v := 1) hx hb dL_law_879 (by decide) ?_
  refine lv_iadd hx hb dL_law_880 ?_
  refine pq_sld hx hb hX hbl hbA hS (j := 1) (show i + 1 < L by omega) (by omega) (by decide) dL_law_881 ?_
  obtain ⟨hPs, hDs, hJ⟩ := pq_4y hP hD
  refine pq_lVi S (c_X7_ceilingKey l g am M (xs (i + 1)) bb M1 h7) vv_L_232 hK hPs hDs hS hA rfl rfl rfl rfl rfl hl.1 (Nat.le_of_ble_eq_true rfl) dL_law_882 ⟨by decide, by decide⟩ ⟨by show cells+1 ≤ 603072; omega, by show slots+6 ≤ 7178346; omega⟩ (fun H1 locs1 hk hP1 hS1 => ?_)
  replace hP : va_P g.1 pq_cl ([(b1, .inl (g.2 3, 1, .inr (.inl ((pq_nf f (fun v => v.toInt64) o)))))] ++ ([(b2, .inl (g.2 4, 1, .inr (.inr (.inr (.inl (fd))))))] ++ (mainW g a T1 ++ modW g am M1))) H1 := hJ hk hP1
  replace hD : va_D A ([(b1, .inl (g.2 3, 1, .inr (.inl ((pq_nf f (fun v => v.toInt64) o)))))] ++ ([(b2, .inl (g.2 4, 1, .inr (.inr (.inr (.inl (fd))))))] ++ (mainW g a T1 ++ modW g am M1))) := pq_adr hD (ad_app rfl (ad_app rfl (ad_app (ad_X6 _ _) (ad_X7 _ _))))
  clear hJ hk hP1 hPs hDs hS
  generalize H1 = H at hP hS1 ⊢
  have hS := hS1
  clear hS1
  refine lv_istore (lv' := [(7, .int bb), (6, .int M1.1), (5, .int (nI i)), (0, .ref b), (1, .ref (a 0)), (2, .ref (am 0)), (3, .ref b1), (4, .ref b2)]) hx hb dL_law_885 hl (by decide) rfl (fun ls hl => ?_)
  refine lv_aload_n hx hb dL_law_887 rfl (lv_at hl 5 rfl) ?_
  obtain ⟨hPs, hDs, hJ⟩ := pq_4y hP hD
  refine pq_lV S (c_X7_thrown l g am M1 M1.1 rfl) vv_L_193 hK hPs rfl rfl rfl rfl rfl hl.1 (Nat.le_of_ble_eq_true rfl) dL_law_888 ⟨by decide, by decide⟩ ⟨by show cells+1 ≤ 603072; omega, by show slots+6 ≤ 7178346; omega⟩ ?_
  clear hJ hPs hDs
  refine lv_iload hx hb dL_law_891 (lv_at hl 1 rfl) ?_
  refine lv_icmp_eq (tgt := 898) hx hb dL_law_893 (by decide) (fun _ => ?_) (fun h9 => absurd rfl h9)
  refine lv_iload hx hb dL_law_898 (lv_at hl 1 rfl) ?_
  refine lv_if_ne (tgt := 915) hx hb dL_law_900 (by decide) (fun h0 => ?_) (fun h0 => ?_)
  · skip
    refine lv_goto (tgt := 3417) hx hb dL_law_915 (by decide) ?_
    exact W.widen (by omega) (by omega) (kk (pq_nf f (fun v => v.toInt64) o) fd T1 M1 H _ ls hPR1 hP hD hS (lv_sub hl [2, 3, 4, 5, 6, 7] rfl))
  · have e0 := hbb h0
    subst e0
    refine lv_aload_n hx hb dL_law_903 rfl (lv_at hl 6 rfl) ?_
    refine lv_iconst (v := 0) hx hb dL_law_904 (by decide) ?_
    refine va_lald hx hb hK.1 hP 0 3 rfl rfl pq_in01 dL_law_905 ?_
    refine lv_iload hx hb dL_law_906 (lv_at hl 0 rfl) ?_
    refine lv_i2l hx hb dL_law_908 rfl ?_
    refine W.lcmp hx hb dL_law_909 ?_
    refine lv_if_eq (tgt := 915) hx hb dL_law_910 (by decide) (fun _ => ?_) (fun h9 => absurd (pq_lcmp _) h9)
    refine lv_goto (tgt := 3417) hx hb dL_law_915 (by decide) ?_
    exact W.widen (by omega) (by omega) (kk (pq_nf f (fun v => v.toInt64) (.inr bb)) fd T1 M1 H _ ls hPR1 hP hD hS (lv_sub hl [2, 3, 4, 5, 6, 7] rfl))
set_option maxHeartbeats 4000000 in
set_option maxRecDepth 100000 in
theorem lw_case12 {PR : MainS → ModS → Prop} (hM : pq_Ma PR) {p : Program} {l : Launch} {e : Env} {s : State} {m : MethodId} {below : List Frame} {meth : Method} {c : Code} {Q : State → Prop} {A : Nat → Prop} {b L : Nat} {xs : Nat → Int32} {g : pq_g} {a am : Nat → Nat} {b1 b2 : Nat} (hst : l.stackTraces = false) (S : CallFix p m c cL_law 9 s #[.ref b] pq_G RL) (hK : pq_K g s) (hT : pq_T A s s.heap) (hL9 : pq_L s) (hA : ∀ q : Nat, s.heap.size ≤ q → A q) (hX : va_X b L xs s s.heap) (hbl : b < s.heap.size) (hbA : ¬ A b) (hL : L ≤ 3072)
    {i : Nat} (hi : i + 6 ≤ L) {f : Nat → Int64} {fd : Nat → UInt64} {T : MainS} {M : ModS} {H : Heap} {locs : List Loc} {ls : Array Slot} {cells slots : Nat} (hPR : PR T M) (hP : va_P g.1 pq_cl ([(b1, .inl (g.2 3, 1, .inr (.inl (f))))] ++ ([(b2, .inl (g.2 4, 1, .inr (.inr (.inr (.inl (fd))))))] ++ (mainW g a T ++ modW g am M))) H) (hD : va_D A ([(b1, .inl (g.2 3, 1, .inr (.inl (f))))] ++ ([(b2, .inl (g.2 4, 1, .inr (.inr (.inr (.inl (fd))))))] ++ (mainW g a T ++ modW g am M)))) (hS : va_S A s.heap H locs) (hl : lv_has ls 9 [(5, .int (nI i)), (0, .ref b), (1, .ref (a 0)), (2, .ref (am 0)), (3, .ref b1), (4, .ref b2)]) (hc : cells ≤ 10000) (hs : slots ≤ 100000)
    (kk : ∀ (f1 : Nat → Int64) (fd1 : Nat → UInt64) (T1 : MainS) (M1 : ModS) (H1 : Heap) (locs1 : List Loc) (ls1 : Array Slot), PR T1 M1 → va_P g.1 pq_cl ([(b1, .inl (g.2 3, 1, .inr (.inl (f1))))] ++ ([(b2, .inl (g.2 4, 1, .inr (.inr (.inr (.inl (fd1))))))] ++ (mainW g a T1 ++ modW g am M1))) H1 → va_D A ([(b1, .inl (g.2 3, 1, .inr (.inl (f1))))] ++ ([(b2, .inl (g.2 4, 1, .inr (.inr (.inr (.inl (fd1))))))] ++ (mainW g a T1 ++ modW g am M1))) → va_S A s.heap H1 locs1 → lv_has ls1 9 [(5, .int (nI i)), (0, .ref b), (1, .ref (a 0)), (2, .ref (am 0)), (3, .ref b1), (4, .ref b2)] → W p l e room_1 s m #[.ref b] below meth c H1 locs1 (cells + 6) (slots + 36) Q (F0 m 3417 ls1 [])) : W p l e room_1 s m #[.ref b] below meth c H locs cells slots Q (F0 m 918 ls []) := by
  obtain ⟨hx, hb, hml, hown, hts⟩ := id S
  obtain ⟨o, T1, bb, M1, h6, h7, hPR1, hcd, hbb⟩ := hM.nearestKey T M (xs (i + 1)) hPR
  refine lv_aload_n hx hb dL_law_918 rfl (lv_at hl 2 rfl) ?_
  refine lv_aload_n hx hb dL_law_919 rfl (lv_at hl 1 rfl) ?_
  refine lv_iload hx hb dL_law_920 (lv_at hl 0 rfl) ?_
  refine lv_iconst (v := 1) hx hb dL_law_922 (by decide) ?_
  refine lv_iadd hx hb dL_law_923 ?_
  refine pq_sld hx hb hX hbl hbA hS (j := 1) (show i + 1 < L by omega) (by omega) (by decide) dL_law_924 ?_
  refine lv_aload_n hx hb dL_law_925 rfl (lv_at hl 4 rfl) ?_
  obtain ⟨hPs, hDs, hJ⟩ := pq_4a hP hD
  refine pq_cH S (c_L_nearestKey l g a b1 f T (xs (i + 1)) hst o T1 h6 M1.1 hcd) vh_L_233 hK hT hL9 hPs hDs hS hA rfl rfl hl.1 (Nat.le_of_ble_eq_true rfl) dL_law_926 ⟨by decide, by decide⟩ ⟨by show cells + 2 ≤ 603072; omega, by show slots + 12 ≤ 7178346; omega⟩ (fun H1 locs1 hk hP1 hS1 => ?_)
  replace hP : va_P g.1 pq_cl ([(b1, .inl (g.2 3, 1, .inr (.inl ((pq_nf f (fun v => v.toInt64) o)))))] ++ ([(b2, .inl (g.2 4, 1, .inr (.inr (.inr (.inl (fd))))))] ++ (mainW g a T1 ++ modW g am M))) H1 := hJ hk hP1
  replace hD : va_D A ([(b1, .inl (g.2 3, 1, .inr (.inl ((pq_nf f (fun v => v.toInt64) o)))))] ++ ([(b2, .inl (g.2 4, 1, .inr (.inr (.inr (.inl (fd))))))] ++ (mainW g a T1 ++ modW g am M))) := pq_adr hD (ad_app rfl (ad_app rfl (ad_app (ad_X6 _ _) (ad_X7 _ _))))
  clear hJ hk hP1 hPs hDs hS
  generalize H1 = H at hP hS1 ⊢
  have hS := hS1
  clear hS1
  refine lv_istore (lv' := [(6, .int M1.1), (5, .int (nI i)), (0, .ref b), (1, .ref (a 0)), (2, .ref (am 0)), (3, .ref b1), (4, .ref b2)]) hx hb dL_law_929 hl (by decide) rfl (fun ls hl => ?_)
  refine lv_aload_n hx hb dL_law_931 rfl (lv_at hl 4 rfl) ?_
  refine lv_aload_n hx hb dL_law_932 rfl (lv_at hl 2 rfl) ?_
  refine lv_iload hx hb dL_law_933 (lv_at hl 1 rfl) ?_
  refine lv_iconst (v := 1) hx hb dL_law_935 (by decide) ?_
  refine lv_iadd hx hb dL_law_936 ?_
  refine pq_sld hx hb hX hbl hbA hS (j := 1) (show i + 1 < L by omega) (by omega) (by decide) dL_law_937 ?_
  obtain ⟨hPs, hDs, hJ⟩ := pq_4y hP hD
  refine pq_lVi S (c_X7_nearestKey l g am M (xs (i + 1)) bb M1 h7) vv_L_235 hK hPs hDs hS hA rfl rfl rfl rfl rfl hl.1 (Nat.le_of_ble_eq_true rfl) dL_law_938 ⟨by decide, by decide⟩ ⟨by show cells+2 ≤ 603072; omega, by show slots+12 ≤ 7178346; omega⟩ (fun H1 locs1 hk hP1 hS1 => ?_)
  replace hP : va_P g.1 pq_cl ([(b1, .inl (g.2 3, 1, .inr (.inl ((pq_nf f (fun v => v.toInt64) o)))))] ++ ([(b2, .inl (g.2 4, 1, .inr (.inr (.inr (.inl (fd))))))] ++ (mainW g a T1 ++ modW g am M1))) H1 := hJ hk hP1
  replace hD : va_D A ([(b1, .inl (g.2 3, 1, .inr (.inl ((pq_nf f (fun v => v.toInt64) o)))))] ++ ([(b2, .inl (g.2 4, 1, .inr (.inr (.inr (.inl (fd))))))] ++ (mainW g a T1 ++ modW g am M1))) := pq_adr hD (ad_app rfl (ad_app rfl (ad_app (ad_X6 _ _) (ad_X7 _ _))))
  clear hJ hk hP1 hPs hDs hS
  generalize H1 = H at hP hS1 ⊢
  have hS := hS1
  clear hS1
  refine lv_istore (lv' := [(7, .int bb), (6, .int M1.1), (5, .int (nI i)), (0, .ref b), (1, .ref (a 0)), (2, .ref (am 0)), (3, .ref b1), (4, .ref b2)]) hx hb dL_law_941 hl (by decide) rfl (fun ls hl => ?_)
  refine lv_aload_n hx hb dL_law_943 rfl (lv_at hl 5 rfl) ?_
  obtain ⟨hPs, hDs, hJ⟩ := pq_4y hP hD
  refine pq_lV S (c_X7_thrown l g am M1 M1.1 rfl) vv_L_193 hK hPs rfl rfl rfl rfl rfl hl.1 (Nat.le_of_ble_eq_true rfl) dL_law_944 ⟨by decide, by decide⟩ ⟨by show cells+2 ≤ 603072; omega, by show slots+12 ≤ 7178346; omega⟩ ?_
  clear hJ hPs hDs
  refine lv_iload hx hb dL_law_947 (lv_at hl 1 rfl) ?_
  refine lv_icmp_eq (tgt := 954) hx hb dL_law_949 (by decide) (fun _ => ?_) (fun h9 => absurd rfl h9)
  refine lv_iload hx hb dL_law_954 (lv_at hl 1 rfl) ?_
  refine lv_if_ne (tgt := 971) hx hb dL_law_956 (by decide) (fun h0 => ?_) (fun h0 => ?_)
  · skip
    refine lv_goto (tgt := 3417) hx hb dL_law_971 (by decide) ?_
    exact W.widen (by omega) (by omega) (kk (pq_nf f (fun v => v.toInt64) o) fd T1 M1 H _ ls hPR1 hP hD hS (lv_sub hl [2, 3, 4, 5, 6, 7] rfl))
  · have e0 := hbb h0
    subst e0
    refine lv_aload_n hx hb dL_law_959 rfl (lv_at hl 6 rfl) ?_
    refine lv_iconst (v := 0) hx hb dL_law_960 (by decide) ?_
    refine va_lald hx hb hK.1 hP 0 3 rfl rfl pq_in01 dL_law_961 ?_
    refine lv_iload hx hb dL_law_962 (lv_at hl 0 rfl) ?_
    refine lv_i2l hx hb dL_law_964 rfl ?_
    refine W.lcmp hx hb dL_law_965 ?_
    refine lv_if_eq (tgt := 971) hx hb dL_law_966 (by decide) (fun _ => ?_) (fun h9 => absurd (pq_lcmp _) h9)
    refine lv_goto (tgt := 3417) hx hb dL_law_971 (by decide) ?_
    exact W.widen (by omega) (by omega) (kk (pq_nf f (fun v => v.toInt64) (.inr bb)) fd T1 M1 H _ ls hPR1 hP hD hS (lv_sub hl [2, 3, 4, 5, 6, 7] rfl))
set_option maxHeartbeats 4000000 in
set_option maxRecDepth 100000 in
theorem lw_case13 {PR : MainS → ModS → Prop} (hM : pq_Ma PR) {p : Program} {l : Launch} {e : Env} {s : State} {m : MethodId} {below : List Frame} {meth : Method} {c : Code} {Q : State → Prop} {A : Nat → Prop} {b L : Nat} {xs : Nat → Int32} {g : pq_g} {a am : Nat → Nat} {b1 b2 : Nat} (hst : l.stackTraces = false) (S : CallFix p m c cL_law 9 s #[.ref b] pq_G RL) (hK : pq_K g s) (hT : pq_T A s s.heap) (hL9 : pq_L s) (hA : ∀ q : Nat, s.heap.size ≤ q → A q) (hX : va_X b L xs s s.heap) (hbl : b < s.heap.size) (hbA : ¬ A b) (hL : L ≤ 3072)
    {i : Nat} (hi : i + 6 ≤ L) {f : Nat → Int64} {fd : Nat → UInt64} {T : MainS} {M : ModS} {H : Heap} {locs : List Loc} {ls : Array Slot} {cells slots : Nat} (hPR : PR T M) (hP : va_P g.1 pq_cl ([(b1, .inl (g.2 3, 1, .inr (.inl (f))))] ++ ([(b2, .inl (g.2 4, 1, .inr (.inr (.inr (.inl (fd))))))] ++ (mainW g a T ++ modW g am M))) H) (hD : va_D A ([(b1, .inl (g.2 3, 1, .inr (.inl (f))))] ++ ([(b2, .inl (g.2 4, 1, .inr (.inr (.inr (.inl (fd))))))] ++ (mainW g a T ++ modW g am M)))) (hS : va_S A s.heap H locs) (hl : lv_has ls 9 [(5, .int (nI i)), (0, .ref b), (1, .ref (a 0)), (2, .ref (am 0)), (3, .ref b1), (4, .ref b2)]) (hc : cells ≤ 10000) (hs : slots ≤ 100000)
    (kk : ∀ (f1 : Nat → Int64) (fd1 : Nat → UInt64) (T1 : MainS) (M1 : ModS) (H1 : Heap) (locs1 : List Loc) (ls1 : Array Slot), PR T1 M1 → va_P g.1 pq_cl ([(b1, .inl (g.2 3, 1, .inr (.inl (f1))))] ++ ([(b2, .inl (g.2 4, 1, .inr (.inr (.inr (.inl (fd1))))))] ++ (mainW g a T1 ++ modW g am M1))) H1 → va_D A ([(b1, .inl (g.2 3, 1, .inr (.inl (f1))))] ++ ([(b2, .inl (g.2 4, 1, .inr (.inr (.inr (.inl (fd1))))))] ++ (mainW g a T1 ++ modW g am M1))) → va_S A s.heap H1 locs1 → lv_has ls1 9 [(5, .int (nI i)), (0, .ref b), (1, .ref (a 0)), (2, .ref (am 0)), (3, .ref b1), (4, .ref b2)] → W p l e room_1 s m #[.ref b] below meth c H1 locs1 (cells + 6) (slots + 36) Q (F0 m 3417 ls1 [])) : W p l e room_1 s m #[.ref b] below meth c H locs cells slots Q (F0 m 974 ls []) := by
  obtain ⟨hx, hb, hml, hown, hts⟩ := id S
  obtain ⟨bb, M1, h6, h7, hPR1⟩ := hM.rankOf T M (xs (i + 1)) hPR
  refine lv_aload_n hx hb dL_law_974 rfl (lv_at hl 2 rfl) ?_
  refine lv_aload_n hx hb dL_law_975 rfl (lv_at hl 1 rfl) ?_
  refine lv_iload hx hb dL_law_976 (lv_at hl 0 rfl) ?_
  refine lv_iconst (v := 1) hx hb dL_law_978 (by decide) ?_
  refine lv_iadd hx hb dL_law_979 ?_
  refine pq_sld hx hb hX hbl hbA hS (j := 1) (show i + 1 < L by omega) (by omega) (by decide) dL_law_980 ?_
  obtain ⟨hPs, hDs, hJ⟩ := pq_4x hP hD
  refine pq_lV S (c_X6_rankOf l g a T (xs (i + 1)) bb h6) vv_L_236 hK hPs rfl rfl rfl rfl rfl hl.1 (Nat.le_of_ble_eq_true rfl) dL_law_981 ⟨by decide, by decide⟩ ⟨by show cells ≤ 603072; omega, by show slots ≤ 7178346; omega⟩ ?_
  clear hJ hPs hDs
  refine lv_aload_n hx hb dL_law_984 rfl (lv_at hl 3 rfl) ?_
  refine lv_aload_n hx hb dL_law_985 rfl (lv_at hl 1 rfl) ?_
  refine lv_iload hx hb dL_law_986 (lv_at hl 0 rfl) ?_
  refine lv_iconst (v := 1) hx hb dL_law_988 (by decide) ?_
  refine lv_iadd hx hb dL_law_989 ?_
  refine pq_sld hx hb hX hbl hbA hS (j := 1) (show i + 1 < L by omega) (by omega) (by decide) dL_law_990 ?_
  obtain ⟨hPs, hDs, hJ⟩ := pq_4y hP hD
  refine pq_lVi S (c_X7_rankOf l g am M (xs (i + 1)) bb M1 h7) vv_L_239 hK hPs hDs hS hA rfl rfl rfl rfl rfl hl.1 (Nat.le_of_ble_eq_true rfl) dL_law_991 ⟨by decide, by decide⟩ ⟨by show cells ≤ 603072; omega, by show slots ≤ 7178346; omega⟩ (fun H1 locs1 hk hP1 hS1 => ?_)
  replace hP : va_P g.1 pq_cl ([(b1, .inl (g.2 3, 1, .inr (.inl (f))))] ++ ([(b2, .inl (g.2 4, 1, .inr (.inr (.inr (.inl (fd))))))] ++ (mainW g a T ++ modW g am M1))) H1 := hJ hk hP1
  replace hD : va_D A ([(b1, .inl (g.2 3, 1, .inr (.inl (f))))] ++ ([(b2, .inl (g.2 4, 1, .inr (.inr (.inr (.inl (fd))))))] ++ (mainW g a T ++ modW g am M1))) := pq_adr hD (ad_app rfl (ad_app rfl (ad_app (ad_X6 _ _) (ad_X7 _ _))))
  clear hJ hk hP1 hPs hDs hS
  generalize H1 = H at hP hS1 ⊢
  have hS := hS1
  clear hS1
  refine lv_icmp_eq (tgt := 3417) hx hb dL_law_994 (by decide) (fun _ => ?_) (fun h9 => absurd rfl h9)
  exact W.widen (by omega) (by omega) (kk f fd T M1 H _ ls hPR1 hP hD hS (lv_sub hl [0, 1, 2, 3, 4, 5] rfl))
set_option maxHeartbeats 4000000 in
set_option maxRecDepth 100000 in
theorem lw_case14 {PR : MainS → ModS → Prop} (hM : pq_Ma PR) {p : Program} {l : Launch} {e : Env} {s : State} {m : MethodId} {below : List Frame} {meth : Method} {c : Code} {Q : State → Prop} {A : Nat → Prop} {b L : Nat} {xs : Nat → Int32} {g : pq_g} {a am : Nat → Nat} {b1 b2 : Nat} (hst : l.stackTraces = false) (S : CallFix p m c cL_law 9 s #[.ref b] pq_G RL) (hK : pq_K g s) (hT : pq_T A s s.heap) (hL9 : pq_L s) (hA : ∀ q : Nat, s.heap.size ≤ q → A q) (hX : va_X b L xs s s.heap) (hbl : b < s.heap.size) (hbA : ¬ A b) (hL : L ≤ 3072)
    {i : Nat} (hi : i + 6 ≤ L) {f : Nat → Int64} {fd : Nat → UInt64} {T : MainS} {M : ModS} {H : Heap} {locs : List Loc} {ls : Array Slot} {cells slots : Nat} (hPR : PR T M) (hP : va_P g.1 pq_cl ([(b1, .inl (g.2 3, 1, .inr (.inl (f))))] ++ ([(b2, .inl (g.2 4, 1, .inr (.inr (.inr (.inl (fd))))))] ++ (mainW g a T ++ modW g am M))) H) (hD : va_D A ([(b1, .inl (g.2 3, 1, .inr (.inl (f))))] ++ ([(b2, .inl (g.2 4, 1, .inr (.inr (.inr (.inl (fd))))))] ++ (mainW g a T ++ modW g am M)))) (hS : va_S A s.heap H locs) (hl : lv_has ls 9 [(5, .int (nI i)), (0, .ref b), (1, .ref (a 0)), (2, .ref (am 0)), (3, .ref b1), (4, .ref b2)]) (hc : cells ≤ 10000) (hs : slots ≤ 100000)
    (kk : ∀ (f1 : Nat → Int64) (fd1 : Nat → UInt64) (T1 : MainS) (M1 : ModS) (H1 : Heap) (locs1 : List Loc) (ls1 : Array Slot), PR T1 M1 → va_P g.1 pq_cl ([(b1, .inl (g.2 3, 1, .inr (.inl (f1))))] ++ ([(b2, .inl (g.2 4, 1, .inr (.inr (.inr (.inl (fd1))))))] ++ (mainW g a T1 ++ modW g am M1))) H1 → va_D A ([(b1, .inl (g.2 3, 1, .inr (.inl (f1))))] ++ ([(b2, .inl (g.2 4, 1, .inr (.inr (.inr (.inl (fd1))))))] ++ (mainW g a T1 ++ modW g am M1))) → va_S A s.heap H1 locs1 → lv_has ls1 9 [(5, .int (nI i)), (0, .ref b), (1, .ref (a 0)), (2, .ref (am 0)), (3, .ref b1), (4, .ref b2)] → W p l e room_1 s m #[.ref b] below meth c H1 locs1 (cells + 6) (slots + 36) Q (F0 m 3417 ls1 [])) : W p l e room_1 s m #[.ref b] below meth c H locs cells slots Q (F0 m 999 ls []) := by
  obtain ⟨hx, hb, hml, hown, hts⟩ := id S
  obtain ⟨o, T1, bb, M1, h6, h7, hPR1, hcd, hbb⟩ := hM.keyAt T M (xs (i + 1)) hPR
  refine lv_aload_n hx hb dL_law_999 rfl (lv_at hl 2 rfl) ?_
  refine lv_aload_n hx hb dL_law_1000 rfl (lv_at hl 1 rfl) ?_
  refine lv_iload hx hb dL_law_1001 (lv_at hl 0 rfl) ?_
  refine lv_iconst (v := 1) hx hb dL_law_1003 (by decide) ?_
  refine lv_iadd hx hb dL_law_1004 ?_
  refine pq_sld hx hb hX hbl hbA hS (j := 1) (show i + 1 < L by omega) (by omega) (by decide) dL_law_1005 ?_
  refine lv_aload_n hx hb dL_law_1006 rfl (lv_at hl 4 rfl) ?_
  obtain ⟨hPs, hDs, hJ⟩ := pq_4a hP hD
  refine pq_cH S (c_L_keyAt l g a b1 f T (xs (i + 1)) hst o T1 h6 M1.1 hcd) vh_L_240 hK hT hL9 hPs hDs hS hA rfl rfl hl.1 (Nat.le_of_ble_eq_true rfl) dL_law_1007 ⟨by decide, by decide⟩ ⟨by show cells + 1 ≤ 603072; omega, by show slots + 6 ≤ 7178346; omega⟩ (fun H1 locs1 hk hP1 hS1 => ?_)
  replace hP : va_P g.1 pq_cl ([(b1, .inl (g.2 3, 1, .inr (.inl ((pq_nf f (fun v => v.toInt64) o)))))] ++ ([(b2, .inl (g.2 4, 1, .inr (.inr (.inr (.inl (fd))))))] ++ (mainW g a T1 ++ modW g am M))) H1 := hJ hk hP1
  replace hD : va_D A ([(b1, .inl (g.2 3, 1, .inr (.inl ((pq_nf f (fun v => v.toInt64) o)))))] ++ ([(b2, .inl (g.2 4, 1, .inr (.inr (.inr (.inl (fd))))))] ++ (mainW g a T1 ++ modW g am M))) := pq_adr hD (ad_app rfl (ad_app rfl (ad_app (ad_X6 _ _) (ad_X7 _ _))))
  clear hJ hk hP1 hPs hDs hS
  generalize H1 = H at hP hS1 ⊢
  have hS := hS1
  clear hS1
  refine lv_istore (lv' := [(6, .int M1.1), (5, .int (nI i)), (0, .ref b), (1, .ref (a 0)), (2, .ref (am 0)), (3, .ref b1), (4, .ref b2)]) hx hb dL_law_1010 hl (by decide) rfl (fun ls hl => ?_)
  refine lv_aload_n hx hb dL_law_1012 rfl (lv_at hl 4 rfl) ?_
  refine lv_aload_n hx hb dL_law_1013 rfl (lv_at hl 2 rfl) ?_
  refine lv_iload hx hb dL_law_1014 (lv_at hl 1 rfl) ?_
  refine lv_iconst (v := 1) hx hb dL_law_1016 (by decide) ?_
  refine lv_iadd hx hb dL_law_1017 ?_
  refine pq_sld hx hb hX hbl hbA hS (j := 1) (show i + 1 < L by omega) (by omega) (by decide) dL_law_1018 ?_
  obtain ⟨hPs, hDs, hJ⟩ := pq_4y hP hD
  refine pq_lVi S (c_X7_keyAt l g am M (xs (i + 1)) bb M1 h7) vv_L_242 hK hPs hDs hS hA rfl rfl rfl rfl rfl hl.1 (Nat.le_of_ble_eq_true rfl) dL_law_1019 ⟨by decide, by decide⟩ ⟨by show cells+1 ≤ 603072; omega, by show slots+6 ≤ 7178346; omega⟩ (fun H1 locs1 hk hP1 hS1 => ?_)
  replace hP : va_P g.1 pq_cl ([(b1, .inl (g.2 3, 1, .inr (.inl ((pq_nf f (fun v => v.toInt64) o)))))] ++ ([(b2, .inl (g.2 4, 1, .inr (.inr (.inr (.inl (fd))))))] ++ (mainW g a T1 ++ modW g am M1))) H1 := hJ hk hP1
  replace hD : va_D A ([(b1, .inl (g.2 3, 1, .inr (.inl ((pq_nf f (fun v => v.toInt64) o)))))] ++ ([(b2, .inl (g.2 4, 1, .inr (.inr (.inr (.inl (fd))))))] ++ (mainW g a T1 ++ modW g am M1))) := pq_adr hD (ad_app rfl (ad_app rfl (ad_app (ad_X6 _ _) (ad_X7 _ _))))
  clear hJ hk hP1 hPs hDs hS
  generalize H1 = H at hP hS1 ⊢
  have hS := hS1
  clear hS1
  refine lv_istore (lv' := [(7, .int bb), (6, .int M1.1), (5, .int (nI i)), (0, .ref b), (1, .ref (a 0)), (2, .ref (am 0)), (3, .ref b1), (4, .ref b2)]) hx hb dL_law_1022 hl (by decide) rfl (fun ls hl => ?_)
  refine lv_aload_n hx hb dL_law_1024 rfl (lv_at hl 5 rfl) ?_
  obtain ⟨hPs, hDs, hJ⟩ := pq_4y hP hD
  refine pq_lV S (c_X7_thrown l g am M1 M1.1 rfl) vv_L_193 hK hPs rfl rfl rfl rfl rfl hl.1 (Nat.le_of_ble_eq_true rfl) dL_law_1025 ⟨by decide, by decide⟩ ⟨by show cells+1 ≤ 603072; omega, by show slots+6 ≤ 7178346; omega⟩ ?_
  clear hJ hPs hDs
  refine lv_iload hx hb dL_law_1028 (lv_at hl 1 rfl) ?_
  refine lv_icmp_eq (tgt := 1035) hx hb dL_law_1030 (by decide) (fun _ => ?_) (fun h9 => absurd rfl h9)
  refine lv_iload hx hb dL_law_1035 (lv_at hl 1 rfl) ?_
  refine lv_if_ne (tgt := 1052) hx hb dL_law_1037 (by decide) (fun h0 => ?_) (fun h0 => ?_)
  · skip
    refine lv_goto (tgt := 3417) hx hb dL_law_1052 (by decide) ?_
    exact W.widen (by omega) (by omega) (kk (pq_nf f (fun v => v.toInt64) o) fd T1 M1 H _ ls hPR1 hP hD hS (lv_sub hl [2, 3, 4, 5, 6, 7] rfl))
  · have e0 := hbb h0
    subst e0
    refine lv_aload_n hx hb dL_law_1040 rfl (lv_at hl 6 rfl) ?_
    refine lv_iconst (v := 0) hx hb dL_law_1041 (by decide) ?_
    refine va_lald hx hb hK.1 hP 0 3 rfl rfl pq_in01 dL_law_1042 ?_
    refine lv_iload hx hb dL_law_1043 (lv_at hl 0 rfl) ?_
    refine lv_i2l hx hb dL_law_1045 rfl ?_
    refine W.lcmp hx hb dL_law_1046 ?_
    refine lv_if_eq (tgt := 1052) hx hb dL_law_1047 (by decide) (fun _ => ?_) (fun h9 => absurd (pq_lcmp _) h9)
    refine lv_goto (tgt := 3417) hx hb dL_law_1052 (by decide) ?_
    exact W.widen (by omega) (by omega) (kk (pq_nf f (fun v => v.toInt64) (.inr bb)) fd T1 M1 H _ ls hPR1 hP hD hS (lv_sub hl [2, 3, 4, 5, 6, 7] rfl))
