set_option maxHeartbeats 4000000 in
set_option maxRecDepth 100000 in
theorem lw_case45 {PR : MainS → ModS → Prop} (hM : pq_Ma PR) {p : Program} {l : Launch} {e : Env} {s : State} {m : MethodId} {below : List Frame} {meth : Method} {c : Code} {Q : State → Prop} {A : Nat → Prop} {b L : Nat} {xs : Nat → Int32} {g : pq_g} {a am : Nat → Nat} {b1 b2 : Nat} (hst : l.stackTraces = false) (S : CallFix p m c cL_law 9 s #[.ref b] pq_G RL) (hK : pq_K g s) (hT : pq_T A s s.heap) (hL9 : pq_L s) (hA : ∀ q : Nat, s.heap.size ≤ q → A q) (hX : va_X b L xs s s.heap) (hbl : b < s.heap.size) (hbA : ¬ A b) (hL : L ≤ 3072)
    {i : Nat} (hi : i + 6 ≤ L) {f : Nat → Int64} {fd : Nat → UInt64} {T : MainS} {M : ModS} {H : Heap} {locs : List Loc} {ls : Array Slot} {cells slots : Nat} (hPR : PR T M) (hP : va_P g.1 pq_cl ([(b1, .inl (g.2 3, 1, .inr (.inl (f))))] ++ ([(b2, .inl (g.2 4, 1, .inr (.inr (.inr (.inl (fd))))))] ++ (mainW g a T ++ modW g am M))) H) (hD : va_D A ([(b1, .inl (g.2 3, 1, .inr (.inl (f))))] ++ ([(b2, .inl (g.2 4, 1, .inr (.inr (.inr (.inl (fd))))))] ++ (mainW g a T ++ modW g am M)))) (hS : va_S A s.heap H locs) (hl : lv_has ls 9 [(5, .int (nI i)), (0, .ref b), (1, .ref (a 0)), (2, .ref (am 0)), (3, .ref b1), (4, .ref b2)]) (hc : cells ≤ 10000) (hs : slots ≤ 100000)
    (kk : ∀ (f1 : Nat → Int64) (fd1 : Nat → UInt64) (T1 : MainS) (M1 : ModS) (H1 : Heap) (locs1 : List Loc) (ls1 : Array Slot), PR T1 M1 → va_P g.1 pq_cl ([(b1, .inl (g.2 3, 1, .inr (.inl (f1))))] ++ ([(b2, .inl (g.2 4, 1, .inr (.inr (.inr (.inl (fd1))))))] ++ (mainW g a T1 ++ modW g am M1))) H1 → va_D A ([(b1, .inl (g.2 3, 1, .inr (.inl (f1))))] ++ ([(b2, .inl (g.2 4, 1, .inr (.inr (.inr (.inl (fd1))))))] ++ (mainW g a T1 ++ modW g am M1))) → va_S A s.heap H1 locs1 → lv_has ls1 9 [(5, .int (nI i)), (0, .ref b), (1, .ref (a 0)), (2, .ref (am 0)), (3, .ref b1), (4, .ref b2)] → W p l e room_1 s m #[.ref b] below meth c H1 locs1 (cells + 6) (slots + 36) Q (F0 m 3417 ls1 [])) : W p l e room_1 s m #[.ref b] below meth c H locs cells slots Q (F0 m 2834 ls []) := by
  obtain ⟨hx, hb, hml, hown, hts⟩ := id S
  obtain ⟨o, T1, bb, M1, h6, h7, hPR1, hcd, hbb, hex⟩ := hM.leafShare T M hPR
  refine lv_aload_n hx hb dL_law_2834 rfl (lv_at hl 2 rfl) ?_
  refine lv_aload hx hb dL_law_2835 (lv_at hl 5 rfl) ?_
  obtain ⟨hPs, hDs, hJ⟩ := pq_4b hP hD
  refine pq_cH S (c_L_leafShare l g a b2 fd T hst o T1 h6 M1.1 hcd (fun v hv => by subst hv; have h0 : M1.1 = 0 := (Option.some.inj hcd).symm; have e9 := Sum.inr.inj (hbb h0); subst e9; exact (hex h0).1)) vh_L_339 hK hT hL9 hPs hDs hS hA rfl rfl hl.1 (Nat.le_of_ble_eq_true rfl) dL_law_2837 ⟨by decide, by decide⟩ ⟨by show cells + 1 ≤ 603072; omega, by show slots + 6 ≤ 7178346; omega⟩ (fun H1 locs1 hk hP1 hS1 => ?_)
  replace hP : va_P g.1 pq_cl ([(b1, .inl (g.2 3, 1, .inr (.inl (f))))] ++ ([(b2, .inl (g.2 4, 1, .inr (.inr (.inr (.inl ((pq_nf fd (fun v => FP.f2d v) o)))))))] ++ (mainW g a T1 ++ modW g am M))) H1 := hJ hk hP1
  replace hD : va_D A ([(b1, .inl (g.2 3, 1, .inr (.inl (f))))] ++ ([(b2, .inl (g.2 4, 1, .inr (.inr (.inr (.inl ((pq_nf fd (fun v => FP.f2d v) o)))))))] ++ (mainW g a T1 ++ modW g am M))) := pq_adr hD (ad_app rfl (ad_app rfl (ad_app (ad_X6 _ _) (ad_X7 _ _))))
  clear hJ hk hP1 hPs hDs hS
  generalize H1 = H at hP hS1 ⊢
  have hS := hS1
  clear hS1
  refine lv_istore (lv' := [(6, .int M1.1), (5, .int (nI i)), (0, .ref b), (1, .ref (a 0)), (2, .ref (am 0)), (3, .ref b1), (4, .ref b2)]) hx hb dL_law_2840 hl (by decide) rfl (fun ls hl => ?_)
  refine lv_aload_n hx hb dL_law_2842 rfl (lv_at hl 4 rfl) ?_
  obtain ⟨hPs, hDs, hJ⟩ := pq_4y hP hD
  refine pq_lVf S (c_X7_leafShare l g am M bb M1 h7) vv_L_341 hK hPs hDs hS hA rfl rfl rfl rfl rfl hl.1 (Nat.le_of_ble_eq_true rfl) dL_law_2843 ⟨by decide, by decide⟩ ⟨by show cells+1 ≤ 603072; omega, by show slots+6 ≤ 7178346; omega⟩ (fun H1 locs1 hk hP1 hS1 => ?_)
  replace hP : va_P g.1 pq_cl ([(b1, .inl (g.2 3, 1, .inr (.inl (f))))] ++ ([(b2, .inl (g.2 4, 1, .inr (.inr (.inr (.inl ((pq_nf fd (fun v => FP.f2d v) o)))))))] ++ (mainW g a T1 ++ modW g am M1))) H1 := hJ hk hP1
  replace hD : va_D A ([(b1, .inl (g.2 3, 1, .inr (.inl (f))))] ++ ([(b2, .inl (g.2 4, 1, .inr (.inr (.inr (.inl ((pq_nf fd (fun v => FP.f2d v) o)))))))] ++ (mainW g a T1 ++ modW g am M1))) := pq_adr hD (ad_app rfl (ad_app rfl (ad_app (ad_X6 _ _) (ad_X7 _ _))))
  clear hJ hk hP1 hPs hDs hS
  generalize H1 = H at hP hS1 ⊢
  have hS := hS1
  clear hS1
  refine lv_fstore (lv' := [(7, .float bb), (6, .int M1.1), (5, .int (nI i)), (0, .ref b), (1, .ref (a 0)), (2, .ref (am 0)), (3, .ref b1), (4, .ref b2)]) hx hb dL_law_2846 hl (by decide) rfl (fun ls hl => ?_)
  refine lv_aload_n hx hb dL_law_2848 rfl (lv_at hl 5 rfl) ?_
  obtain ⟨hPs, hDs, hJ⟩ := pq_4y hP hD
  refine pq_lV S (c_X7_thrown l g am M1 M1.1 rfl) vv_L_193 hK hPs rfl rfl rfl rfl rfl hl.1 (Nat.le_of_ble_eq_true rfl) dL_law_2849 ⟨by decide, by decide⟩ ⟨by show cells+1 ≤ 603072; omega, by show slots+6 ≤ 7178346; omega⟩ ?_
  clear hJ hPs hDs
  refine lv_iload hx hb dL_law_2852 (lv_at hl 1 rfl) ?_
  refine lv_icmp_eq (tgt := 2859) hx hb dL_law_2854 (by decide) (fun _ => ?_) (fun h9 => absurd rfl h9)
  refine lv_iload hx hb dL_law_2859 (lv_at hl 1 rfl) ?_
  refine lv_if_ne (tgt := 2897) hx hb dL_law_2861 (by decide) (fun h0 => ?_) (fun h0 => ?_)
  · skip
    refine lv_goto (tgt := 3417) hx hb dL_law_2897 (by decide) ?_
    exact W.widen (by omega) (by omega) (kk f (pq_nf fd (fun v => FP.f2d v) o) T1 M1 H _ ls hPR1 hP hD hS (lv_sub hl [2, 3, 4, 5, 6, 7] rfl))
  · have e0 := hbb h0
    subst e0
    have hP2 := pq_P1 (pq_P2 hP)
    refine lv_aload hx hb dL_law_2864 (lv_at hl 7 rfl) ?_
    refine lv_iconst (v := 0) hx hb dL_law_2866 (by decide) ?_
    refine va_dald hx hb hK.1 hP2 0 4 rfl rfl pq_in01 dL_law_2867 ?_
    refine lv_fload hx hb dL_law_2868 (lv_at hl 0 rfl) ?_
    refine lv_f2d hx hb dL_law_2870 (hex h0).1 ?_
    refine lv_dcmp hx hb dL_law_2871 ?_
    refine lv_if_eq (tgt := 2897) hx hb dL_law_2872 (by decide) (fun _ => ?_) (fun h9 => absurd (hex h0).2 h9)
    refine lv_goto (tgt := 3417) hx hb dL_law_2897 (by decide) ?_
    exact W.widen (by omega) (by omega) (kk f (pq_nf fd (fun v => FP.f2d v) (.inr bb)) T1 M1 H _ ls hPR1 hP hD hS (lv_sub hl [2, 3, 4, 5, 6, 7] rfl))
set_option maxHeartbeats 4000000 in
set_option maxRecDepth 100000 in
theorem lw_case46 {PR : MainS → ModS → Prop} (hM : pq_Ma PR) {p : Program} {l : Launch} {e : Env} {s : State} {m : MethodId} {below : List Frame} {meth : Method} {c : Code} {Q : State → Prop} {A : Nat → Prop} {b L : Nat} {xs : Nat → Int32} {g : pq_g} {a am : Nat → Nat} {b1 b2 : Nat} (hst : l.stackTraces = false) (S : CallFix p m c cL_law 9 s #[.ref b] pq_G RL) (hK : pq_K g s) (hT : pq_T A s s.heap) (hL9 : pq_L s) (hA : ∀ q : Nat, s.heap.size ≤ q → A q) (hX : va_X b L xs s s.heap) (hbl : b < s.heap.size) (hbA : ¬ A b) (hL : L ≤ 3072)
    {i : Nat} (hi : i + 6 ≤ L) {f : Nat → Int64} {fd : Nat → UInt64} {T : MainS} {M : ModS} {H : Heap} {locs : List Loc} {ls : Array Slot} {cells slots : Nat} (hPR : PR T M) (hP : va_P g.1 pq_cl ([(b1, .inl (g.2 3, 1, .inr (.inl (f))))] ++ ([(b2, .inl (g.2 4, 1, .inr (.inr (.inr (.inl (fd))))))] ++ (mainW g a T ++ modW g am M))) H) (hD : va_D A ([(b1, .inl (g.2 3, 1, .inr (.inl (f))))] ++ ([(b2, .inl (g.2 4, 1, .inr (.inr (.inr (.inl (fd))))))] ++ (mainW g a T ++ modW g am M)))) (hS : va_S A s.heap H locs) (hl : lv_has ls 9 [(5, .int (nI i)), (0, .ref b), (1, .ref (a 0)), (2, .ref (am 0)), (3, .ref b1), (4, .ref b2)]) (hc : cells ≤ 10000) (hs : slots ≤ 100000)
    (kk : ∀ (f1 : Nat → Int64) (fd1 : Nat → UInt64) (T1 : MainS) (M1 : ModS) (H1 : Heap) (locs1 : List Loc) (ls1 : Array Slot), PR T1 M1 → va_P g.1 pq_cl ([(b1, .inl (g.2 3, 1, .inr (.inl (f1))))] ++ ([(b2, .inl (g.2 4, 1, .inr (.inr (.inr (.inl (fd1))))))] ++ (mainW g a T1 ++ modW g am M1))) H1 → va_D A ([(b1, .inl (g.2 3, 1, .inr (.inl (f1))))] ++ ([(b2, .inl (g.2 4, 1, .inr (.inr (.inr (.inl (fd1))))))] ++ (mainW g a T1 ++ modW g am M1))) → va_S A s.heap H1 locs1 → lv_has ls1 9 [(5, .int (nI i)), (0, .ref b), (1, .ref (a 0)), (2, .ref (am 0)), (3, .ref b1), (4, .ref b2)] → W p l e room_1 s m #[.ref b] below meth c H1 locs1 (cells + 6) (slots + 36) Q (F0 m 3417 ls1 [])) : W p l e room_1 s m #[.ref b] below meth c H locs cells slots Q (F0 m 2900 ls []) := by
  obtain ⟨hx, hb, hml, hown, hts⟩ := id S
  obtain ⟨bb, M1, h6, h7, hPR1⟩ := hM.isConsistent T M hPR
  refine lv_aload_n hx hb dL_law_2900 rfl (lv_at hl 2 rfl) ?_
  obtain ⟨hPs, hDs, hJ⟩ := pq_4x hP hD
  refine pq_lV S (c_X6_isConsistent l g a T bb h6) vv_L_342 hK hPs rfl rfl rfl rfl rfl hl.1 (Nat.le_of_ble_eq_true rfl) dL_law_2901 ⟨by decide, by decide⟩ ⟨by show cells ≤ 603072; omega, by show slots ≤ 7178346; omega⟩ ?_
  clear hJ hPs hDs
  refine lv_aload_n hx hb dL_law_2904 rfl (lv_at hl 3 rfl) ?_
  obtain ⟨hPs, hDs, hJ⟩ := pq_4y hP hD
  refine pq_lVi S (c_X7_isConsistent l g am M bb M1 h7) vv_L_346 hK hPs hDs hS hA rfl rfl rfl rfl rfl hl.1 (Nat.le_of_ble_eq_true rfl) dL_law_2905 ⟨by decide, by decide⟩ ⟨by show cells ≤ 603072; omega, by show slots ≤ 7178346; omega⟩ (fun H1 locs1 hk hP1 hS1 => ?_)
  replace hP : va_P g.1 pq_cl ([(b1, .inl (g.2 3, 1, .inr (.inl (f))))] ++ ([(b2, .inl (g.2 4, 1, .inr (.inr (.inr (.inl (fd))))))] ++ (mainW g a T ++ modW g am M1))) H1 := hJ hk hP1
  replace hD : va_D A ([(b1, .inl (g.2 3, 1, .inr (.inl (f))))] ++ ([(b2, .inl (g.2 4, 1, .inr (.inr (.inr (.inl (fd))))))] ++ (mainW g a T ++ modW g am M1))) := pq_adr hD (ad_app rfl (ad_app rfl (ad_app (ad_X6 _ _) (ad_X7 _ _))))
  clear hJ hk hP1 hPs hDs hS
  generalize H1 = H at hP hS1 ⊢
  have hS := hS1
  clear hS1
  refine lv_icmp_eq (tgt := 3417) hx hb dL_law_2908 (by decide) (fun _ => ?_) (fun h9 => absurd rfl h9)
  exact W.widen (by omega) (by omega) (kk f fd T M1 H _ ls hPR1 hP hD hS (lv_sub hl [0, 1, 2, 3, 4, 5] rfl))
set_option maxHeartbeats 4000000 in
set_option maxRecDepth 100000 in
theorem lw_case47 {PR : MainS → ModS → Prop} (hM : pq_Ma PR) {p : Program} {l : Launch} {e : Env} {s : State} {m : MethodId} {below : List Frame} {meth : Method} {c : Code} {Q : State → Prop} {A : Nat → Prop} {b L : Nat} {xs : Nat → Int32} {g : pq_g} {a am : Nat → Nat} {b1 b2 : Nat} (hst : l.stackTraces = false) (S : CallFix p m c cL_law 9 s #[.ref b] pq_G RL) (hK : pq_K g s) (hT : pq_T A s s.heap) (hL9 : pq_L s) (hA : ∀ q : Nat, s.heap.size ≤ q → A q) (hX : va_X b L xs s s.heap) (hbl : b < s.heap.size) (hbA : ¬ A b) (hL : L ≤ 3072)
    {i : Nat} (hi : i + 6 ≤ L) {f : Nat → Int64} {fd : Nat → UInt64} {T : MainS} {M : ModS} {H : Heap} {locs : List Loc} {ls : Array Slot} {cells slots : Nat} (hPR : PR T M) (hP : va_P g.1 pq_cl ([(b1, .inl (g.2 3, 1, .inr (.inl (f))))] ++ ([(b2, .inl (g.2 4, 1, .inr (.inr (.inr (.inl (fd))))))] ++ (mainW g a T ++ modW g am M))) H) (hD : va_D A ([(b1, .inl (g.2 3, 1, .inr (.inl (f))))] ++ ([(b2, .inl (g.2 4, 1, .inr (.inr (.inr (.inl (fd))))))] ++ (mainW g a T ++ modW g am M)))) (hS : va_S A s.heap H locs) (hl : lv_has ls 9 [(5, .int (nI i)), (0, .ref b), (1, .ref (a 0)), (2, .ref (am 0)), (3, .ref b1), (4, .ref b2)]) (hc : cells ≤ 10000) (hs : slots ≤ 100000)
    (kk : ∀ (f1 : Nat → Int64) (fd1 : Nat → UInt64) (T1 : MainS) (M1 : ModS) (H1 : Heap) (locs1 : List Loc) (ls1 : Array Slot), PR T1 M1 → va_P g.1 pq_cl ([(b1, .inl (g.2 3, 1, .inr (.inl (f1))))] ++ ([(b2, .inl (g.2 4, 1, .inr (.inr (.inr (.inl (fd1))))))] ++ (mainW g a T1 ++ modW g am M1))) H1 → va_D A ([(b1, .inl (g.2 3, 1, .inr (.inl (f1))))] ++ ([(b2, .inl (g.2 4, 1, .inr (.inr (.inr (.inl (fd1))))))] ++ (mainW g a T1 ++ modW g am M1))) → va_S A s.heap H1 locs1 → lv_has ls1 9 [(5, .int (nI i)), (0, .ref b), (1, .ref (a 0)), (2, .ref (am 0)), (3, .ref b1), (4, .ref b2)] → W p l e room_1 s m #[.ref b] below meth c H1 locs1 (cells + 6) (slots + 36) Q (F0 m 3417 ls1 [])) : W p l e room_1 s m #[.ref b] below meth c H locs cells slots Q (F0 m 2913 ls []) := by
  obtain ⟨hx, hb, hml, hown, hts⟩ := id S
  obtain ⟨bb, T1, M1, h6, h7, hPR1⟩ := hM.writeTree T M hPR
  refine lv_aload_n hx hb dL_law_2913 rfl (lv_at hl 2 rfl) ?_
  obtain ⟨hPs, hDs, hJ⟩ := pq_4x hP hD
  refine pq_lVi S (c_X6_writeTree l g a T bb T1 h6) vv_L_347 hK hPs hDs hS hA rfl rfl rfl rfl rfl hl.1 (Nat.le_of_ble_eq_true rfl) dL_law_2914 ⟨by decide, by decide⟩ ⟨by show cells ≤ 603072; omega, by show slots ≤ 7178346; omega⟩ (fun H1 locs1 hk hP1 hS1 => ?_)
  replace hP : va_P g.1 pq_cl ([(b1, .inl (g.2 3, 1, .inr (.inl (f))))] ++ ([(b2, .inl (g.2 4, 1, .inr (.inr (.inr (.inl (fd))))))] ++ (mainW g a T1 ++ modW g am M))) H1 := hJ hk hP1
  replace hD : va_D A ([(b1, .inl (g.2 3, 1, .inr (.inl (f))))] ++ ([(b2, .inl (g.2 4, 1, .inr (.inr (.inr (.inl (fd))))))] ++ (mainW g a T1 ++ modW g am M))) := pq_adr hD (ad_app rfl (ad_app rfl (ad_app (ad_X6 _ _) (ad_X7 _ _))))
  clear hJ hk hP1 hPs hDs hS
  generalize H1 = H at hP hS1 ⊢
  have hS := hS1
  clear hS1
  refine lv_aload_n hx hb dL_law_2917 rfl (lv_at hl 3 rfl) ?_
  obtain ⟨hPs, hDs, hJ⟩ := pq_4y hP hD
  refine pq_lVi S (c_X7_writeTree l g am M bb M1 h7) vv_L_350 hK hPs hDs hS hA rfl rfl rfl rfl rfl hl.1 (Nat.le_of_ble_eq_true rfl) dL_law_2918 ⟨by decide, by decide⟩ ⟨by show cells ≤ 603072; omega, by show slots ≤ 7178346; omega⟩ (fun H1 locs1 hk hP1 hS1 => ?_)
  replace hP : va_P g.1 pq_cl ([(b1, .inl (g.2 3, 1, .inr (.inl (f))))] ++ ([(b2, .inl (g.2 4, 1, .inr (.inr (.inr (.inl (fd))))))] ++ (mainW g a T1 ++ modW g am M1))) H1 := hJ hk hP1
  replace hD : va_D A ([(b1, .inl (g.2 3, 1, .inr (.inl (f))))] ++ ([(b2, .inl (g.2 4, 1, .inr (.inr (.inr (.inl (fd))))))] ++ (mainW g a T1 ++ modW g am M1))) := pq_adr hD (ad_app rfl (ad_app rfl (ad_app (ad_X6 _ _) (ad_X7 _ _))))
  clear hJ hk hP1 hPs hDs hS
  generalize H1 = H at hP hS1 ⊢
  have hS := hS1
  clear hS1
  refine lv_icmp_eq (tgt := 3417) hx hb dL_law_2921 (by decide) (fun _ => ?_) (fun h9 => absurd rfl h9)
  exact W.widen (by omega) (by omega) (kk f fd T1 M1 H _ ls hPR1 hP hD hS (lv_sub hl [0, 1, 2, 3, 4, 5] rfl))
set_option maxHeartbeats 4000000 in
set_option maxRecDepth 100000 in
theorem lw_case48 {PR : MainS → ModS → Prop} (hM : pq_Ma PR) {p : Program} {l : Launch} {e : Env} {s : State} {m : MethodId} {below : List Frame} {meth : Method} {c : Code} {Q : State → Prop} {A : Nat → Prop} {b L : Nat} {xs : Nat → Int32} {g : pq_g} {a am : Nat → Nat} {b1 b2 : Nat} (hst : l.stackTraces = false) (S : CallFix p m c cL_law 9 s #[.ref b] pq_G RL) (hK : pq_K g s) (hT : pq_T A s s.heap) (hL9 : pq_L s) (hA : ∀ q : Nat, s.heap.size ≤ q → A q) (hX : va_X b L xs s s.heap) (hbl : b < s.heap.size) (hbA : ¬ A b) (hL : L ≤ 3072)
    {i : Nat} (hi : i + 6 ≤ L) {f : Nat → Int64} {fd : Nat → UInt64} {T : MainS} {M : ModS} {H : Heap} {locs : List Loc} {ls : Array Slot} {cells slots : Nat} (hPR : PR T M) (hP : va_P g.1 pq_cl ([(b1, .inl (g.2 3, 1, .inr (.inl (f))))] ++ ([(b2, .inl (g.2 4, 1, .inr (.inr (.inr (.inl (fd))))))] ++ (mainW g a T ++ modW g am M))) H) (hD : va_D A ([(b1, .inl (g.2 3, 1, .inr (.inl (f))))] ++ ([(b2, .inl (g.2 4, 1, .inr (.inr (.inr (.inl (fd))))))] ++ (mainW g a T ++ modW g am M)))) (hS : va_S A s.heap H locs) (hl : lv_has ls 9 [(5, .int (nI i)), (0, .ref b), (1, .ref (a 0)), (2, .ref (am 0)), (3, .ref b1), (4, .ref b2)]) (hc : cells ≤ 10000) (hs : slots ≤ 100000)
    (kk : ∀ (f1 : Nat → Int64) (fd1 : Nat → UInt64) (T1 : MainS) (M1 : ModS) (H1 : Heap) (locs1 : List Loc) (ls1 : Array Slot), PR T1 M1 → va_P g.1 pq_cl ([(b1, .inl (g.2 3, 1, .inr (.inl (f1))))] ++ ([(b2, .inl (g.2 4, 1, .inr (.inr (.inr (.inl (fd1))))))] ++ (mainW g a T1 ++ modW g am M1))) H1 → va_D A ([(b1, .inl (g.2 3, 1, .inr (.inl (f1))))] ++ ([(b2, .inl (g.2 4, 1, .inr (.inr (.inr (.inl (fd1))))))] ++ (mainW g a T1 ++ modW g am M1))) → va_S A s.heap H1 locs1 → lv_has ls1 9 [(5, .int (nI i)), (0, .ref b), (1, .ref (a 0)), (2, .ref (am 0)), (3, .ref b1), (4, .ref b2)] → W p l e room_1 s m #[.ref b] below meth c H1 locs1 (cells + 6) (slots + 36) Q (F0 m 3417 ls1 [])) : W p l e room_1 s m #[.ref b] below meth c H locs cells slots Q (F0 m 2926 ls []) := by
  obtain ⟨hx, hb, hml, hown, hts⟩ := id S
  obtain ⟨o, T1, bb, M1, h6, h7, hPR1, hcd, hbb⟩ := hM.writeWindow T M (xs (i + 1)) hPR
  refine lv_aload_n hx hb dL_law_2926 rfl (lv_at hl 2 rfl) ?_
  refine lv_aload_n hx hb dL_law_2927 rfl (lv_at hl 1 rfl) ?_
  refine lv_iload hx hb dL_law_2928 (lv_at hl 0 rfl) ?_
  refine lv_iconst (v := 1) hx hb dL_law_2930 (by decide) ?_
  refine lv_iadd hx hb dL_law_2931 ?_
  refine pq_sld hx hb hX hbl hbA hS (j := 1) (show i + 1 < L by omega) (by omega) (by decide) dL_law_2932 ?_
  refine lv_aload_n hx hb dL_law_2933 rfl (lv_at hl 4 rfl) ?_
  obtain ⟨hPs, hDs, hJ⟩ := pq_4a hP hD
  refine pq_cH S (c_L_writeWindow l g a b1 f T (xs (i + 1)) hst o T1 h6 M1.1 hcd) vh_L_351 hK hT hL9 hPs hDs hS hA rfl rfl hl.1 (Nat.le_of_ble_eq_true rfl) dL_law_2934 ⟨by decide, by decide⟩ ⟨by show cells + 2 ≤ 603072; omega, by show slots + 12 ≤ 7178346; omega⟩ (fun H1 locs1 hk hP1 hS1 => ?_)
  replace hP : va_P g.1 pq_cl ([(b1, .inl (g.2 3, 1, .inr (.inl ((pq_nf f (fun v => v.toInt64) o)))))] ++ ([(b2, .inl (g.2 4, 1, .inr (.inr (.inr (.inl (fd))))))] ++ (mainW g a T1 ++ modW g am M))) H1 := hJ hk hP1
  replace hD : va_D A ([(b1, .inl (g.2 3, 1, .inr (.inl ((pq_nf f (fun v => v.toInt64) o)))))] ++ ([(b2, .inl (g.2 4, 1, .inr (.inr (.inr (.inl (fd))))))] ++ (mainW g a T1 ++ modW g am M))) := pq_adr hD (ad_app rfl (ad_app rfl (ad_app (ad_X6 _ _) (ad_X7 _ _))))
  clear hJ hk hP1 hPs hDs hS
  generalize H1 = H at hP hS1 ⊢
  have hS := hS1
  clear hS1
  refine lv_istore (lv' := [(6, .int M1.1), (5, .int (nI i)), (0, .ref b), (1, .ref (a 0)), (2, .ref (am 0)), (3, .ref b1), (4, .ref b2)]) hx hb dL_law_2937 hl (by decide) rfl (fun ls hl => ?_)
  refine lv_aload_n hx hb dL_law_2939 rfl (lv_at hl 4 rfl) ?_
  refine lv_aload_n hx hb dL_law_2940 rfl (lv_at hl 2 rfl) ?_
  refine lv_iload hx hb dL_law_2941 (lv_at hl 1 rfl) ?_
  refine lv_iconst (v := 1) hx hb dL_law_2943 (by decide) ?_
  refine lv_iadd hx hb dL_law_2944 ?_
  refine pq_sld hx hb hX hbl hbA hS (j := 1) (show i + 1 < L by omega) (by omega) (by decide) dL_law_2945 ?_
  obtain ⟨hPs, hDs, hJ⟩ := pq_4y hP hD
  refine pq_lVi S (c_X7_writeWindow l g am M (xs (i + 1)) bb M1 h7) vv_L_353 hK hPs hDs hS hA rfl rfl rfl rfl rfl hl.1 (Nat.le_of_ble_eq_true rfl) dL_law_2946 ⟨by decide, by decide⟩ ⟨by show cells+2 ≤ 603072; omega, by show slots+12 ≤ 7178346; omega⟩ (fun H1 locs1 hk hP1 hS1 => ?_)
  replace hP : va_P g.1 pq_cl ([(b1, .inl (g.2 3, 1, .inr (.inl ((pq_nf f (fun v => v.toInt64) o)))))] ++ ([(b2, .inl (g.2 4, 1, .inr (.inr (.inr (.inl (fd))))))] ++ (mainW g a T1 ++ modW g am M1))) H1 := hJ hk hP1
  replace hD : va_D A ([(b1, .inl (g.2 3, 1, .inr (.inl ((pq_nf f (fun v => v.toInt64) o)))))] ++ ([(b2, .inl (g.2 4, 1, .inr (.inr (.inr (.inl (fd))))))] ++ (mainW g a T1 ++ modW g am M1))) := pq_adr hD (ad_app rfl (ad_app rfl (ad_app (ad_X6 _ _) (ad_X7 _ _))))
  clear hJ hk hP1 hPs hDs hS
  generalize H1 = H at hP hS1 ⊢
  have hS := hS1
  clear hS1
  refine lv_istore (lv' := [(7, .int bb), (6, .int M1.1), (5, .int (nI i)), (0, .ref b), (1, .ref (a 0)), (2, .ref (am 0)), (3, .ref b1), (4, .ref b2)]) hx hb dL_law_2949 hl (by decide) rfl (fun ls hl => ?_)
  refine lv_aload_n hx hb dL_law_2951 rfl (lv_at hl 5 rfl) ?_
  obtain ⟨hPs, hDs, hJ⟩ := pq_4y hP hD
  refine pq_lV S (c_X7_thrown l g am M1 M1.1 rfl) vv_L_193 hK hPs rfl rfl rfl rfl rfl hl.1 (Nat.le_of_ble_eq_true rfl) dL_law_2952 ⟨by decide, by decide⟩ ⟨by show cells+2 ≤ 603072; omega, by show slots+12 ≤ 7178346; omega⟩ ?_
  clear hJ hPs hDs
  refine lv_iload hx hb dL_law_2955 (lv_at hl 1 rfl) ?_
  refine lv_icmp_eq (tgt := 2962) hx hb dL_law_2957 (by decide) (fun _ => ?_) (fun h9 => absurd rfl h9)
  refine lv_iload hx hb dL_law_2962 (lv_at hl 1 rfl) ?_
  refine lv_if_ne (tgt := 2979) hx hb dL_law_2964 (by decide) (fun h0 => ?_) (fun h0 => ?_)
  · skip
    refine lv_goto (tgt := 3417) hx hb dL_law_2979 (by decide) ?_
    exact W.widen (by omega) (by omega) (kk (pq_nf f (fun v => v.toInt64) o) fd T1 M1 H _ ls hPR1 hP hD hS (lv_sub hl [2, 3, 4, 5, 6, 7] rfl))
  · have e0 := hbb h0
    subst e0
    refine lv_aload_n hx hb dL_law_2967 rfl (lv_at hl 6 rfl) ?_
    refine lv_iconst (v := 0) hx hb dL_law_2968 (by decide) ?_
    refine va_lald hx hb hK.1 hP 0 3 rfl rfl pq_in01 dL_law_2969 ?_
    refine lv_iload hx hb dL_law_2970 (lv_at hl 0 rfl) ?_
    refine lv_i2l hx hb dL_law_2972 rfl ?_
    refine W.lcmp hx hb dL_law_2973 ?_
    refine lv_if_eq (tgt := 2979) hx hb dL_law_2974 (by decide) (fun _ => ?_) (fun h9 => absurd (pq_lcmp _) h9)
    refine lv_goto (tgt := 3417) hx hb dL_law_2979 (by decide) ?_
    exact W.widen (by omega) (by omega) (kk (pq_nf f (fun v => v.toInt64) (.inr bb)) fd T1 M1 H _ ls hPR1 hP hD hS (lv_sub hl [2, 3, 4, 5, 6, 7] rfl))
set_option maxHeartbeats 4000000 in
set_option maxRecDepth 100000 in
theorem lw_case49 {PR : MainS → ModS → Prop} (hM : pq_Ma PR) {p : Program} {l : Launch} {e : Env} {s : State} {m : MethodId} {below : List Frame} {meth : Method} {c : Code} {Q : State → Prop} {A : Nat → Prop} {b L : Nat} {xs : Nat → Int32} {g : pq_g} {a am : Nat → Nat} {b1 b2 : Nat} (hst : l.stackTraces = false) (S : CallFix p m c cL_law 9 s #[.ref b] pq_G RL) (hK : pq_K g s) (hT : pq_T A s s.heap) (hL9 : pq_L s) (hA : ∀ q : Nat, s.heap.size ≤ q → A q) (hX : va_X b L xs s s.heap) (hbl : b < s.heap.size) (hbA : ¬ A b) (hL : L ≤ 3072)
    {i : Nat} (hi : i + 6 ≤ L) {f : Nat → Int64} {fd : Nat → UInt64} {T : MainS} {M : ModS} {H : Heap} {locs : List Loc} {ls : Array Slot} {cells slots : Nat} (hPR : PR T M) (hP : va_P g.1 pq_cl ([(b1, .inl (g.2 3, 1, .inr (.inl (f))))] ++ ([(b2, .inl (g.2 4, 1, .inr (.inr (.inr (.inl (fd))))))] ++ (mainW g a T ++ modW g am M))) H) (hD : va_D A ([(b1, .inl (g.2 3, 1, .inr (.inl (f))))] ++ ([(b2, .inl (g.2 4, 1, .inr (.inr (.inr (.inl (fd))))))] ++ (mainW g a T ++ modW g am M)))) (hS : va_S A s.heap H locs) (hl : lv_has ls 9 [(5, .int (nI i)), (0, .ref b), (1, .ref (a 0)), (2, .ref (am 0)), (3, .ref b1), (4, .ref b2)]) (hc : cells ≤ 10000) (hs : slots ≤ 100000)
    (kk : ∀ (f1 : Nat → Int64) (fd1 : Nat → UInt64) (T1 : MainS) (M1 : ModS) (H1 : Heap) (locs1 : List Loc) (ls1 : Array Slot), PR T1 M1 → va_P g.1 pq_cl ([(b1, .inl (g.2 3, 1, .inr (.inl (f1))))] ++ ([(b2, .inl (g.2 4, 1, .inr (.inr (.inr (.inl (fd1))))))] ++ (mainW g a T1 ++ modW g am M1))) H1 → va_D A ([(b1, .inl (g.2 3, 1, .inr (.inl (f1))))] ++ ([(b2, .inl (g.2 4, 1, .inr (.inr (.inr (.inl (fd1))))))] ++ (mainW g a T1 ++ modW g am M1))) → va_S A s.heap H1 locs1 → lv_has ls1 9 [(5, .int (nI i)), (0, .ref b), (1, .ref (a 0)), (2, .ref (am 0)), (3, .ref b1), (4, .ref b2)] → W p l e room_1 s m #[.ref b] below meth c H1 locs1 (cells + 6) (slots + 36) Q (F0 m 3417 ls1 [])) : W p l e room_1 s m #[.ref b] below meth c H locs cells slots Q (F0 m 2982 ls []) := by
  obtain ⟨hx, hb, hml, hown, hts⟩ := id S
  obtain ⟨o, T1, bb, M1, h6, h7, hPR1, hcd, hbb⟩ := hM.outputAt T M (xs (i + 1)) hPR
  refine lv_aload_n hx hb dL_law_2982 rfl (lv_at hl 2 rfl) ?_
  refine lv_aload_n hx hb dL_law_2983 rfl (lv_at hl 1 rfl) ?_
  refine lv_iload hx hb dL_law_2984 (lv_at hl 0 rfl) ?_
  refine lv_iconst (v := 1) hx hb dL_law_2986 (by decide) ?_
  refine lv_iadd hx hb dL_law_2987 ?_
  refine pq_sld hx hb hX hbl hbA hS (j := 1) (show i + 1 < L by omega) (by omega) (by decide) dL_law_2988 ?_
  refine lv_aload_n hx hb dL_law_2989 rfl (lv_at hl 4 rfl) ?_
  obtain ⟨hPs, hDs, hJ⟩ := pq_4a hP hD
  refine pq_cH S (c_L_outputAt l g a b1 f T (xs (i + 1)) hst o T1 h6 M1.1 hcd) vh_L_354 hK hT hL9 hPs hDs hS hA rfl rfl hl.1 (Nat.le_of_ble_eq_true rfl) dL_law_2990 ⟨by decide, by decide⟩ ⟨by show cells + 1 ≤ 603072; omega, by show slots + 6 ≤ 7178346; omega⟩ (fun H1 locs1 hk hP1 hS1 => ?_)
  replace hP : va_P g.1 pq_cl ([(b1, .inl (g.2 3, 1, .inr (.inl ((pq_nf f (fun v => v.toInt64) o)))))] ++ ([(b2, .inl (g.2 4, 1, .inr (.inr (.inr (.inl (fd))))))] ++ (mainW g a T1 ++ modW g am M))) H1 := hJ hk hP1
  replace hD : va_D A ([(b1, .inl (g.2 3, 1, .inr (.inl ((pq_nf f (fun v => v.toInt64) o)))))] ++ ([(b2, .inl (g.2 4, 1, .inr (.inr (.inr (.inl (fd))))))] ++ (mainW g a T1 ++ modW g am M))) := pq_adr hD (ad_app rfl (ad_app rfl (ad_app (ad_X6 _ _) (ad_X7 _ _))))
  clear hJ hk hP1 hPs hDs hS
  generalize H1 = H at hP hS1 ⊢
  have hS := hS1
  clear hS1
  refine lv_istore (lv' := [(6, .int M1.1), (5, .int (nI i)), (0, .ref b), (1, .ref (a 0)), (2, .ref (am 0)), (3, .ref b1), (4, .ref b2)]) hx hb dL_law_2993 hl (by decide) rfl (fun ls hl => ?_)
  refine lv_aload_n hx hb dL_law_2995 rfl (lv_at hl 4 rfl) ?_
  refine lv_aload_n hx hb dL_law_2996 rfl (lv_at hl 2 rfl) ?_
  refine lv_iload hx hb dL_law_2997 (lv_at hl 1 rfl) ?_
  refine lv_iconst (v := 1) hx hb dL_law_2999 (by decide) ?_
  refine lv_iadd hx hb dL_law_3000 ?_
  refine pq_sld hx hb hX hbl hbA hS (j := 1) (show i + 1 < L by omega) (by omega) (by decide) dL_law_3001 ?_
  obtain ⟨hPs, hDs, hJ⟩ := pq_4y hP hD
  refine pq_lVi S (c_X7_outputAt l g am M (xs (i + 1)) bb M1 h7) vv_L_356 hK hPs hDs hS hA rfl rfl rfl rfl rfl hl.1 (Nat.le_of_ble_eq_true rfl) dL_law_3002 ⟨by decide, by decide⟩ ⟨by show cells+1 ≤ 603072; omega, by show slots+6 ≤ 7178346; omega⟩ (fun H1 locs1 hk hP1 hS1 => ?_)
  replace hP : va_P g.1 pq_cl ([(b1, .inl (g.2 3, 1, .inr (.inl ((pq_nf f (fun v => v.toInt64) o)))))] ++ ([(b2, .inl (g.2 4, 1, .inr (.inr (.inr (.inl (fd))))))] ++ (mainW g a T1 ++ modW g am M1))) H1 := hJ hk hP1
  replace hD : va_D A ([(b1, .inl (g.2 3, 1, .inr (.inl ((pq_nf f (fun v => v.toInt64) o)))))] ++ ([(b2, .inl (g.2 4, 1, .inr (.inr (.inr (.inl (fd))))))] ++ (mainW g a T1 ++ modW g am M1))) := pq_adr hD (ad_app rfl (ad_app rfl (ad_app (ad_X6 _ _) (ad_X7 _ _))))
  clear hJ hk hP1 hPs hDs hS
  generalize H1 = H at hP hS1 ⊢
  have hS := hS1
  clear hS1
  refine lv_istore (lv' := [(7, .int bb), (6, .int M1.1), (5, .int (nI i)), (0, .ref b), (1, .ref (a 0)), (2, .ref (am 0)), (3, .ref b1), (4, .ref b2)]) hx hb dL_law_3005 hl (by decide) rfl (fun ls hl => ?_)
  refine lv_aload_n hx hb dL_law_3007 rfl (lv_at hl 5 rfl) ?_
  obtain ⟨hPs, hDs, hJ⟩ := pq_4y hP hD
  refine pq_lV S (c_X7_thrown l g am M1 M1.1 rfl) vv_L_193 hK hPs rfl rfl rfl rfl rfl hl.1 (Nat.le_of_ble_eq_true rfl) dL_law_3008 ⟨by decide, by decide⟩ ⟨by show cells+1 ≤ 603072; omega, by show slots+6 ≤ 7178346; omega⟩ ?_
  clear hJ hPs hDs
  refine lv_iload hx hb dL_law_3011 (lv_at hl 1 rfl) ?_
  refine lv_icmp_eq (tgt := 3018) hx hb dL_law_3013 (by decide) (fun _ => ?_) (fun h9 => absurd rfl h9)
  refine lv_iload hx hb dL_law_3018 (lv_at hl 1 rfl) ?_
  refine lv_if_ne (tgt := 3035) hx hb dL_law_3020 (by decide) (fun h0 => ?_) (fun h0 => ?_)
  · skip
    refine lv_goto (tgt := 3417) hx hb dL_law_3035 (by decide) ?_
    exact W.widen (by omega) (by omega) (kk (pq_nf f (fun v => v.toInt64) o) fd T1 M1 H _ ls hPR1 hP hD hS (lv_sub hl [2, 3, 4, 5, 6, 7] rfl))
  · have e0 := hbb h0
    subst e0
    refine lv_aload_n hx hb dL_law_3023 rfl (lv_at hl 6 rfl) ?_
    refine lv_iconst (v := 0) hx hb dL_law_3024 (by decide) ?_
    refine va_lald hx hb hK.1 hP 0 3 rfl rfl pq_in01 dL_law_3025 ?_
    refine lv_iload hx hb dL_law_3026 (lv_at hl 0 rfl) ?_
    refine lv_i2l hx hb dL_law_3028 rfl ?_
    refine W.lcmp hx hb dL_law_3029 ?_
    refine lv_if_eq (tgt := 3035) hx hb dL_law_3030 (by decide) (fun _ => ?_) (fun h9 => absurd (pq_lcmp _) h9)
    refine lv_goto (tgt := 3417) hx hb dL_law_3035 (by decide) ?_
    exact W.widen (by omega) (by omega) (kk (pq_nf f (fun v => v.toInt64) (.inr bb)) fd T1 M1 H _ ls hPR1 hP hD hS (lv_sub hl [2, 3, 4, 5, 6, 7] rfl))
set_option maxHeartbeats 4000000 in
set_option maxRecDepth 100000 in
theorem lw_case50 {PR : MainS → ModS → Prop} (hM : pq_Ma PR) {p : Program} {l : Launch} {e : Env} {s : State} {m : MethodId} {below : List Frame} {meth : Method} {c : Code} {Q : State → Prop} {A : Nat → Prop} {b L : Nat} {xs : Nat → Int32} {g : pq_g} {a am : Nat → Nat} {b1 b2 : Nat} (hst : l.stackTraces = false) (S : CallFix p m c cL_law 9 s #[.ref b] pq_G RL) (hK : pq_K g s) (hT : pq_T A s s.heap) (hL9 : pq_L s) (hA : ∀ q : Nat, s.heap.size ≤ q → A q) (hX : va_X b L xs s s.heap) (hbl : b < s.heap.size) (hbA : ¬ A b) (hL : L ≤ 3072)
    {i : Nat} (hi : i + 6 ≤ L) {f : Nat → Int64} {fd : Nat → UInt64} {T : MainS} {M : ModS} {H : Heap} {locs : List Loc} {ls : Array Slot} {cells slots : Nat} (hPR : PR T M) (hP : va_P g.1 pq_cl ([(b1, .inl (g.2 3, 1, .inr (.inl (f))))] ++ ([(b2, .inl (g.2 4, 1, .inr (.inr (.inr (.inl (fd))))))] ++ (mainW g a T ++ modW g am M))) H) (hD : va_D A ([(b1, .inl (g.2 3, 1, .inr (.inl (f))))] ++ ([(b2, .inl (g.2 4, 1, .inr (.inr (.inr (.inl (fd))))))] ++ (mainW g a T ++ modW g am M)))) (hS : va_S A s.heap H locs) (hl : lv_has ls 9 [(5, .int (nI i)), (0, .ref b), (1, .ref (a 0)), (2, .ref (am 0)), (3, .ref b1), (4, .ref b2)]) (hc : cells ≤ 10000) (hs : slots ≤ 100000)
    (kk : ∀ (f1 : Nat → Int64) (fd1 : Nat → UInt64) (T1 : MainS) (M1 : ModS) (H1 : Heap) (locs1 : List Loc) (ls1 : Array Slot), PR T1 M1 → va_P g.1 pq_cl ([(b1, .inl (g.2 3, 1, .inr (.inl (f1))))] ++ ([(b2, .inl (g.2 4, 1, .inr (.inr (.inr (.inl (fd1))))))] ++ (mainW g a T1 ++ modW g am M1))) H1 → va_D A ([(b1, .inl (g.2 3, 1, .inr (.inl (f1))))] ++ ([(b2, .inl (g.2 4, 1, .inr (.inr (.inr (.inl (fd1))))))] ++ (mainW g a T1 ++ modW g am M1))) → va_S A s.heap H1 locs1 → lv_has ls1 9 [(5, .int (nI i)), (0, .ref b), (1, .ref (a 0)), (2, .ref (am 0)), (3, .ref b1), (4, .ref b2)] → W p l e room_1 s m #[.ref b] below meth c H1 locs1 (cells + 6) (slots + 36) Q (F0 m 3417 ls1 [])) : W p l e room_1 s m #[.ref b] below meth c H locs cells slots Q (F0 m 3038 ls []) := by
  obtain ⟨hx, hb, hml, hown, hts⟩ := id S
  obtain ⟨o, T1, bb, M1, h6, h7, hPR1, hcd, hbb⟩ := hM.appendInput T M (((xs (i + 1)).toUInt32 % 65536).toInt32) hPR (pq_char0 _) (pq_char1 _)
  refine lv_aload_n hx hb dL_law_3038 rfl (lv_at hl 2 rfl) ?_
  refine lv_aload_n hx hb dL_law_3039 rfl (lv_at hl 1 rfl) ?_
  refine lv_iload hx hb dL_law_3040 (lv_at hl 0 rfl) ?_
  refine lv_iconst (v := 1) hx hb dL_law_3042 (by decide) ?_
  refine lv_iadd hx hb dL_law_3043 ?_
  refine pq_sld hx hb hX hbl hbA hS (j := 1) (show i + 1 < L by omega) (by omega) (by decide) dL_law_3044 ?_
  refine lv_i2c hx hb dL_law_3045 rfl ?_
  refine lv_aload_n hx hb dL_law_3046 rfl (lv_at hl 4 rfl) ?_
  obtain ⟨hPs, hDs, hJ⟩ := pq_4a hP hD
  refine pq_cH S (c_L_appendInput l g a b1 f T (((xs (i + 1)).toUInt32 % 65536).toInt32) hst o T1 h6 M1.1 hcd) vh_L_357 hK hT hL9 hPs hDs hS hA rfl rfl hl.1 (Nat.le_of_ble_eq_true rfl) dL_law_3047 ⟨by decide, by decide⟩ ⟨by show cells + 2 ≤ 603072; omega, by show slots + 12 ≤ 7178346; omega⟩ (fun H1 locs1 hk hP1 hS1 => ?_)
  replace hP : va_P g.1 pq_cl ([(b1, .inl (g.2 3, 1, .inr (.inl ((pq_nf f (fun v => v.toInt64) o)))))] ++ ([(b2, .inl (g.2 4, 1, .inr (.inr (.inr (.inl (fd))))))] ++ (mainW g a T1 ++ modW g am M))) H1 := hJ hk hP1
  replace hD : va_D A ([(b1, .inl (g.2 3, 1, .inr (.inl ((pq_nf f (fun v => v.toInt64) o)))))] ++ ([(b2, .inl (g.2 4, 1, .inr (.inr (.inr (.inl (fd))))))] ++ (mainW g a T1 ++ modW g am M))) := pq_adr hD (ad_app rfl (ad_app rfl (ad_app (ad_X6 _ _) (ad_X7 _ _))))
  clear hJ hk hP1 hPs hDs hS
  generalize H1 = H at hP hS1 ⊢
  have hS := hS1
  clear hS1
  refine lv_istore (lv' := [(6, .int M1.1), (5, .int (nI i)), (0, .ref b), (1, .ref (a 0)), (2, .ref (am 0)), (3, .ref b1), (4, .ref b2)]) hx hb dL_law_3050 hl (by decide) rfl (fun ls hl => ?_)
  refine lv_aload_n hx hb dL_law_3052 rfl (lv_at hl 4 rfl) ?_
  refine lv_aload_n hx hb dL_law_3053 rfl (lv_at hl 2 rfl) ?_
  refine lv_iload hx hb dL_law_3054 (lv_at hl 1 rfl) ?_
  refine lv_iconst (v := 1) hx hb dL_law_3056 (by decide) ?_
  refine lv_iadd hx hb dL_law_3057 ?_
  refine pq_sld hx hb hX hbl hbA hS (j := 1) (show i + 1 < L by omega) (by omega) (by decide) dL_law_3058 ?_
  refine lv_i2c hx hb dL_law_3059 rfl ?_
  obtain ⟨hPs, hDs, hJ⟩ := pq_4y hP hD
  refine pq_lVi S (c_X7_appendInput l g am M (((xs (i + 1)).toUInt32 % 65536).toInt32) bb M1 h7) vv_L_360 hK hPs hDs hS hA rfl rfl rfl rfl rfl hl.1 (Nat.le_of_ble_eq_true rfl) dL_law_3060 ⟨by decide, by decide⟩ ⟨by show cells+2 ≤ 603072; omega, by show slots+12 ≤ 7178346; omega⟩ (fun H1 locs1 hk hP1 hS1 => ?_)
  replace hP : va_P g.1 pq_cl ([(b1, .inl (g.2 3, 1, .inr (.inl ((pq_nf f (fun v => v.toInt64) o)))))] ++ ([(b2, .inl (g.2 4, 1, .inr (.inr (.inr (.inl (fd))))))] ++ (mainW g a T1 ++ modW g am M1))) H1 := hJ hk hP1
  replace hD : va_D A ([(b1, .inl (g.2 3, 1, .inr (.inl ((pq_nf f (fun v => v.toInt64) o)))))] ++ ([(b2, .inl (g.2 4, 1, .inr (.inr (.inr (.inl (fd))))))] ++ (mainW g a T1 ++ modW g am M1))) := pq_adr hD (ad_app rfl (ad_app rfl (ad_app (ad_X6 _ _) (ad_X7 _ _))))
  clear hJ hk hP1 hPs hDs hS
  generalize H1 = H at hP hS1 ⊢
  have hS := hS1
  clear hS1
  refine lv_istore (lv' := [(7, .int bb), (6, .int M1.1), (5, .int (nI i)), (0, .ref b), (1, .ref (a 0)), (2, .ref (am 0)), (3, .ref b1), (4, .ref b2)]) hx hb dL_law_3063 hl (by decide) rfl (fun ls hl => ?_)
  refine lv_aload_n hx hb dL_law_3065 rfl (lv_at hl 5 rfl) ?_
  obtain ⟨hPs, hDs, hJ⟩ := pq_4y hP hD
  refine pq_lV S (c_X7_thrown l g am M1 M1.1 rfl) vv_L_193 hK hPs rfl rfl rfl rfl rfl hl.1 (Nat.le_of_ble_eq_true rfl) dL_law_3066 ⟨by decide, by decide⟩ ⟨by show cells+2 ≤ 603072; omega, by show slots+12 ≤ 7178346; omega⟩ ?_
  clear hJ hPs hDs
  refine lv_iload hx hb dL_law_3069 (lv_at hl 1 rfl) ?_
  refine lv_icmp_eq (tgt := 3076) hx hb dL_law_3071 (by decide) (fun _ => ?_) (fun h9 => absurd rfl h9)
  refine lv_iload hx hb dL_law_3076 (lv_at hl 1 rfl) ?_
  refine lv_if_ne (tgt := 3093) hx hb dL_law_3078 (by decide) (fun h0 => ?_) (fun h0 => ?_)
  · skip
    refine lv_goto (tgt := 3417) hx hb dL_law_3093 (by decide) ?_
    exact W.widen (by omega) (by omega) (kk (pq_nf f (fun v => v.toInt64) o) fd T1 M1 H _ ls hPR1 hP hD hS (lv_sub hl [2, 3, 4, 5, 6, 7] rfl))
  · have e0 := hbb h0
    subst e0
    refine lv_aload_n hx hb dL_law_3081 rfl (lv_at hl 6 rfl) ?_
    refine lv_iconst (v := 0) hx hb dL_law_3082 (by decide) ?_
    refine va_lald hx hb hK.1 hP 0 3 rfl rfl pq_in01 dL_law_3083 ?_
    refine lv_iload hx hb dL_law_3084 (lv_at hl 0 rfl) ?_
    refine lv_i2l hx hb dL_law_3086 rfl ?_
    refine W.lcmp hx hb dL_law_3087 ?_
    refine lv_if_eq (tgt := 3093) hx hb dL_law_3088 (by decide) (fun _ => ?_) (fun h9 => absurd (pq_lcmp _) h9)
    refine lv_goto (tgt := 3417) hx hb dL_law_3093 (by decide) ?_
    exact W.widen (by omega) (by omega) (kk (pq_nf f (fun v => v.toInt64) (.inr bb)) fd T1 M1 H _ ls hPR1 hP hD hS (lv_sub hl [2, 3, 4, 5, 6, 7] rfl))
set_option maxHeartbeats 4000000 in
set_option maxRecDepth 100000 in
theorem lw_case51 {PR : MainS → ModS → Prop} (hM : pq_Ma PR) {p : Program} {l : Launch} {e : Env} {s : State} {m : MethodId} {below : List Frame} {meth : Method} {c : Code} {Q : State → Prop} {A : Nat → Prop} {b L : Nat} {xs : Nat → Int32} {g : pq_g} {a am : Nat → Nat} {b1 b2 : Nat} (hst : l.stackTraces = false) (S : CallFix p m c cL_law 9 s #[.ref b] pq_G RL) (hK : pq_K g s) (hT : pq_T A s s.heap) (hL9 : pq_L s) (hA : ∀ q : Nat, s.heap.size ≤ q → A q) (hX : va_X b L xs s s.heap) (hbl : b < s.heap.size) (hbA : ¬ A b) (hL : L ≤ 3072)
    {i : Nat} (hi : i + 6 ≤ L) {f : Nat → Int64} {fd : Nat → UInt64} {T : MainS} {M : ModS} {H : Heap} {locs : List Loc} {ls : Array Slot} {cells slots : Nat} (hPR : PR T M) (hP : va_P g.1 pq_cl ([(b1, .inl (g.2 3, 1, .inr (.inl (f))))] ++ ([(b2, .inl (g.2 4, 1, .inr (.inr (.inr (.inl (fd))))))] ++ (mainW g a T ++ modW g am M))) H) (hD : va_D A ([(b1, .inl (g.2 3, 1, .inr (.inl (f))))] ++ ([(b2, .inl (g.2 4, 1, .inr (.inr (.inr (.inl (fd))))))] ++ (mainW g a T ++ modW g am M)))) (hS : va_S A s.heap H locs) (hl : lv_has ls 9 [(5, .int (nI i)), (0, .ref b), (1, .ref (a 0)), (2, .ref (am 0)), (3, .ref b1), (4, .ref b2)]) (hc : cells ≤ 10000) (hs : slots ≤ 100000)
    (kk : ∀ (f1 : Nat → Int64) (fd1 : Nat → UInt64) (T1 : MainS) (M1 : ModS) (H1 : Heap) (locs1 : List Loc) (ls1 : Array Slot), PR T1 M1 → va_P g.1 pq_cl ([(b1, .inl (g.2 3, 1, .inr (.inl (f1))))] ++ ([(b2, .inl (g.2 4, 1, .inr (.inr (.inr (.inl (fd1))))))] ++ (mainW g a T1 ++ modW g am M1))) H1 → va_D A ([(b1, .inl (g.2 3, 1, .inr (.inl (f1))))] ++ ([(b2, .inl (g.2 4, 1, .inr (.inr (.inr (.inl (fd1))))))] ++ (mainW g a T1 ++ modW g am M1))) → va_S A s.heap H1 locs1 → lv_has ls1 9 [(5, .int (nI i)), (0, .ref b), (1, .ref (a 0)), (2, .ref (am 0)), (3, .ref b1), (4, .ref b2)] → W p l e room_1 s m #[.ref b] below meth c H1 locs1 (cells + 6) (slots + 36) Q (F0 m 3417 ls1 [])) : W p l e room_1 s m #[.ref b] below meth c H locs cells slots Q (F0 m 3096 ls []) := by
  obtain ⟨hx, hb, hml, hown, hts⟩ := id S
  obtain ⟨o, T1, bb, M1, h6, h7, hPR1, hcd, hbb⟩ := hM.execute T M hPR
  refine lv_aload_n hx hb dL_law_3096 rfl (lv_at hl 2 rfl) ?_
  refine lv_aload_n hx hb dL_law_3097 rfl (lv_at hl 4 rfl) ?_
  obtain ⟨hPs, hDs, hJ⟩ := pq_4a hP hD
  refine pq_cH S (c_L_execute l g a b1 f T hst o T1 h6 M1.1 hcd) vh_L_361 hK hT hL9 hPs hDs hS hA rfl rfl hl.1 (Nat.le_of_ble_eq_true rfl) dL_law_3098 ⟨by decide, by decide⟩ ⟨by show cells + 3 ≤ 603072; omega, by show slots + 18 ≤ 7178346; omega⟩ (fun H1 locs1 hk hP1 hS1 => ?_)
  replace hP : va_P g.1 pq_cl ([(b1, .inl (g.2 3, 1, .inr (.inl ((pq_nf f (fun v => v.toInt64) o)))))] ++ ([(b2, .inl (g.2 4, 1, .inr (.inr (.inr (.inl (fd))))))] ++ (mainW g a T1 ++ modW g am M))) H1 := hJ hk hP1
  replace hD : va_D A ([(b1, .inl (g.2 3, 1, .inr (.inl ((pq_nf f (fun v => v.toInt64) o)))))] ++ ([(b2, .inl (g.2 4, 1, .inr (.inr (.inr (.inl (fd))))))] ++ (mainW g a T1 ++ modW g am M))) := pq_adr hD (ad_app rfl (ad_app rfl (ad_app (ad_X6 _ _) (ad_X7 _ _))))
  clear hJ hk hP1 hPs hDs hS
  generalize H1 = H at hP hS1 ⊢
  have hS := hS1
  clear hS1
  refine lv_istore (lv' := [(6, .int M1.1), (5, .int (nI i)), (0, .ref b), (1, .ref (a 0)), (2, .ref (am 0)), (3, .ref b1), (4, .ref b2)]) hx hb dL_law_3101 hl (by decide) rfl (fun ls hl => ?_)
  refine lv_aload_n hx hb dL_law_3103 rfl (lv_at hl 4 rfl) ?_
  obtain ⟨hPs, hDs, hJ⟩ := pq_4y hP hD
  refine pq_lVi S (c_X7_execute l g am M bb M1 h7) vv_L_363 hK hPs hDs hS hA rfl rfl rfl rfl rfl hl.1 (Nat.le_of_ble_eq_true rfl) dL_law_3104 ⟨by decide, by decide⟩ ⟨by show cells+3 ≤ 603072; omega, by show slots+18 ≤ 7178346; omega⟩ (fun H1 locs1 hk hP1 hS1 => ?_)
  replace hP : va_P g.1 pq_cl ([(b1, .inl (g.2 3, 1, .inr (.inl ((pq_nf f (fun v => v.toInt64) o)))))] ++ ([(b2, .inl (g.2 4, 1, .inr (.inr (.inr (.inl (fd))))))] ++ (mainW g a T1 ++ modW g am M1))) H1 := hJ hk hP1
  replace hD : va_D A ([(b1, .inl (g.2 3, 1, .inr (.inl ((pq_nf f (fun v => v.toInt64) o)))))] ++ ([(b2, .inl (g.2 4, 1, .inr (.inr (.inr (.inl (fd))))))] ++ (mainW g a T1 ++ modW g am M1))) := pq_adr hD (ad_app rfl (ad_app rfl (ad_app (ad_X6 _ _) (ad_X7 _ _))))
  clear hJ hk hP1 hPs hDs hS
  generalize H1 = H at hP hS1 ⊢
  have hS := hS1
  clear hS1
  refine lv_istore (lv' := [(7, .int bb), (6, .int M1.1), (5, .int (nI i)), (0, .ref b), (1, .ref (a 0)), (2, .ref (am 0)), (3, .ref b1), (4, .ref b2)]) hx hb dL_law_3107 hl (by decide) rfl (fun ls hl => ?_)
  refine lv_aload_n hx hb dL_law_3109 rfl (lv_at hl 5 rfl) ?_
  obtain ⟨hPs, hDs, hJ⟩ := pq_4y hP hD
  refine pq_lV S (c_X7_thrown l g am M1 M1.1 rfl) vv_L_193 hK hPs rfl rfl rfl rfl rfl hl.1 (Nat.le_of_ble_eq_true rfl) dL_law_3110 ⟨by decide, by decide⟩ ⟨by show cells+3 ≤ 603072; omega, by show slots+18 ≤ 7178346; omega⟩ ?_
  clear hJ hPs hDs
  refine lv_iload hx hb dL_law_3113 (lv_at hl 1 rfl) ?_
  refine lv_icmp_eq (tgt := 3120) hx hb dL_law_3115 (by decide) (fun _ => ?_) (fun h9 => absurd rfl h9)
  refine lv_iload hx hb dL_law_3120 (lv_at hl 1 rfl) ?_
  refine lv_if_ne (tgt := 3137) hx hb dL_law_3122 (by decide) (fun h0 => ?_) (fun h0 => ?_)
  · skip
    refine lv_goto (tgt := 3417) hx hb dL_law_3137 (by decide) ?_
    exact W.widen (by omega) (by omega) (kk (pq_nf f (fun v => v.toInt64) o) fd T1 M1 H _ ls hPR1 hP hD hS (lv_sub hl [2, 3, 4, 5, 6, 7] rfl))
  · have e0 := hbb h0
    subst e0
    refine lv_aload_n hx hb dL_law_3125 rfl (lv_at hl 6 rfl) ?_
    refine lv_iconst (v := 0) hx hb dL_law_3126 (by decide) ?_
    refine va_lald hx hb hK.1 hP 0 3 rfl rfl pq_in01 dL_law_3127 ?_
    refine lv_iload hx hb dL_law_3128 (lv_at hl 0 rfl) ?_
    refine lv_i2l hx hb dL_law_3130 rfl ?_
    refine W.lcmp hx hb dL_law_3131 ?_
    refine lv_if_eq (tgt := 3137) hx hb dL_law_3132 (by decide) (fun _ => ?_) (fun h9 => absurd (pq_lcmp _) h9)
    refine lv_goto (tgt := 3417) hx hb dL_law_3137 (by decide) ?_
    exact W.widen (by omega) (by omega) (kk (pq_nf f (fun v => v.toInt64) (.inr bb)) fd T1 M1 H _ ls hPR1 hP hD hS (lv_sub hl [2, 3, 4, 5, 6, 7] rfl))
set_option maxHeartbeats 4000000 in
set_option maxRecDepth 100000 in
theorem lw_case52 {PR : MainS → ModS → Prop} (hM : pq_Ma PR) {p : Program} {l : Launch} {e : Env} {s : State} {m : MethodId} {below : List Frame} {meth : Method} {c : Code} {Q : State → Prop} {A : Nat → Prop} {b L : Nat} {xs : Nat → Int32} {g : pq_g} {a am : Nat → Nat} {b1 b2 : Nat} (hst : l.stackTraces = false) (S : CallFix p m c cL_law 9 s #[.ref b] pq_G RL) (hK : pq_K g s) (hT : pq_T A s s.heap) (hL9 : pq_L s) (hA : ∀ q : Nat, s.heap.size ≤ q → A q) (hX : va_X b L xs s s.heap) (hbl : b < s.heap.size) (hbA : ¬ A b) (hL : L ≤ 3072)
    {i : Nat} (hi : i + 6 ≤ L) {f : Nat → Int64} {fd : Nat → UInt64} {T : MainS} {M : ModS} {H : Heap} {locs : List Loc} {ls : Array Slot} {cells slots : Nat} (hPR : PR T M) (hP : va_P g.1 pq_cl ([(b1, .inl (g.2 3, 1, .inr (.inl (f))))] ++ ([(b2, .inl (g.2 4, 1, .inr (.inr (.inr (.inl (fd))))))] ++ (mainW g a T ++ modW g am M))) H) (hD : va_D A ([(b1, .inl (g.2 3, 1, .inr (.inl (f))))] ++ ([(b2, .inl (g.2 4, 1, .inr (.inr (.inr (.inl (fd))))))] ++ (mainW g a T ++ modW g am M)))) (hS : va_S A s.heap H locs) (hl : lv_has ls 9 [(5, .int (nI i)), (0, .ref b), (1, .ref (a 0)), (2, .ref (am 0)), (3, .ref b1), (4, .ref b2)]) (hc : cells ≤ 10000) (hs : slots ≤ 100000)
    (kk : ∀ (f1 : Nat → Int64) (fd1 : Nat → UInt64) (T1 : MainS) (M1 : ModS) (H1 : Heap) (locs1 : List Loc) (ls1 : Array Slot), PR T1 M1 → va_P g.1 pq_cl ([(b1, .inl (g.2 3, 1, .inr (.inl (f1))))] ++ ([(b2, .inl (g.2 4, 1, .inr (.inr (.inr (.inl (fd1))))))] ++ (mainW g a T1 ++ modW g am M1))) H1 → va_D A ([(b1, .inl (g.2 3, 1, .inr (.inl (f1))))] ++ ([(b2, .inl (g.2 4, 1, .inr (.inr (.inr (.inl (fd1))))))] ++ (mainW g a T1 ++ modW g am M1))) → va_S A s.heap H1 locs1 → lv_has ls1 9 [(5, .int (nI i)), (0, .ref b), (1, .ref (a 0)), (2, .ref (am 0)), (3, .ref b1), (4, .ref b2)] → W p l e room_1 s m #[.ref b] below meth c H1 locs1 (cells + 6) (slots + 36) Q (F0 m 3417 ls1 [])) : W p l e room_1 s m #[.ref b] below meth c H locs cells slots Q (F0 m 3140 ls []) := by
  obtain ⟨hx, hb, hml, hown, hts⟩ := id S
  obtain ⟨o, T1, bb, M1, h6, h7, hPR1, hcd, hbb⟩ := hM.syntaxErrorOffset T M hPR
  refine lv_aload_n hx hb dL_law_3140 rfl (lv_at hl 2 rfl) ?_
  refine lv_aload_n hx hb dL_law_3141 rfl (lv_at hl 4 rfl) ?_
  obtain ⟨hPs, hDs, hJ⟩ := pq_4a hP hD
  refine pq_cH S (c_L_syntaxErrorOffset l g a b1 f T hst o T1 h6 M1.1 hcd) vh_L_364 hK hT hL9 hPs hDs hS hA rfl rfl hl.1 (Nat.le_of_ble_eq_true rfl) dL_law_3142 ⟨by decide, by decide⟩ ⟨by show cells + 1 ≤ 603072; omega, by show slots + 6 ≤ 7178346; omega⟩ (fun H1 locs1 hk hP1 hS1 => ?_)
  replace hP : va_P g.1 pq_cl ([(b1, .inl (g.2 3, 1, .inr (.inl ((pq_nf f (fun v => v.toInt64) o)))))] ++ ([(b2, .inl (g.2 4, 1, .inr (.inr (.inr (.inl (fd))))))] ++ (mainW g a T1 ++ modW g am M))) H1 := hJ hk hP1
  replace hD : va_D A ([(b1, .inl (g.2 3, 1, .inr (.inl ((pq_nf f (fun v => v.toInt64) o)))))] ++ ([(b2, .inl (g.2 4, 1, .inr (.inr (.inr (.inl (fd))))))] ++ (mainW g a T1 ++ modW g am M))) := pq_adr hD (ad_app rfl (ad_app rfl (ad_app (ad_X6 _ _) (ad_X7 _ _))))
  clear hJ hk hP1 hPs hDs hS
  generalize H1 = H at hP hS1 ⊢
  have hS := hS1
  clear hS1
  refine lv_istore (lv' := [(6, .int M1.1), (5, .int (nI i)), (0, .ref b), (1, .ref (a 0)), (2, .ref (am 0)), (3, .ref b1), (4, .ref b2)]) hx hb dL_law_3145 hl (by decide) rfl (fun ls hl => ?_)
  refine lv_aload_n hx hb dL_law_3147 rfl (lv_at hl 4 rfl) ?_
  obtain ⟨hPs, hDs, hJ⟩ := pq_4y hP hD
  refine pq_lVi S (c_X7_syntaxErrorOffset l g am M bb M1 h7) vv_L_366 hK hPs hDs hS hA rfl rfl rfl rfl rfl hl.1 (Nat.le_of_ble_eq_true rfl) dL_law_3148 ⟨by decide, by decide⟩ ⟨by show cells+1 ≤ 603072; omega, by show slots+6 ≤ 7178346; omega⟩ (fun H1 locs1 hk hP1 hS1 => ?_)
  replace hP : va_P g.1 pq_cl ([(b1, .inl (g.2 3, 1, .inr (.inl ((pq_nf f (fun v => v.toInt64) o)))))] ++ ([(b2, .inl (g.2 4, 1, .inr (.inr (.inr (.inl (fd))))))] ++ (mainW g a T1 ++ modW g am M1))) H1 := hJ hk hP1
  replace hD : va_D A ([(b1, .inl (g.2 3, 1, .inr (.inl ((pq_nf f (fun v => v.toInt64) o)))))] ++ ([(b2, .inl (g.2 4, 1, .inr (.inr (.inr (.inl (fd))))))] ++ (mainW g a T1 ++ modW g am M1))) := pq_adr hD (ad_app rfl (ad_app rfl (ad_app (ad_X6 _ _) (ad_X7 _ _))))
  clear hJ hk hP1 hPs hDs hS
  generalize H1 = H at hP hS1 ⊢
  have hS := hS1
  clear hS1
  refine lv_istore (lv' := [(7, .int bb), (6, .int M1.1), (5, .int (nI i)), (0, .ref b), (1, .ref (a 0)), (2, .ref (am 0)), (3, .ref b1), (4, .ref b2)]) hx hb dL_law_3151 hl (by decide) rfl (fun ls hl => ?_)
  refine lv_aload_n hx hb dL_law_3153 rfl (lv_at hl 5 rfl) ?_
  obtain ⟨hPs, hDs, hJ⟩ := pq_4y hP hD
  refine pq_lV S (c_X7_thrown l g am M1 M1.1 rfl) vv_L_193 hK hPs rfl rfl rfl rfl rfl hl.1 (Nat.le_of_ble_eq_true rfl) dL_law_3154 ⟨by decide, by decide⟩ ⟨by show cells+1 ≤ 603072; omega, by show slots+6 ≤ 7178346; omega⟩ ?_
  clear hJ hPs hDs
  refine lv_iload hx hb dL_law_3157 (lv_at hl 1 rfl) ?_
  refine lv_icmp_eq (tgt := 3164) hx hb dL_law_3159 (by decide) (fun _ => ?_) (fun h9 => absurd rfl h9)
  refine lv_iload hx hb dL_law_3164 (lv_at hl 1 rfl) ?_
  refine lv_if_ne (tgt := 3181) hx hb dL_law_3166 (by decide) (fun h0 => ?_) (fun h0 => ?_)
  · skip
    refine lv_goto (tgt := 3417) hx hb dL_law_3181 (by decide) ?_
    exact W.widen (by omega) (by omega) (kk (pq_nf f (fun v => v.toInt64) o) fd T1 M1 H _ ls hPR1 hP hD hS (lv_sub hl [2, 3, 4, 5, 6, 7] rfl))
  · have e0 := hbb h0
    subst e0
    refine lv_aload_n hx hb dL_law_3169 rfl (lv_at hl 6 rfl) ?_
    refine lv_iconst (v := 0) hx hb dL_law_3170 (by decide) ?_
    refine va_lald hx hb hK.1 hP 0 3 rfl rfl pq_in01 dL_law_3171 ?_
    refine lv_iload hx hb dL_law_3172 (lv_at hl 0 rfl) ?_
    refine lv_i2l hx hb dL_law_3174 rfl ?_
    refine W.lcmp hx hb dL_law_3175 ?_
    refine lv_if_eq (tgt := 3181) hx hb dL_law_3176 (by decide) (fun _ => ?_) (fun h9 => absurd (pq_lcmp _) h9)
    refine lv_goto (tgt := 3417) hx hb dL_law_3181 (by decide) ?_
    exact W.widen (by omega) (by omega) (kk (pq_nf f (fun v => v.toInt64) (.inr bb)) fd T1 M1 H _ ls hPR1 hP hD hS (lv_sub hl [2, 3, 4, 5, 6, 7] rfl))
set_option maxHeartbeats 4000000 in
set_option maxRecDepth 100000 in
theorem lw_case53 {PR : MainS → ModS → Prop} (hM : pq_Ma PR) {p : Program} {l : Launch} {e : Env} {s : State} {m : MethodId} {below : List Frame} {meth : Method} {c : Code} {Q : State → Prop} {A : Nat → Prop} {b L : Nat} {xs : Nat → Int32} {g : pq_g} {a am : Nat → Nat} {b1 b2 : Nat} (hst : l.stackTraces = false) (S : CallFix p m c cL_law 9 s #[.ref b] pq_G RL) (hK : pq_K g s) (hT : pq_T A s s.heap) (hL9 : pq_L s) (hA : ∀ q : Nat, s.heap.size ≤ q → A q) (hX : va_X b L xs s s.heap) (hbl : b < s.heap.size) (hbA : ¬ A b) (hL : L ≤ 3072)
    {i : Nat} (hi : i + 6 ≤ L) {f : Nat → Int64} {fd : Nat → UInt64} {T : MainS} {M : ModS} {H : Heap} {locs : List Loc} {ls : Array Slot} {cells slots : Nat} (hPR : PR T M) (hP : va_P g.1 pq_cl ([(b1, .inl (g.2 3, 1, .inr (.inl (f))))] ++ ([(b2, .inl (g.2 4, 1, .inr (.inr (.inr (.inl (fd))))))] ++ (mainW g a T ++ modW g am M))) H) (hD : va_D A ([(b1, .inl (g.2 3, 1, .inr (.inl (f))))] ++ ([(b2, .inl (g.2 4, 1, .inr (.inr (.inr (.inl (fd))))))] ++ (mainW g a T ++ modW g am M)))) (hS : va_S A s.heap H locs) (hl : lv_has ls 9 [(5, .int (nI i)), (0, .ref b), (1, .ref (a 0)), (2, .ref (am 0)), (3, .ref b1), (4, .ref b2)]) (hc : cells ≤ 10000) (hs : slots ≤ 100000)
    (kk : ∀ (f1 : Nat → Int64) (fd1 : Nat → UInt64) (T1 : MainS) (M1 : ModS) (H1 : Heap) (locs1 : List Loc) (ls1 : Array Slot), PR T1 M1 → va_P g.1 pq_cl ([(b1, .inl (g.2 3, 1, .inr (.inl (f1))))] ++ ([(b2, .inl (g.2 4, 1, .inr (.inr (.inr (.inl (fd1))))))] ++ (mainW g a T1 ++ modW g am M1))) H1 → va_D A ([(b1, .inl (g.2 3, 1, .inr (.inl (f1))))] ++ ([(b2, .inl (g.2 4, 1, .inr (.inr (.inr (.inl (fd1))))))] ++ (mainW g a T1 ++ modW g am M1))) → va_S A s.heap H1 locs1 → lv_has ls1 9 [(5, .int (nI i)), (0, .ref b), (1, .ref (a 0)), (2, .ref (am 0)), (3, .ref b1), (4, .ref b2)] → W p l e room_1 s m #[.ref b] below meth c H1 locs1 (cells + 6) (slots + 36) Q (F0 m 3417 ls1 [])) : W p l e room_1 s m #[.ref b] below meth c H locs cells slots Q (F0 m 3184 ls []) := by
  obtain ⟨hx, hb, hml, hown, hts⟩ := id S
  obtain ⟨o, T1, bb, M1, h6, h7, hPR1, hcd, hbb⟩ := hM.rejectionReason T M hPR
  refine lv_aload_n hx hb dL_law_3184 rfl (lv_at hl 2 rfl) ?_
  refine lv_aload_n hx hb dL_law_3185 rfl (lv_at hl 4 rfl) ?_
  obtain ⟨hPs, hDs, hJ⟩ := pq_4a hP hD
  refine pq_cH S (c_L_rejectionReason l g a b1 f T hst o T1 h6 M1.1 hcd) vh_L_367 hK hT hL9 hPs hDs hS hA rfl rfl hl.1 (Nat.le_of_ble_eq_true rfl) dL_law_3186 ⟨by decide, by decide⟩ ⟨by show cells + 1 ≤ 603072; omega, by show slots + 6 ≤ 7178346; omega⟩ (fun H1 locs1 hk hP1 hS1 => ?_)
  replace hP : va_P g.1 pq_cl ([(b1, .inl (g.2 3, 1, .inr (.inl ((pq_nf f (fun v => v.toInt64) o)))))] ++ ([(b2, .inl (g.2 4, 1, .inr (.inr (.inr (.inl (fd))))))] ++ (mainW g a T1 ++ modW g am M))) H1 := hJ hk hP1
  replace hD : va_D A ([(b1, .inl (g.2 3, 1, .inr (.inl ((pq_nf f (fun v => v.toInt64) o)))))] ++ ([(b2, .inl (g.2 4, 1, .inr (.inr (.inr (.inl (fd))))))] ++ (mainW g a T1 ++ modW g am M))) := pq_adr hD (ad_app rfl (ad_app rfl (ad_app (ad_X6 _ _) (ad_X7 _ _))))
  clear hJ hk hP1 hPs hDs hS
  generalize H1 = H at hP hS1 ⊢
  have hS := hS1
  clear hS1
  refine lv_istore (lv' := [(6, .int M1.1), (5, .int (nI i)), (0, .ref b), (1, .ref (a 0)), (2, .ref (am 0)), (3, .ref b1), (4, .ref b2)]) hx hb dL_law_3189 hl (by decide) rfl (fun ls hl => ?_)
  refine lv_aload_n hx hb dL_law_3191 rfl (lv_at hl 4 rfl) ?_
  obtain ⟨hPs, hDs, hJ⟩ := pq_4y hP hD
  refine pq_lVi S (c_X7_rejectionReason l g am M bb M1 h7) vv_L_369 hK hPs hDs hS hA rfl rfl rfl rfl rfl hl.1 (Nat.le_of_ble_eq_true rfl) dL_law_3192 ⟨by decide, by decide⟩ ⟨by show cells+1 ≤ 603072; omega, by show slots+6 ≤ 7178346; omega⟩ (fun H1 locs1 hk hP1 hS1 => ?_)
  replace hP : va_P g.1 pq_cl ([(b1, .inl (g.2 3, 1, .inr (.inl ((pq_nf f (fun v => v.toInt64) o)))))] ++ ([(b2, .inl (g.2 4, 1, .inr (.inr (.inr (.inl (fd))))))] ++ (mainW g a T1 ++ modW g am M1))) H1 := hJ hk hP1
  replace hD : va_D A ([(b1, .inl (g.2 3, 1, .inr (.inl ((pq_nf f (fun v => v.toInt64) o)))))] ++ ([(b2, .inl (g.2 4, 1, .inr (.inr (.inr (.inl (fd))))))] ++ (mainW g a T1 ++ modW g am M1))) := pq_adr hD (ad_app rfl (ad_app rfl (ad_app (ad_X6 _ _) (ad_X7 _ _))))
  clear hJ hk hP1 hPs hDs hS
  generalize H1 = H at hP hS1 ⊢
  have hS := hS1
  clear hS1
  refine lv_istore (lv' := [(7, .int bb), (6, .int M1.1), (5, .int (nI i)), (0, .ref b), (1, .ref (a 0)), (2, .ref (am 0)), (3, .ref b1), (4, .ref b2)]) hx hb dL_law_3195 hl (by decide) rfl (fun ls hl => ?_)
  refine lv_aload_n hx hb dL_law_3197 rfl (lv_at hl 5 rfl) ?_
  obtain ⟨hPs, hDs, hJ⟩ := pq_4y hP hD
  refine pq_lV S (c_X7_thrown l g am M1 M1.1 rfl) vv_L_193 hK hPs rfl rfl rfl rfl rfl hl.1 (Nat.le_of_ble_eq_true rfl) dL_law_3198 ⟨by decide, by decide⟩ ⟨by show cells+1 ≤ 603072; omega, by show slots+6 ≤ 7178346; omega⟩ ?_
  clear hJ hPs hDs
  refine lv_iload hx hb dL_law_3201 (lv_at hl 1 rfl) ?_
  refine lv_icmp_eq (tgt := 3208) hx hb dL_law_3203 (by decide) (fun _ => ?_) (fun h9 => absurd rfl h9)
  refine lv_iload hx hb dL_law_3208 (lv_at hl 1 rfl) ?_
  refine lv_if_ne (tgt := 3225) hx hb dL_law_3210 (by decide) (fun h0 => ?_) (fun h0 => ?_)
  · skip
    refine lv_goto (tgt := 3417) hx hb dL_law_3225 (by decide) ?_
    exact W.widen (by omega) (by omega) (kk (pq_nf f (fun v => v.toInt64) o) fd T1 M1 H _ ls hPR1 hP hD hS (lv_sub hl [2, 3, 4, 5, 6, 7] rfl))
  · have e0 := hbb h0
    subst e0
    refine lv_aload_n hx hb dL_law_3213 rfl (lv_at hl 6 rfl) ?_
    refine lv_iconst (v := 0) hx hb dL_law_3214 (by decide) ?_
    refine va_lald hx hb hK.1 hP 0 3 rfl rfl pq_in01 dL_law_3215 ?_
    refine lv_iload hx hb dL_law_3216 (lv_at hl 0 rfl) ?_
    refine lv_i2l hx hb dL_law_3218 rfl ?_
    refine W.lcmp hx hb dL_law_3219 ?_
    refine lv_if_eq (tgt := 3225) hx hb dL_law_3220 (by decide) (fun _ => ?_) (fun h9 => absurd (pq_lcmp _) h9)
    refine lv_goto (tgt := 3417) hx hb dL_law_3225 (by decide) ?_
    exact W.widen (by omega) (by omega) (kk (pq_nf f (fun v => v.toInt64) (.inr bb)) fd T1 M1 H _ ls hPR1 hP hD hS (lv_sub hl [2, 3, 4, 5, 6, 7] rfl))
set_option maxHeartbeats 4000000 in
set_option maxRecDepth 100000 in
theorem lw_case54 {PR : MainS → ModS → Prop} (hM : pq_Ma PR) {p : Program} {l : Launch} {e : Env} {s : State} {m : MethodId} {below : List Frame} {meth : Method} {c : Code} {Q : State → Prop} {A : Nat → Prop} {b L : Nat} {xs : Nat → Int32} {g : pq_g} {a am : Nat → Nat} {b1 b2 : Nat} (hst : l.stackTraces = false) (S : CallFix p m c cL_law 9 s #[.ref b] pq_G RL) (hK : pq_K g s) (hT : pq_T A s s.heap) (hL9 : pq_L s) (hA : ∀ q : Nat, s.heap.size ≤ q → A q) (hX : va_X b L xs s s.heap) (hbl : b < s.heap.size) (hbA : ¬ A b) (hL : L ≤ 3072)
    {i : Nat} (hi : i + 6 ≤ L) {f : Nat → Int64} {fd : Nat → UInt64} {T : MainS} {M : ModS} {H : Heap} {locs : List Loc} {ls : Array Slot} {cells slots : Nat} (hPR : PR T M) (hP : va_P g.1 pq_cl ([(b1, .inl (g.2 3, 1, .inr (.inl (f))))] ++ ([(b2, .inl (g.2 4, 1, .inr (.inr (.inr (.inl (fd))))))] ++ (mainW g a T ++ modW g am M))) H) (hD : va_D A ([(b1, .inl (g.2 3, 1, .inr (.inl (f))))] ++ ([(b2, .inl (g.2 4, 1, .inr (.inr (.inr (.inl (fd))))))] ++ (mainW g a T ++ modW g am M)))) (hS : va_S A s.heap H locs) (hl : lv_has ls 9 [(5, .int (nI i)), (0, .ref b), (1, .ref (a 0)), (2, .ref (am 0)), (3, .ref b1), (4, .ref b2)]) (hc : cells ≤ 10000) (hs : slots ≤ 100000)
    (kk : ∀ (f1 : Nat → Int64) (fd1 : Nat → UInt64) (T1 : MainS) (M1 : ModS) (H1 : Heap) (locs1 : List Loc) (ls1 : Array Slot), PR T1 M1 → va_P g.1 pq_cl ([(b1, .inl (g.2 3, 1, .inr (.inl (f1))))] ++ ([(b2, .inl (g.2 4, 1, .inr (.inr (.inr (.inl (fd1))))))] ++ (mainW g a T1 ++ modW g am M1))) H1 → va_D A ([(b1, .inl (g.2 3, 1, .inr (.inl (f1))))] ++ ([(b2, .inl (g.2 4, 1, .inr (.inr (.inr (.inl (fd1))))))] ++ (mainW g a T1 ++ modW g am M1))) → va_S A s.heap H1 locs1 → lv_has ls1 9 [(5, .int (nI i)), (0, .ref b), (1, .ref (a 0)), (2, .ref (am 0)), (3, .ref b1), (4, .ref b2)] → W p l e room_1 s m #[.ref b] below meth c H1 locs1 (cells + 6) (slots + 36) Q (F0 m 3417 ls1 [])) : W p l e room_1 s m #[.ref b] below meth c H locs cells slots Q (F0 m 3228 ls []) := by
  obtain ⟨hx, hb, hml, hown, hts⟩ := id S
  obtain ⟨o, T1, bb, M1, h6, h7, hPR1, hcd, hbb⟩ := hM.rejectionDetail T M hPR
  refine lv_aload_n hx hb dL_law_3228 rfl (lv_at hl 2 rfl) ?_
  refine lv_aload_n hx hb dL_law_3229 rfl (lv_at hl 4 rfl) ?_
  obtain ⟨hPs, hDs, hJ⟩ := pq_4a hP hD
  refine pq_cH S (c_L_rejectionDetail l g a b1 f T hst o T1 h6 M1.1 hcd) vh_L_370 hK hT hL9 hPs hDs hS hA rfl rfl hl.1 (Nat.le_of_ble_eq_true rfl) dL_law_3230 ⟨by decide, by decide⟩ ⟨by show cells + 1 ≤ 603072; omega, by show slots + 6 ≤ 7178346; omega⟩ (fun H1 locs1 hk hP1 hS1 => ?_)
  replace hP : va_P g.1 pq_cl ([(b1, .inl (g.2 3, 1, .inr (.inl ((pq_nf f (fun v => v.toInt64) o)))))] ++ ([(b2, .inl (g.2 4, 1, .inr (.inr (.inr (.inl (fd))))))] ++ (mainW g a T1 ++ modW g am M))) H1 := hJ hk hP1
  replace hD : va_D A ([(b1, .inl (g.2 3, 1, .inr (.inl ((pq_nf f (fun v => v.toInt64) o)))))] ++ ([(b2, .inl (g.2 4, 1, .inr (.inr (.inr (.inl (fd))))))] ++ (mainW g a T1 ++ modW g am M))) := pq_adr hD (ad_app rfl (ad_app rfl (ad_app (ad_X6 _ _) (ad_X7 _ _))))
  clear hJ hk hP1 hPs hDs hS
  generalize H1 = H at hP hS1 ⊢
  have hS := hS1
  clear hS1
  refine lv_istore (lv' := [(6, .int M1.1), (5, .int (nI i)), (0, .ref b), (1, .ref (a 0)), (2, .ref (am 0)), (3, .ref b1), (4, .ref b2)]) hx hb dL_law_3233 hl (by decide) rfl (fun ls hl => ?_)
  refine lv_aload_n hx hb dL_law_3235 rfl (lv_at hl 4 rfl) ?_
  obtain ⟨hPs, hDs, hJ⟩ := pq_4y hP hD
  refine pq_lVi S (c_X7_rejectionDetail l g am M bb M1 h7) vv_L_372 hK hPs hDs hS hA rfl rfl rfl rfl rfl hl.1 (Nat.le_of_ble_eq_true rfl) dL_law_3236 ⟨by decide, by decide⟩ ⟨by show cells+1 ≤ 603072; omega, by show slots+6 ≤ 7178346; omega⟩ (fun H1 locs1 hk hP1 hS1 => ?_)
  replace hP : va_P g.1 pq_cl ([(b1, .inl (g.2 3, 1, .inr (.inl ((pq_nf f (fun v => v.toInt64) o)))))] ++ ([(b2, .inl (g.2 4, 1, .inr (.inr (.inr (.inl (fd))))))] ++ (mainW g a T1 ++ modW g am M1))) H1 := hJ hk hP1
  replace hD : va_D A ([(b1, .inl (g.2 3, 1, .inr (.inl ((pq_nf f (fun v => v.toInt64) o)))))] ++ ([(b2, .inl (g.2 4, 1, .inr (.inr (.inr (.inl (fd))))))] ++ (mainW g a T1 ++ modW g am M1))) := pq_adr hD (ad_app rfl (ad_app rfl (ad_app (ad_X6 _ _) (ad_X7 _ _))))
  clear hJ hk hP1 hPs hDs hS
  generalize H1 = H at hP hS1 ⊢
  have hS := hS1
  clear hS1
  refine lv_istore (lv' := [(7, .int bb), (6, .int M1.1), (5, .int (nI i)), (0, .ref b), (1, .ref (a 0)), (2, .ref (am 0)), (3, .ref b1), (4, .ref b2)]) hx hb dL_law_3239 hl (by decide) rfl (fun ls hl => ?_)
  refine lv_aload_n hx hb dL_law_3241 rfl (lv_at hl 5 rfl) ?_
  obtain ⟨hPs, hDs, hJ⟩ := pq_4y hP hD
  refine pq_lV S (c_X7_thrown l g am M1 M1.1 rfl) vv_L_193 hK hPs rfl rfl rfl rfl rfl hl.1 (Nat.le_of_ble_eq_true rfl) dL_law_3242 ⟨by decide, by decide⟩ ⟨by show cells+1 ≤ 603072; omega, by show slots+6 ≤ 7178346; omega⟩ ?_
  clear hJ hPs hDs
  refine lv_iload hx hb dL_law_3245 (lv_at hl 1 rfl) ?_
  refine lv_icmp_eq (tgt := 3252) hx hb dL_law_3247 (by decide) (fun _ => ?_) (fun h9 => absurd rfl h9)
  refine lv_iload hx hb dL_law_3252 (lv_at hl 1 rfl) ?_
  refine lv_if_ne (tgt := 3269) hx hb dL_law_3254 (by decide) (fun h0 => ?_) (fun h0 => ?_)
  · skip
    refine lv_goto (tgt := 3417) hx hb dL_law_3269 (by decide) ?_
    exact W.widen (by omega) (by omega) (kk (pq_nf f (fun v => v.toInt64) o) fd T1 M1 H _ ls hPR1 hP hD hS (lv_sub hl [2, 3, 4, 5, 6, 7] rfl))
  · have e0 := hbb h0
    subst e0
    refine lv_aload_n hx hb dL_law_3257 rfl (lv_at hl 6 rfl) ?_
    refine lv_iconst (v := 0) hx hb dL_law_3258 (by decide) ?_
    refine va_lald hx hb hK.1 hP 0 3 rfl rfl pq_in01 dL_law_3259 ?_
    refine lv_iload hx hb dL_law_3260 (lv_at hl 0 rfl) ?_
    refine lv_i2l hx hb dL_law_3262 rfl ?_
    refine W.lcmp hx hb dL_law_3263 ?_
    refine lv_if_eq (tgt := 3269) hx hb dL_law_3264 (by decide) (fun _ => ?_) (fun h9 => absurd (pq_lcmp _) h9)
    refine lv_goto (tgt := 3417) hx hb dL_law_3269 (by decide) ?_
    exact W.widen (by omega) (by omega) (kk (pq_nf f (fun v => v.toInt64) (.inr bb)) fd T1 M1 H _ ls hPR1 hP hD hS (lv_sub hl [2, 3, 4, 5, 6, 7] rfl))
set_option maxHeartbeats 4000000 in
set_option maxRecDepth 100000 in
theorem lw_case55 {PR : MainS → ModS → Prop} (hM : pq_Ma PR) {p : Program} {l : Launch} {e : Env} {s : State} {m : MethodId} {below : List Frame} {meth : Method} {c : Code} {Q : State → Prop} {A : Nat → Prop} {b L : Nat} {xs : Nat → Int32} {g : pq_g} {a am : Nat → Nat} {b1 b2 : Nat} (hst : l.stackTraces = false) (S : CallFix p m c cL_law 9 s #[.ref b] pq_G RL) (hK : pq_K g s) (hT : pq_T A s s.heap) (hL9 : pq_L s) (hA : ∀ q : Nat, s.heap.size ≤ q → A q) (hX : va_X b L xs s s.heap) (hbl : b < s.heap.size) (hbA : ¬ A b) (hL : L ≤ 3072)
    {i : Nat} (hi : i + 6 ≤ L) {f : Nat → Int64} {fd : Nat → UInt64} {T : MainS} {M : ModS} {H : Heap} {locs : List Loc} {ls : Array Slot} {cells slots : Nat} (hPR : PR T M) (hP : va_P g.1 pq_cl ([(b1, .inl (g.2 3, 1, .inr (.inl (f))))] ++ ([(b2, .inl (g.2 4, 1, .inr (.inr (.inr (.inl (fd))))))] ++ (mainW g a T ++ modW g am M))) H) (hD : va_D A ([(b1, .inl (g.2 3, 1, .inr (.inl (f))))] ++ ([(b2, .inl (g.2 4, 1, .inr (.inr (.inr (.inl (fd))))))] ++ (mainW g a T ++ modW g am M)))) (hS : va_S A s.heap H locs) (hl : lv_has ls 9 [(5, .int (nI i)), (0, .ref b), (1, .ref (a 0)), (2, .ref (am 0)), (3, .ref b1), (4, .ref b2)]) (hc : cells ≤ 10000) (hs : slots ≤ 100000)
    (kk : ∀ (f1 : Nat → Int64) (fd1 : Nat → UInt64) (T1 : MainS) (M1 : ModS) (H1 : Heap) (locs1 : List Loc) (ls1 : Array Slot), PR T1 M1 → va_P g.1 pq_cl ([(b1, .inl (g.2 3, 1, .inr (.inl (f1))))] ++ ([(b2, .inl (g.2 4, 1, .inr (.inr (.inr (.inl (fd1))))))] ++ (mainW g a T1 ++ modW g am M1))) H1 → va_D A ([(b1, .inl (g.2 3, 1, .inr (.inl (f1))))] ++ ([(b2, .inl (g.2 4, 1, .inr (.inr (.inr (.inl (fd1))))))] ++ (mainW g a T1 ++ modW g am M1))) → va_S A s.heap H1 locs1 → lv_has ls1 9 [(5, .int (nI i)), (0, .ref b), (1, .ref (a 0)), (2, .ref (am 0)), (3, .ref b1), (4, .ref b2)] → W p l e room_1 s m #[.ref b] below meth c H1 locs1 (cells + 6) (slots + 36) Q (F0 m 3417 ls1 [])) : W p l e room_1 s m #[.ref b] below meth c H locs cells slots Q (F0 m 3272 ls []) := by
  obtain ⟨hx, hb, hml, hown, hts⟩ := id S
  obtain ⟨o, T1, bb, M1, h6, h7, hPR1, hcd, hbb⟩ := hM.causeReason T M hPR
  refine lv_aload_n hx hb dL_law_3272 rfl (lv_at hl 2 rfl) ?_
  refine lv_aload_n hx hb dL_law_3273 rfl (lv_at hl 4 rfl) ?_
  obtain ⟨hPs, hDs, hJ⟩ := pq_4a hP hD
  refine pq_cH S (c_L_causeReason l g a b1 f T hst o T1 h6 M1.1 hcd) vh_L_373 hK hT hL9 hPs hDs hS hA rfl rfl hl.1 (Nat.le_of_ble_eq_true rfl) dL_law_3274 ⟨by decide, by decide⟩ ⟨by show cells + 1 ≤ 603072; omega, by show slots + 6 ≤ 7178346; omega⟩ (fun H1 locs1 hk hP1 hS1 => ?_)
  replace hP : va_P g.1 pq_cl ([(b1, .inl (g.2 3, 1, .inr (.inl ((pq_nf f (fun v => v.toInt64) o)))))] ++ ([(b2, .inl (g.2 4, 1, .inr (.inr (.inr (.inl (fd))))))] ++ (mainW g a T1 ++ modW g am M))) H1 := hJ hk hP1
  replace hD : va_D A ([(b1, .inl (g.2 3, 1, .inr (.inl ((pq_nf f (fun v => v.toInt64) o)))))] ++ ([(b2, .inl (g.2 4, 1, .inr (.inr (.inr (.inl (fd))))))] ++ (mainW g a T1 ++ modW g am M))) := pq_adr hD (ad_app rfl (ad_app rfl (ad_app (ad_X6 _ _) (ad_X7 _ _))))
  clear hJ hk hP1 hPs hDs hS
  generalize H1 = H at hP hS1 ⊢
  have hS := hS1
  clear hS1
  refine lv_istore (lv' := [(6, .int M1.1), (5, .int (nI i)), (0, .ref b), (1, .ref (a 0)), (2, .ref (am 0)), (3, .ref b1), (4, .ref b2)]) hx hb dL_law_3277 hl (by decide) rfl (fun ls hl => ?_)
  refine lv_aload_n hx hb dL_law_3279 rfl (lv_at hl 4 rfl) ?_
  obtain ⟨hPs, hDs, hJ⟩ := pq_4y hP hD
  refine pq_lVi S (c_X7_causeReason l g am M bb M1 h7) vv_L_375 hK hPs hDs hS hA rfl rfl rfl rfl rfl hl.1 (Nat.le_of_ble_eq_true rfl) dL_law_3280 ⟨by decide, by decide⟩ ⟨by show cells+1 ≤ 603072; omega, by show slots+6 ≤ 7178346; omega⟩ (fun H1 locs1 hk hP1 hS1 => ?_)
  replace hP : va_P g.1 pq_cl ([(b1, .inl (g.2 3, 1, .inr (.inl ((pq_nf f (fun v => v.toInt64) o)))))] ++ ([(b2, .inl (g.2 4, 1, .inr (.inr (.inr (.inl (fd))))))] ++ (mainW g a T1 ++ modW g am M1))) H1 := hJ hk hP1
  replace hD : va_D A ([(b1, .inl (g.2 3, 1, .inr (.inl ((pq_nf f (fun v => v.toInt64) o)))))] ++ ([(b2, .inl (g.2 4, 1, .inr (.inr (.inr (.inl (fd))))))] ++ (mainW g a T1 ++ modW g am M1))) := pq_adr hD (ad_app rfl (ad_app rfl (ad_app (ad_X6 _ _) (ad_X7 _ _))))
  clear hJ hk hP1 hPs hDs hS
  generalize H1 = H at hP hS1 ⊢
  have hS := hS1
  clear hS1
  refine lv_istore (lv' := [(7, .int bb), (6, .int M1.1), (5, .int (nI i)), (0, .ref b), (1, .ref (a 0)), (2, .ref (am 0)), (3, .ref b1), (4, .ref b2)]) hx hb dL_law_3283 hl (by decide) rfl (fun ls hl => ?_)
  refine lv_aload_n hx hb dL_law_3285 rfl (lv_at hl 5 rfl) ?_
  obtain ⟨hPs, hDs, hJ⟩ := pq_4y hP hD
  refine pq_lV S (c_X7_thrown l g am M1 M1.1 rfl) vv_L_193 hK hPs rfl rfl rfl rfl rfl hl.1 (Nat.le_of_ble_eq_true rfl) dL_law_3286 ⟨by decide, by decide⟩ ⟨by show cells+1 ≤ 603072; omega, by show slots+6 ≤ 7178346; omega⟩ ?_
  clear hJ hPs hDs
  refine lv_iload hx hb dL_law_3289 (lv_at hl 1 rfl) ?_
  refine lv_icmp_eq (tgt := 3296) hx hb dL_law_3291 (by decide) (fun _ => ?_) (fun h9 => absurd rfl h9)
  refine lv_iload hx hb dL_law_3296 (lv_at hl 1 rfl) ?_
  refine lv_if_ne (tgt := 3313) hx hb dL_law_3298 (by decide) (fun h0 => ?_) (fun h0 => ?_)
  · skip
    refine lv_goto (tgt := 3417) hx hb dL_law_3313 (by decide) ?_
    exact W.widen (by omega) (by omega) (kk (pq_nf f (fun v => v.toInt64) o) fd T1 M1 H _ ls hPR1 hP hD hS (lv_sub hl [2, 3, 4, 5, 6, 7] rfl))
  · have e0 := hbb h0
    subst e0
    refine lv_aload_n hx hb dL_law_3301 rfl (lv_at hl 6 rfl) ?_
    refine lv_iconst (v := 0) hx hb dL_law_3302 (by decide) ?_
    refine va_lald hx hb hK.1 hP 0 3 rfl rfl pq_in01 dL_law_3303 ?_
    refine lv_iload hx hb dL_law_3304 (lv_at hl 0 rfl) ?_
    refine lv_i2l hx hb dL_law_3306 rfl ?_
    refine W.lcmp hx hb dL_law_3307 ?_
    refine lv_if_eq (tgt := 3313) hx hb dL_law_3308 (by decide) (fun _ => ?_) (fun h9 => absurd (pq_lcmp _) h9)
    refine lv_goto (tgt := 3417) hx hb dL_law_3313 (by decide) ?_
    exact W.widen (by omega) (by omega) (kk (pq_nf f (fun v => v.toInt64) (.inr bb)) fd T1 M1 H _ ls hPR1 hP hD hS (lv_sub hl [2, 3, 4, 5, 6, 7] rfl))
set_option maxHeartbeats 4000000 in
set_option maxRecDepth 100000 in
theorem lw_case56 {PR : MainS → ModS → Prop} (hM : pq_Ma PR) {p : Program} {l : Launch} {e : Env} {s : State} {m : MethodId} {below : List Frame} {meth : Method} {c : Code} {Q : State → Prop} {A : Nat → Prop} {b L : Nat} {xs : Nat → Int32} {g : pq_g} {a am : Nat → Nat} {b1 b2 : Nat} (hst : l.stackTraces = false) (S : CallFix p m c cL_law 9 s #[.ref b] pq_G RL) (hK : pq_K g s) (hT : pq_T A s s.heap) (hL9 : pq_L s) (hA : ∀ q : Nat, s.heap.size ≤ q → A q) (hX : va_X b L xs s s.heap) (hbl : b < s.heap.size) (hbA : ¬ A b) (hL : L ≤ 3072)
    {i : Nat} (hi : i + 6 ≤ L) {f : Nat → Int64} {fd : Nat → UInt64} {T : MainS} {M : ModS} {H : Heap} {locs : List Loc} {ls : Array Slot} {cells slots : Nat} (hPR : PR T M) (hP : va_P g.1 pq_cl ([(b1, .inl (g.2 3, 1, .inr (.inl (f))))] ++ ([(b2, .inl (g.2 4, 1, .inr (.inr (.inr (.inl (fd))))))] ++ (mainW g a T ++ modW g am M))) H) (hD : va_D A ([(b1, .inl (g.2 3, 1, .inr (.inl (f))))] ++ ([(b2, .inl (g.2 4, 1, .inr (.inr (.inr (.inl (fd))))))] ++ (mainW g a T ++ modW g am M)))) (hS : va_S A s.heap H locs) (hl : lv_has ls 9 [(5, .int (nI i)), (0, .ref b), (1, .ref (a 0)), (2, .ref (am 0)), (3, .ref b1), (4, .ref b2)]) (hc : cells ≤ 10000) (hs : slots ≤ 100000)
    (kk : ∀ (f1 : Nat → Int64) (fd1 : Nat → UInt64) (T1 : MainS) (M1 : ModS) (H1 : Heap) (locs1 : List Loc) (ls1 : Array Slot), PR T1 M1 → va_P g.1 pq_cl ([(b1, .inl (g.2 3, 1, .inr (.inl (f1))))] ++ ([(b2, .inl (g.2 4, 1, .inr (.inr (.inr (.inl (fd1))))))] ++ (mainW g a T1 ++ modW g am M1))) H1 → va_D A ([(b1, .inl (g.2 3, 1, .inr (.inl (f1))))] ++ ([(b2, .inl (g.2 4, 1, .inr (.inr (.inr (.inl (fd1))))))] ++ (mainW g a T1 ++ modW g am M1))) → va_S A s.heap H1 locs1 → lv_has ls1 9 [(5, .int (nI i)), (0, .ref b), (1, .ref (a 0)), (2, .ref (am 0)), (3, .ref b1), (4, .ref b2)] → W p l e room_1 s m #[.ref b] below meth c H1 locs1 (cells + 6) (slots + 36) Q (F0 m 3417 ls1 [])) : W p l e room_1 s m #[.ref b] below meth c H locs cells slots Q (F0 m 3316 ls []) := by
  obtain ⟨hx, hb, hml, hown, hts⟩ := id S
  obtain ⟨o, T1, bb, M1, h6, h7, hPR1, hcd, hbb⟩ := hM.undo T M hPR
  refine lv_aload_n hx hb dL_law_3316 rfl (lv_at hl 2 rfl) ?_
  refine lv_aload_n hx hb dL_law_3317 rfl (lv_at hl 4 rfl) ?_
  obtain ⟨hPs, hDs, hJ⟩ := pq_4a hP hD
  refine pq_cH S (c_L_undo l g a b1 f T hst o T1 h6 M1.1 hcd) vh_L_376 hK hT hL9 hPs hDs hS hA rfl rfl hl.1 (Nat.le_of_ble_eq_true rfl) dL_law_3318 ⟨by decide, by decide⟩ ⟨by show cells + 1 ≤ 603072; omega, by show slots + 6 ≤ 7178346; omega⟩ (fun H1 locs1 hk hP1 hS1 => ?_)
  replace hP : va_P g.1 pq_cl ([(b1, .inl (g.2 3, 1, .inr (.inl ((pq_nf f (fun v => v.toInt64) o)))))] ++ ([(b2, .inl (g.2 4, 1, .inr (.inr (.inr (.inl (fd))))))] ++ (mainW g a T1 ++ modW g am M))) H1 := hJ hk hP1
  replace hD : va_D A ([(b1, .inl (g.2 3, 1, .inr (.inl ((pq_nf f (fun v => v.toInt64) o)))))] ++ ([(b2, .inl (g.2 4, 1, .inr (.inr (.inr (.inl (fd))))))] ++ (mainW g a T1 ++ modW g am M))) := pq_adr hD (ad_app rfl (ad_app rfl (ad_app (ad_X6 _ _) (ad_X7 _ _))))
  clear hJ hk hP1 hPs hDs hS
  generalize H1 = H at hP hS1 ⊢
  have hS := hS1
  clear hS1
  refine lv_istore (lv' := [(6, .int M1.1), (5, .int (nI i)), (0, .ref b), (1, .ref (a 0)), (2, .ref (am 0)), (3, .ref b1), (4, .ref b2)]) hx hb dL_law_3321 hl (by decide) rfl (fun ls hl => ?_)
  refine lv_aload_n hx hb dL_law_3323 rfl (lv_at hl 4 rfl) ?_
  obtain ⟨hPs, hDs, hJ⟩ := pq_4y hP hD
  refine pq_lVi S (c_X7_undo l g am M bb M1 h7) vv_L_378 hK hPs hDs hS hA rfl rfl rfl rfl rfl hl.1 (Nat.le_of_ble_eq_true rfl) dL_law_3324 ⟨by decide, by decide⟩ ⟨by show cells+1 ≤ 603072; omega, by show slots+6 ≤ 7178346; omega⟩ (fun H1 locs1 hk hP1 hS1 => ?_)
  replace hP : va_P g.1 pq_cl ([(b1, .inl (g.2 3, 1, .inr (.inl ((pq_nf f (fun v => v.toInt64) o)))))] ++ ([(b2, .inl (g.2 4, 1, .inr (.inr (.inr (.inl (fd))))))] ++ (mainW g a T1 ++ modW g am M1))) H1 := hJ hk hP1
  replace hD : va_D A ([(b1, .inl (g.2 3, 1, .inr (.inl ((pq_nf f (fun v => v.toInt64) o)))))] ++ ([(b2, .inl (g.2 4, 1, .inr (.inr (.inr (.inl (fd))))))] ++ (mainW g a T1 ++ modW g am M1))) := pq_adr hD (ad_app rfl (ad_app rfl (ad_app (ad_X6 _ _) (ad_X7 _ _))))
  clear hJ hk hP1 hPs hDs hS
  generalize H1 = H at hP hS1 ⊢
  have hS := hS1
  clear hS1
  refine lv_istore (lv' := [(7, .int bb), (6, .int M1.1), (5, .int (nI i)), (0, .ref b), (1, .ref (a 0)), (2, .ref (am 0)), (3, .ref b1), (4, .ref b2)]) hx hb dL_law_3327 hl (by decide) rfl (fun ls hl => ?_)
  refine lv_aload_n hx hb dL_law_3329 rfl (lv_at hl 5 rfl) ?_
  obtain ⟨hPs, hDs, hJ⟩ := pq_4y hP hD
  refine pq_lV S (c_X7_thrown l g am M1 M1.1 rfl) vv_L_193 hK hPs rfl rfl rfl rfl rfl hl.1 (Nat.le_of_ble_eq_true rfl) dL_law_3330 ⟨by decide, by decide⟩ ⟨by show cells+1 ≤ 603072; omega, by show slots+6 ≤ 7178346; omega⟩ ?_
  clear hJ hPs hDs
  refine lv_iload hx hb dL_law_3333 (lv_at hl 1 rfl) ?_
  refine lv_icmp_eq (tgt := 3340) hx hb dL_law_3335 (by decide) (fun _ => ?_) (fun h9 => absurd rfl h9)
  refine lv_iload hx hb dL_law_3340 (lv_at hl 1 rfl) ?_
  refine lv_if_ne (tgt := 3357) hx hb dL_law_3342 (by decide) (fun h0 => ?_) (fun h0 => ?_)
  · skip
    refine lv_goto (tgt := 3417) hx hb dL_law_3357 (by decide) ?_
    exact W.widen (by omega) (by omega) (kk (pq_nf f (fun v => v.toInt64) o) fd T1 M1 H _ ls hPR1 hP hD hS (lv_sub hl [2, 3, 4, 5, 6, 7] rfl))
  · have e0 := hbb h0
    subst e0
    refine lv_aload_n hx hb dL_law_3345 rfl (lv_at hl 6 rfl) ?_
    refine lv_iconst (v := 0) hx hb dL_law_3346 (by decide) ?_
    refine va_lald hx hb hK.1 hP 0 3 rfl rfl pq_in01 dL_law_3347 ?_
    refine lv_iload hx hb dL_law_3348 (lv_at hl 0 rfl) ?_
    refine lv_i2l hx hb dL_law_3350 rfl ?_
    refine W.lcmp hx hb dL_law_3351 ?_
    refine lv_if_eq (tgt := 3357) hx hb dL_law_3352 (by decide) (fun _ => ?_) (fun h9 => absurd (pq_lcmp _) h9)
    refine lv_goto (tgt := 3417) hx hb dL_law_3357 (by decide) ?_
    exact W.widen (by omega) (by omega) (kk (pq_nf f (fun v => v.toInt64) (.inr bb)) fd T1 M1 H _ ls hPR1 hP hD hS (lv_sub hl [2, 3, 4, 5, 6, 7] rfl))
set_option maxHeartbeats 4000000 in
set_option maxRecDepth 100000 in
theorem lw_case57 {PR : MainS → ModS → Prop} (hM : pq_Ma PR) {p : Program} {l : Launch} {e : Env} {s : State} {m : MethodId} {below : List Frame} {meth : Method} {c : Code} {Q : State → Prop} {A : Nat → Prop} {b L : Nat} {xs : Nat → Int32} {g : pq_g} {a am : Nat → Nat} {b1 b2 : Nat} (hst : l.stackTraces = false) (S : CallFix p m c cL_law 9 s #[.ref b] pq_G RL) (hK : pq_K g s) (hT : pq_T A s s.heap) (hL9 : pq_L s) (hA : ∀ q : Nat, s.heap.size ≤ q → A q) (hX : va_X b L xs s s.heap) (hbl : b < s.heap.size) (hbA : ¬ A b) (hL : L ≤ 3072)
    {i : Nat} (hi : i + 6 ≤ L) {f : Nat → Int64} {fd : Nat → UInt64} {T : MainS} {M : ModS} {H : Heap} {locs : List Loc} {ls : Array Slot} {cells slots : Nat} (hPR : PR T M) (hP : va_P g.1 pq_cl ([(b1, .inl (g.2 3, 1, .inr (.inl (f))))] ++ ([(b2, .inl (g.2 4, 1, .inr (.inr (.inr (.inl (fd))))))] ++ (mainW g a T ++ modW g am M))) H) (hD : va_D A ([(b1, .inl (g.2 3, 1, .inr (.inl (f))))] ++ ([(b2, .inl (g.2 4, 1, .inr (.inr (.inr (.inl (fd))))))] ++ (mainW g a T ++ modW g am M)))) (hS : va_S A s.heap H locs) (hl : lv_has ls 9 [(5, .int (nI i)), (0, .ref b), (1, .ref (a 0)), (2, .ref (am 0)), (3, .ref b1), (4, .ref b2)]) (hc : cells ≤ 10000) (hs : slots ≤ 100000)
    (kk : ∀ (f1 : Nat → Int64) (fd1 : Nat → UInt64) (T1 : MainS) (M1 : ModS) (H1 : Heap) (locs1 : List Loc) (ls1 : Array Slot), PR T1 M1 → va_P g.1 pq_cl ([(b1, .inl (g.2 3, 1, .inr (.inl (f1))))] ++ ([(b2, .inl (g.2 4, 1, .inr (.inr (.inr (.inl (fd1))))))] ++ (mainW g a T1 ++ modW g am M1))) H1 → va_D A ([(b1, .inl (g.2 3, 1, .inr (.inl (f1))))] ++ ([(b2, .inl (g.2 4, 1, .inr (.inr (.inr (.inl (fd1))))))] ++ (mainW g a T1 ++ modW g am M1))) → va_S A s.heap H1 locs1 → lv_has ls1 9 [(5, .int (nI i)), (0, .ref b), (1, .ref (a 0)), (2, .ref (am 0)), (3, .ref b1), (4, .ref b2)] → W p l e room_1 s m #[.ref b] below meth c H1 locs1 (cells + 6) (slots + 36) Q (F0 m 3417 ls1 [])) : W p l e room_1 s m #[.ref b] below meth c H locs cells slots Q (F0 m 3360 ls []) := by
  obtain ⟨hx, hb, hml, hown, hts⟩ := id S
  obtain ⟨bb, T1, M1, h6, h7, hPR1⟩ := hM.saveSnapshot T M hPR
  refine lv_aload_n hx hb dL_law_3360 rfl (lv_at hl 2 rfl) ?_
  obtain ⟨hPs, hDs, hJ⟩ := pq_4x hP hD
  refine pq_lVi S (c_X6_saveSnapshot l g a T bb T1 h6) vv_L_379 hK hPs hDs hS hA rfl rfl rfl rfl rfl hl.1 (Nat.le_of_ble_eq_true rfl) dL_law_3361 ⟨by decide, by decide⟩ ⟨by show cells ≤ 603072; omega, by show slots ≤ 7178346; omega⟩ (fun H1 locs1 hk hP1 hS1 => ?_)
  replace hP : va_P g.1 pq_cl ([(b1, .inl (g.2 3, 1, .inr (.inl (f))))] ++ ([(b2, .inl (g.2 4, 1, .inr (.inr (.inr (.inl (fd))))))] ++ (mainW g a T1 ++ modW g am M))) H1 := hJ hk hP1
  replace hD : va_D A ([(b1, .inl (g.2 3, 1, .inr (.inl (f))))] ++ ([(b2, .inl (g.2 4, 1, .inr (.inr (.inr (.inl (fd))))))] ++ (mainW g a T1 ++ modW g am M))) := pq_adr hD (ad_app rfl (ad_app rfl (ad_app (ad_X6 _ _) (ad_X7 _ _))))
  clear hJ hk hP1 hPs hDs hS
  generalize H1 = H at hP hS1 ⊢
  have hS := hS1
  clear hS1
  refine lv_aload_n hx hb dL_law_3364 rfl (lv_at hl 3 rfl) ?_
  obtain ⟨hPs, hDs, hJ⟩ := pq_4y hP hD
  refine pq_lVi S (c_X7_saveSnapshot l g am M bb M1 h7) vv_L_382 hK hPs hDs hS hA rfl rfl rfl rfl rfl hl.1 (Nat.le_of_ble_eq_true rfl) dL_law_3365 ⟨by decide, by decide⟩ ⟨by show cells ≤ 603072; omega, by show slots ≤ 7178346; omega⟩ (fun H1 locs1 hk hP1 hS1 => ?_)
  replace hP : va_P g.1 pq_cl ([(b1, .inl (g.2 3, 1, .inr (.inl (f))))] ++ ([(b2, .inl (g.2 4, 1, .inr (.inr (.inr (.inl (fd))))))] ++ (mainW g a T1 ++ modW g am M1))) H1 := hJ hk hP1
  replace hD : va_D A ([(b1, .inl (g.2 3, 1, .inr (.inl (f))))] ++ ([(b2, .inl (g.2 4, 1, .inr (.inr (.inr (.inl (fd))))))] ++ (mainW g a T1 ++ modW g am M1))) := pq_adr hD (ad_app rfl (ad_app rfl (ad_app (ad_X6 _ _) (ad_X7 _ _))))
  clear hJ hk hP1 hPs hDs hS
  generalize H1 = H at hP hS1 ⊢
  have hS := hS1
  clear hS1
  refine lv_icmp_eq (tgt := 3417) hx hb dL_law_3368 (by decide) (fun _ => ?_) (fun h9 => absurd rfl h9)
  exact W.widen (by omega) (by omega) (kk f fd T1 M1 H _ ls hPR1 hP hD hS (lv_sub hl [0, 1, 2, 3, 4, 5] rfl))
set_option maxHeartbeats 4000000 in
set_option maxRecDepth 100000 in
theorem lw_case58 {PR : MainS → ModS → Prop} (hM : pq_Ma PR) {p : Program} {l : Launch} {e : Env} {s : State} {m : MethodId} {below : List Frame} {meth : Method} {c : Code} {Q : State → Prop} {A : Nat → Prop} {b L : Nat} {xs : Nat → Int32} {g : pq_g} {a am : Nat → Nat} {b1 b2 : Nat} (hst : l.stackTraces = false) (S : CallFix p m c cL_law 9 s #[.ref b] pq_G RL) (hK : pq_K g s) (hT : pq_T A s s.heap) (hL9 : pq_L s) (hA : ∀ q : Nat, s.heap.size ≤ q → A q) (hX : va_X b L xs s s.heap) (hbl : b < s.heap.size) (hbA : ¬ A b) (hL : L ≤ 3072)
    {i : Nat} (hi : i + 6 ≤ L) {f : Nat → Int64} {fd : Nat → UInt64} {T : MainS} {M : ModS} {H : Heap} {locs : List Loc} {ls : Array Slot} {cells slots : Nat} (hPR : PR T M) (hP : va_P g.1 pq_cl ([(b1, .inl (g.2 3, 1, .inr (.inl (f))))] ++ ([(b2, .inl (g.2 4, 1, .inr (.inr (.inr (.inl (fd))))))] ++ (mainW g a T ++ modW g am M))) H) (hD : va_D A ([(b1, .inl (g.2 3, 1, .inr (.inl (f))))] ++ ([(b2, .inl (g.2 4, 1, .inr (.inr (.inr (.inl (fd))))))] ++ (mainW g a T ++ modW g am M)))) (hS : va_S A s.heap H locs) (hl : lv_has ls 9 [(5, .int (nI i)), (0, .ref b), (1, .ref (a 0)), (2, .ref (am 0)), (3, .ref b1), (4, .ref b2)]) (hc : cells ≤ 10000) (hs : slots ≤ 100000)
    (kk : ∀ (f1 : Nat → Int64) (fd1 : Nat → UInt64) (T1 : MainS) (M1 : ModS) (H1 : Heap) (locs1 : List Loc) (ls1 : Array Slot), PR T1 M1 → va_P g.1 pq_cl ([(b1, .inl (g.2 3, 1, .inr (.inl (f1))))] ++ ([(b2, .inl (g.2 4, 1, .inr (.inr (.inr (.inl (fd1))))))] ++ (mainW g a T1 ++ modW g am M1))) H1 → va_D A ([(b1, .inl (g.2 3, 1, .inr (.inl (f1))))] ++ ([(b2, .inl (g.2 4, 1, .inr (.inr (.inr (.inl (fd1))))))] ++ (mainW g a T1 ++ modW g am M1))) → va_S A s.heap H1 locs1 → lv_has ls1 9 [(5, .int (nI i)), (0, .ref b), (1, .ref (a 0)), (2, .ref (am 0)), (3, .ref b1), (4, .ref b2)] → W p l e room_1 s m #[.ref b] below meth c H1 locs1 (cells + 6) (slots + 36) Q (F0 m 3417 ls1 [])) : W p l e room_1 s m #[.ref b] below meth c H locs cells slots Q (F0 m 3373 ls []) := by
  obtain ⟨hx, hb, hml, hown, hts⟩ := id S
  obtain ⟨o, T1, bb, M1, h6, h7, hPR1, hcd, hbb⟩ := hM.restoreSnapshot T M hPR
  refine lv_aload_n hx hb dL_law_3373 rfl (lv_at hl 2 rfl) ?_
  refine lv_aload_n hx hb dL_law_3374 rfl (lv_at hl 4 rfl) ?_
  obtain ⟨hPs, hDs, hJ⟩ := pq_4a hP hD
  refine pq_cH S (c_L_restoreSnapshot l g a b1 f T hst o T1 h6 M1.1 hcd) vh_L_383 hK hT hL9 hPs hDs hS hA rfl rfl hl.1 (Nat.le_of_ble_eq_true rfl) dL_law_3375 ⟨by decide, by decide⟩ ⟨by show cells + 1 ≤ 603072; omega, by show slots + 6 ≤ 7178346; omega⟩ (fun H1 locs1 hk hP1 hS1 => ?_)
  replace hP : va_P g.1 pq_cl ([(b1, .inl (g.2 3, 1, .inr (.inl ((pq_nf f (fun v => v.toInt64) o)))))] ++ ([(b2, .inl (g.2 4, 1, .inr (.inr (.inr (.inl (fd))))))] ++ (mainW g a T1 ++ modW g am M))) H1 := hJ hk hP1
  replace hD : va_D A ([(b1, .inl (g.2 3, 1, .inr (.inl ((pq_nf f (fun v => v.toInt64) o)))))] ++ ([(b2, .inl (g.2 4, 1, .inr (.inr (.inr (.inl (fd))))))] ++ (mainW g a T1 ++ modW g am M))) := pq_adr hD (ad_app rfl (ad_app rfl (ad_app (ad_X6 _ _) (ad_X7 _ _))))
  clear hJ hk hP1 hPs hDs hS
  generalize H1 = H at hP hS1 ⊢
  have hS := hS1
  clear hS1
  refine lv_istore (lv' := [(6, .int M1.1), (5, .int (nI i)), (0, .ref b), (1, .ref (a 0)), (2, .ref (am 0)), (3, .ref b1), (4, .ref b2)]) hx hb dL_law_3378 hl (by decide) rfl (fun ls hl => ?_)
  refine lv_aload_n hx hb dL_law_3380 rfl (lv_at hl 4 rfl) ?_
  obtain ⟨hPs, hDs, hJ⟩ := pq_4y hP hD
  refine pq_lVi S (c_X7_restoreSnapshot l g am M bb M1 h7) vv_L_385 hK hPs hDs hS hA rfl rfl rfl rfl rfl hl.1 (Nat.le_of_ble_eq_true rfl) dL_law_3381 ⟨by decide, by decide⟩ ⟨by show cells+1 ≤ 603072; omega, by show slots+6 ≤ 7178346; omega⟩ (fun H1 locs1 hk hP1 hS1 => ?_)
  replace hP : va_P g.1 pq_cl ([(b1, .inl (g.2 3, 1, .inr (.inl ((pq_nf f (fun v => v.toInt64) o)))))] ++ ([(b2, .inl (g.2 4, 1, .inr (.inr (.inr (.inl (fd))))))] ++ (mainW g a T1 ++ modW g am M1))) H1 := hJ hk hP1
  replace hD : va_D A ([(b1, .inl (g.2 3, 1, .inr (.inl ((pq_nf f (fun v => v.toInt64) o)))))] ++ ([(b2, .inl (g.2 4, 1, .inr (.inr (.inr (.inl (fd))))))] ++ (mainW g a T1 ++ modW g am M1))) := pq_adr hD (ad_app rfl (ad_app rfl (ad_app (ad_X6 _ _) (ad_X7 _ _))))
  clear hJ hk hP1 hPs hDs hS
  generalize H1 = H at hP hS1 ⊢
  have hS := hS1
  clear hS1
  refine lv_istore (lv' := [(7, .int bb), (6, .int M1.1), (5, .int (nI i)), (0, .ref b), (1, .ref (a 0)), (2, .ref (am 0)), (3, .ref b1), (4, .ref b2)]) hx hb dL_law_3384 hl (by decide) rfl (fun ls hl => ?_)
  refine lv_aload_n hx hb dL_law_3386 rfl (lv_at hl 5 rfl) ?_
  obtain ⟨hPs, hDs, hJ⟩ := pq_4y hP hD
  refine pq_lV S (c_X7_thrown l g am M1 M1.1 rfl) vv_L_193 hK hPs rfl rfl rfl rfl rfl hl.1 (Nat.le_of_ble_eq_true rfl) dL_law_3387 ⟨by decide, by decide⟩ ⟨by show cells+1 ≤ 603072; omega, by show slots+6 ≤ 7178346; omega⟩ ?_
  clear hJ hPs hDs
  refine lv_iload hx hb dL_law_3390 (lv_at hl 1 rfl) ?_
  refine lv_icmp_eq (tgt := 3397) hx hb dL_law_3392 (by decide) (fun _ => ?_) (fun h9 => absurd rfl h9)
  refine lv_iload hx hb dL_law_3397 (lv_at hl 1 rfl) ?_
  refine lv_if_ne (tgt := 3414) hx hb dL_law_3399 (by decide) (fun h0 => ?_) (fun h0 => ?_)
  · skip
    refine lv_goto (tgt := 3417) hx hb dL_law_3414 (by decide) ?_
    exact W.widen (by omega) (by omega) (kk (pq_nf f (fun v => v.toInt64) o) fd T1 M1 H _ ls hPR1 hP hD hS (lv_sub hl [2, 3, 4, 5, 6, 7] rfl))
  · have e0 := hbb h0
    subst e0
    refine lv_aload_n hx hb dL_law_3402 rfl (lv_at hl 6 rfl) ?_
    refine lv_iconst (v := 0) hx hb dL_law_3403 (by decide) ?_
    refine va_lald hx hb hK.1 hP 0 3 rfl rfl pq_in01 dL_law_3404 ?_
    refine lv_iload hx hb dL_law_3405 (lv_at hl 0 rfl) ?_
    refine lv_i2l hx hb dL_law_3407 rfl ?_
    refine W.lcmp hx hb dL_law_3408 ?_
    refine lv_if_eq (tgt := 3414) hx hb dL_law_3409 (by decide) (fun _ => ?_) (fun h9 => absurd (pq_lcmp _) h9)
    refine lv_goto (tgt := 3417) hx hb dL_law_3414 (by decide) ?_
    exact W.widen (by omega) (by omega) (kk (pq_nf f (fun v => v.toInt64) (.inr bb)) fd T1 M1 H _ ls hPR1 hP hD hS (lv_sub hl [2, 3, 4, 5, 6, 7] rfl))
