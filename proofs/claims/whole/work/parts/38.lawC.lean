set_option maxHeartbeats 4000000 in
set_option maxRecDepth 100000 in
theorem lw_case15 {PR : MainS → ModS → Prop} (hM : pq_Ma PR) {p : Program} {l : Launch} {e : Env} {s : State} {m : MethodId} {below : List Frame} {meth : Method} {c : Code} {Q : State → Prop} {A : Nat → Prop} {b L : Nat} {xs : Nat → Int32} {g : pq_g} {a am : Nat → Nat} {b1 b2 : Nat} (hst : l.stackTraces = false) (S : CallFix p m c cL_law 9 s #[.ref b] pq_G RL) (hK : pq_K g s) (hT : pq_T A s s.heap) (hL9 : pq_L s) (hA : ∀ q : Nat, s.heap.size ≤ q → A q) (hX : va_X b L xs s s.heap) (hbl : b < s.heap.size) (hbA : ¬ A b) (hL : L ≤ 3072)
    {i : Nat} (hi : i + 6 ≤ L) {f : Nat → Int64} {fd : Nat → UInt64} {T : MainS} {M : ModS} {H : Heap} {locs : List Loc} {ls : Array Slot} {cells slots : Nat} (hPR : PR T M) (hP : va_P g.1 pq_cl ([(b1, .inl (g.2 3, 1, .inr (.inl (f))))] ++ ([(b2, .inl (g.2 4, 1, .inr (.inr (.inr (.inl (fd))))))] ++ (mainW g a T ++ modW g am M))) H) (hD : va_D A ([(b1, .inl (g.2 3, 1, .inr (.inl (f))))] ++ ([(b2, .inl (g.2 4, 1, .inr (.inr (.inr (.inl (fd))))))] ++ (mainW g a T ++ modW g am M)))) (hS : va_S A s.heap H locs) (hl : lv_has ls 9 [(5, .int (nI i)), (0, .ref b), (1, .ref (a 0)), (2, .ref (am 0)), (3, .ref b1), (4, .ref b2)]) (hc : cells ≤ 10000) (hs : slots ≤ 100000)
    (kk : ∀ (f1 : Nat → Int64) (fd1 : Nat → UInt64) (T1 : MainS) (M1 : ModS) (H1 : Heap) (locs1 : List Loc) (ls1 : Array Slot), PR T1 M1 → va_P g.1 pq_cl ([(b1, .inl (g.2 3, 1, .inr (.inl (f1))))] ++ ([(b2, .inl (g.2 4, 1, .inr (.inr (.inr (.inl (fd1))))))] ++ (mainW g a T1 ++ modW g am M1))) H1 → va_D A ([(b1, .inl (g.2 3, 1, .inr (.inl (f1))))] ++ ([(b2, .inl (g.2 4, 1, .inr (.inr (.inr (.inl (fd1))))))] ++ (mainW g a T1 ++ modW g am M1))) → va_S A s.heap H1 locs1 → lv_has ls1 9 [(5, .int (nI i)), (0, .ref b), (1, .ref (a 0)), (2, .ref (am 0)), (3, .ref b1), (4, .ref b2)] → W p l e room_1 s m #[.ref b] below meth c H1 locs1 (cells + 6) (slots + 36) Q (F0 m 3417 ls1 [])) : W p l e room_1 s m #[.ref b] below meth c H locs cells slots Q (F0 m 1055 ls []) := by
  obtain ⟨hx, hb, hml, hown, hts⟩ := id S
  obtain ⟨o, T1, bb, M1, h6, h7, hPR1, hcd, hbb⟩ := hM.keyByPriority T M (xs (i + 1)) hPR
  refine lv_aload_n hx hb dL_law_1055 rfl (lv_at hl 2 rfl) ?_
  refine lv_aload_n hx hb dL_law_1056 rfl (lv_at hl 1 rfl) ?_
  refine lv_iload hx hb dL_law_1057 (lv_at hl 0 rfl) ?_
  refine lv_iconst (v := 1) hx hb dL_law_1059 (by decide) ?_
  refine lv_iadd hx hb dL_law_1060 ?_
  refine pq_sld hx hb hX hbl hbA hS (j := 1) (show i + 1 < L by omega) (by omega) (by decide) dL_law_1061 ?_
  refine lv_aload_n hx hb dL_law_1062 rfl (lv_at hl 4 rfl) ?_
  obtain ⟨hPs, hDs, hJ⟩ := pq_4a hP hD
  refine pq_cH S (c_L_keyByPriority l g a b1 f T (xs (i + 1)) hst o T1 h6 M1.1 hcd) vh_L_243 hK hT hL9 hPs hDs hS hA rfl rfl hl.1 (Nat.le_of_ble_eq_true rfl) dL_law_1063 ⟨by decide, by decide⟩ ⟨by show cells + 1 ≤ 603072; omega, by show slots + 6 ≤ 7178346; omega⟩ (fun H1 locs1 hk hP1 hS1 => ?_)
  replace hP : va_P g.1 pq_cl ([(b1, .inl (g.2 3, 1, .inr (.inl ((pq_nf f (fun v => v.toInt64) o)))))] ++ ([(b2, .inl (g.2 4, 1, .inr (.inr (.inr (.inl (fd))))))] ++ (mainW g a T1 ++ modW g am M))) H1 := hJ hk hP1
  replace hD : va_D A ([(b1, .inl (g.2 3, 1, .inr (.inl ((pq_nf f (fun v => v.toInt64) o)))))] ++ ([(b2, .inl (g.2 4, 1, .inr (.inr (.inr (.inl (fd))))))] ++ (mainW g a T1 ++ modW g am M))) := pq_adr hD (ad_app rfl (ad_app rfl (ad_app (ad_X6 _ _) (ad_X7 _ _))))
  clear hJ hk hP1 hPs hDs hS
  generalize H1 = H at hP hS1 ⊢
  have hS := hS1
  clear hS1
  refine lv_istore (lv' := [(6, .int M1.1), (5, .int (nI i)), (0, .ref b), (1, .ref (a 0)), (2, .ref (am 0)), (3, .ref b1), (4, .ref b2)]) hx hb dL_law_1066 hl (by decide) rfl (fun ls hl => ?_)
  refine lv_aload_n hx hb dL_law_1068 rfl (lv_at hl 4 rfl) ?_
  refine lv_aload_n hx hb dL_law_1069 rfl (lv_at hl 2 rfl) ?_
  refine lv_iload hx hb dL_law_1070 (lv_at hl 1 rfl) ?_
  refine lv_iconst (v := 1) hx hb dL_law_1072 (by decide) ?_
  refine lv_iadd hx hb dL_law_1073 ?_
  refine pq_sld hx hb hX hbl hbA hS (j := 1) (show i + 1 < L by omega) (by omega) (by decide) dL_law_1074 ?_
  obtain ⟨hPs, hDs, hJ⟩ := pq_4y hP hD
  refine pq_lVi S (c_X7_keyByPriority l g am M (xs (i + 1)) bb M1 h7) vv_L_245 hK hPs hDs hS hA rfl rfl rfl rfl rfl hl.1 (Nat.le_of_ble_eq_true rfl) dL_law_1075 ⟨by decide, by decide⟩ ⟨by show cells+1 ≤ 603072; omega, by show slots+6 ≤ 7178346; omega⟩ (fun H1 locs1 hk hP1 hS1 => ?_)
  replace hP : va_P g.1 pq_cl ([(b1, .inl (g.2 3, 1, .inr (.inl ((pq_nf f (fun v => v.toInt64) o)))))] ++ ([(b2, .inl (g.2 4, 1, .inr (.inr (.inr (.inl (fd))))))] ++ (mainW g a T1 ++ modW g am M1))) H1 := hJ hk hP1
  replace hD : va_D A ([(b1, .inl (g.2 3, 1, .inr (.inl ((pq_nf f (fun v => v.toInt64) o)))))] ++ ([(b2, .inl (g.2 4, 1, .inr (.inr (.inr (.inl (fd))))))] ++ (mainW g a T1 ++ modW g am M1))) := pq_adr hD (ad_app rfl (ad_app rfl (ad_app (ad_X6 _ _) (ad_X7 _ _))))
  clear hJ hk hP1 hPs hDs hS
  generalize H1 = H at hP hS1 ⊢
  have hS := hS1
  clear hS1
  refine lv_istore (lv' := [(7, .int bb), (6, .int M1.1), (5, .int (nI i)), (0, .ref b), (1, .ref (a 0)), (2, .ref (am 0)), (3, .ref b1), (4, .ref b2)]) hx hb dL_law_1078 hl (by decide) rfl (fun ls hl => ?_)
  refine lv_aload_n hx hb dL_law_1080 rfl (lv_at hl 5 rfl) ?_
  obtain ⟨hPs, hDs, hJ⟩ := pq_4y hP hD
  refine pq_lV S (c_X7_thrown l g am M1 M1.1 rfl) vv_L_193 hK hPs rfl rfl rfl rfl rfl hl.1 (Nat.le_of_ble_eq_true rfl) dL_law_1081 ⟨by decide, by decide⟩ ⟨by show cells+1 ≤ 603072; omega, by show slots+6 ≤ 7178346; omega⟩ ?_
  clear hJ hPs hDs
  refine lv_iload hx hb dL_law_1084 (lv_at hl 1 rfl) ?_
  refine lv_icmp_eq (tgt := 1091) hx hb dL_law_1086 (by decide) (fun _ => ?_) (fun h9 => absurd rfl h9)
  refine lv_iload hx hb dL_law_1091 (lv_at hl 1 rfl) ?_
  refine lv_if_ne (tgt := 1108) hx hb dL_law_1093 (by decide) (fun h0 => ?_) (fun h0 => ?_)
  · skip
    refine lv_goto (tgt := 3417) hx hb dL_law_1108 (by decide) ?_
    exact W.widen (by omega) (by omega) (kk (pq_nf f (fun v => v.toInt64) o) fd T1 M1 H _ ls hPR1 hP hD hS (lv_sub hl [2, 3, 4, 5, 6, 7] rfl))
  · have e0 := hbb h0
    subst e0
    refine lv_aload_n hx hb dL_law_1096 rfl (lv_at hl 6 rfl) ?_
    refine lv_iconst (v := 0) hx hb dL_law_1097 (by decide) ?_
    refine va_lald hx hb hK.1 hP 0 3 rfl rfl pq_in01 dL_law_1098 ?_
    refine lv_iload hx hb dL_law_1099 (lv_at hl 0 rfl) ?_
    refine lv_i2l hx hb dL_law_1101 rfl ?_
    refine W.lcmp hx hb dL_law_1102 ?_
    refine lv_if_eq (tgt := 1108) hx hb dL_law_1103 (by decide) (fun _ => ?_) (fun h9 => absurd (pq_lcmp _) h9)
    refine lv_goto (tgt := 3417) hx hb dL_law_1108 (by decide) ?_
    exact W.widen (by omega) (by omega) (kk (pq_nf f (fun v => v.toInt64) (.inr bb)) fd T1 M1 H _ ls hPR1 hP hD hS (lv_sub hl [2, 3, 4, 5, 6, 7] rfl))
set_option maxHeartbeats 4000000 in
set_option maxRecDepth 100000 in
theorem lw_case16 {PR : MainS → ModS → Prop} (hM : pq_Ma PR) {p : Program} {l : Launch} {e : Env} {s : State} {m : MethodId} {below : List Frame} {meth : Method} {c : Code} {Q : State → Prop} {A : Nat → Prop} {b L : Nat} {xs : Nat → Int32} {g : pq_g} {a am : Nat → Nat} {b1 b2 : Nat} (hst : l.stackTraces = false) (S : CallFix p m c cL_law 9 s #[.ref b] pq_G RL) (hK : pq_K g s) (hT : pq_T A s s.heap) (hL9 : pq_L s) (hA : ∀ q : Nat, s.heap.size ≤ q → A q) (hX : va_X b L xs s s.heap) (hbl : b < s.heap.size) (hbA : ¬ A b) (hL : L ≤ 3072)
    {i : Nat} (hi : i + 6 ≤ L) {f : Nat → Int64} {fd : Nat → UInt64} {T : MainS} {M : ModS} {H : Heap} {locs : List Loc} {ls : Array Slot} {cells slots : Nat} (hPR : PR T M) (hP : va_P g.1 pq_cl ([(b1, .inl (g.2 3, 1, .inr (.inl (f))))] ++ ([(b2, .inl (g.2 4, 1, .inr (.inr (.inr (.inl (fd))))))] ++ (mainW g a T ++ modW g am M))) H) (hD : va_D A ([(b1, .inl (g.2 3, 1, .inr (.inl (f))))] ++ ([(b2, .inl (g.2 4, 1, .inr (.inr (.inr (.inl (fd))))))] ++ (mainW g a T ++ modW g am M)))) (hS : va_S A s.heap H locs) (hl : lv_has ls 9 [(5, .int (nI i)), (0, .ref b), (1, .ref (a 0)), (2, .ref (am 0)), (3, .ref b1), (4, .ref b2)]) (hc : cells ≤ 10000) (hs : slots ≤ 100000)
    (kk : ∀ (f1 : Nat → Int64) (fd1 : Nat → UInt64) (T1 : MainS) (M1 : ModS) (H1 : Heap) (locs1 : List Loc) (ls1 : Array Slot), PR T1 M1 → va_P g.1 pq_cl ([(b1, .inl (g.2 3, 1, .inr (.inl (f1))))] ++ ([(b2, .inl (g.2 4, 1, .inr (.inr (.inr (.inl (fd1))))))] ++ (mainW g a T1 ++ modW g am M1))) H1 → va_D A ([(b1, .inl (g.2 3, 1, .inr (.inl (f1))))] ++ ([(b2, .inl (g.2 4, 1, .inr (.inr (.inr (.inl (fd1))))))] ++ (mainW g a T1 ++ modW g am M1))) → va_S A s.heap H1 locs1 → lv_has ls1 9 [(5, .int (nI i)), (0, .ref b), (1, .ref (a 0)), (2, .ref (am 0)), (3, .ref b1), (4, .ref b2)] → W p l e room_1 s m #[.ref b] below meth c H1 locs1 (cells + 6) (slots + 36) Q (F0 m 3417 ls1 [])) : W p l e room_1 s m #[.ref b] below meth c H locs cells slots Q (F0 m 1111 ls []) := by
  obtain ⟨hx, hb, hml, hown, hts⟩ := id S
  obtain ⟨o, T1, bb, M1, h6, h7, hPR1, hcd, hbb⟩ := hM.root T M hPR
  refine lv_aload_n hx hb dL_law_1111 rfl (lv_at hl 2 rfl) ?_
  refine lv_aload_n hx hb dL_law_1112 rfl (lv_at hl 4 rfl) ?_
  obtain ⟨hPs, hDs, hJ⟩ := pq_4a hP hD
  refine pq_cH S (c_L_root l g a b1 f T hst o T1 h6 M1.1 hcd) vh_L_246 hK hT hL9 hPs hDs hS hA rfl rfl hl.1 (Nat.le_of_ble_eq_true rfl) dL_law_1113 ⟨by decide, by decide⟩ ⟨by show cells + 1 ≤ 603072; omega, by show slots + 6 ≤ 7178346; omega⟩ (fun H1 locs1 hk hP1 hS1 => ?_)
  replace hP : va_P g.1 pq_cl ([(b1, .inl (g.2 3, 1, .inr (.inl ((pq_nf f (fun v => v.toInt64) o)))))] ++ ([(b2, .inl (g.2 4, 1, .inr (.inr (.inr (.inl (fd))))))] ++ (mainW g a T1 ++ modW g am M))) H1 := hJ hk hP1
  replace hD : va_D A ([(b1, .inl (g.2 3, 1, .inr (.inl ((pq_nf f (fun v => v.toInt64) o)))))] ++ ([(b2, .inl (g.2 4, 1, .inr (.inr (.inr (.inl (fd))))))] ++ (mainW g a T1 ++ modW g am M))) := pq_adr hD (ad_app rfl (ad_app rfl (ad_app (ad_X6 _ _) (ad_X7 _ _))))
  clear hJ hk hP1 hPs hDs hS
  generalize H1 = H at hP hS1 ⊢
  have hS := hS1
  clear hS1
  refine lv_istore (lv' := [(6, .int M1.1), (5, .int (nI i)), (0, .ref b), (1, .ref (a 0)), (2, .ref (am 0)), (3, .ref b1), (4, .ref b2)]) hx hb dL_law_1116 hl (by decide) rfl (fun ls hl => ?_)
  refine lv_aload_n hx hb dL_law_1118 rfl (lv_at hl 4 rfl) ?_
  obtain ⟨hPs, hDs, hJ⟩ := pq_4y hP hD
  refine pq_lVi S (c_X7_root l g am M bb M1 h7) vv_L_248 hK hPs hDs hS hA rfl rfl rfl rfl rfl hl.1 (Nat.le_of_ble_eq_true rfl) dL_law_1119 ⟨by decide, by decide⟩ ⟨by show cells+1 ≤ 603072; omega, by show slots+6 ≤ 7178346; omega⟩ (fun H1 locs1 hk hP1 hS1 => ?_)
  replace hP : va_P g.1 pq_cl ([(b1, .inl (g.2 3, 1, .inr (.inl ((pq_nf f (fun v => v.toInt64) o)))))] ++ ([(b2, .inl (g.2 4, 1, .inr (.inr (.inr (.inl (fd))))))] ++ (mainW g a T1 ++ modW g am M1))) H1 := hJ hk hP1
  replace hD : va_D A ([(b1, .inl (g.2 3, 1, .inr (.inl ((pq_nf f (fun v => v.toInt64) o)))))] ++ ([(b2, .inl (g.2 4, 1, .inr (.inr (.inr (.inl (fd))))))] ++ (mainW g a T1 ++ modW g am M1))) := pq_adr hD (ad_app rfl (ad_app rfl (ad_app (ad_X6 _ _) (ad_X7 _ _))))
  clear hJ hk hP1 hPs hDs hS
  generalize H1 = H at hP hS1 ⊢
  have hS := hS1
  clear hS1
  refine lv_istore (lv' := [(7, .int bb), (6, .int M1.1), (5, .int (nI i)), (0, .ref b), (1, .ref (a 0)), (2, .ref (am 0)), (3, .ref b1), (4, .ref b2)]) hx hb dL_law_1122 hl (by decide) rfl (fun ls hl => ?_)
  refine lv_aload_n hx hb dL_law_1124 rfl (lv_at hl 5 rfl) ?_
  obtain ⟨hPs, hDs, hJ⟩ := pq_4y hP hD
  refine pq_lV S (c_X7_thrown l g am M1 M1.1 rfl) vv_L_193 hK hPs rfl rfl rfl rfl rfl hl.1 (Nat.le_of_ble_eq_true rfl) dL_law_1125 ⟨by decide, by decide⟩ ⟨by show cells+1 ≤ 603072; omega, by show slots+6 ≤ 7178346; omega⟩ ?_
  clear hJ hPs hDs
  refine lv_iload hx hb dL_law_1128 (lv_at hl 1 rfl) ?_
  refine lv_icmp_eq (tgt := 1135) hx hb dL_law_1130 (by decide) (fun _ => ?_) (fun h9 => absurd rfl h9)
  refine lv_iload hx hb dL_law_1135 (lv_at hl 1 rfl) ?_
  refine lv_if_ne (tgt := 1152) hx hb dL_law_1137 (by decide) (fun h0 => ?_) (fun h0 => ?_)
  · skip
    refine lv_goto (tgt := 3417) hx hb dL_law_1152 (by decide) ?_
    exact W.widen (by omega) (by omega) (kk (pq_nf f (fun v => v.toInt64) o) fd T1 M1 H _ ls hPR1 hP hD hS (lv_sub hl [2, 3, 4, 5, 6, 7] rfl))
  · have e0 := hbb h0
    subst e0
    refine lv_aload_n hx hb dL_law_1140 rfl (lv_at hl 6 rfl) ?_
    refine lv_iconst (v := 0) hx hb dL_law_1141 (by decide) ?_
    refine va_lald hx hb hK.1 hP 0 3 rfl rfl pq_in01 dL_law_1142 ?_
    refine lv_iload hx hb dL_law_1143 (lv_at hl 0 rfl) ?_
    refine lv_i2l hx hb dL_law_1145 rfl ?_
    refine W.lcmp hx hb dL_law_1146 ?_
    refine lv_if_eq (tgt := 1152) hx hb dL_law_1147 (by decide) (fun _ => ?_) (fun h9 => absurd (pq_lcmp _) h9)
    refine lv_goto (tgt := 3417) hx hb dL_law_1152 (by decide) ?_
    exact W.widen (by omega) (by omega) (kk (pq_nf f (fun v => v.toInt64) (.inr bb)) fd T1 M1 H _ ls hPR1 hP hD hS (lv_sub hl [2, 3, 4, 5, 6, 7] rfl))
set_option maxHeartbeats 4000000 in
set_option maxRecDepth 100000 in
theorem lw_case17 {PR : MainS → ModS → Prop} (hM : pq_Ma PR) {p : Program} {l : Launch} {e : Env} {s : State} {m : MethodId} {below : List Frame} {meth : Method} {c : Code} {Q : State → Prop} {A : Nat → Prop} {b L : Nat} {xs : Nat → Int32} {g : pq_g} {a am : Nat → Nat} {b1 b2 : Nat} (hst : l.stackTraces = false) (S : CallFix p m c cL_law 9 s #[.ref b] pq_G RL) (hK : pq_K g s) (hT : pq_T A s s.heap) (hL9 : pq_L s) (hA : ∀ q : Nat, s.heap.size ≤ q → A q) (hX : va_X b L xs s s.heap) (hbl : b < s.heap.size) (hbA : ¬ A b) (hL : L ≤ 3072)
    {i : Nat} (hi : i + 6 ≤ L) {f : Nat → Int64} {fd : Nat → UInt64} {T : MainS} {M : ModS} {H : Heap} {locs : List Loc} {ls : Array Slot} {cells slots : Nat} (hPR : PR T M) (hP : va_P g.1 pq_cl ([(b1, .inl (g.2 3, 1, .inr (.inl (f))))] ++ ([(b2, .inl (g.2 4, 1, .inr (.inr (.inr (.inl (fd))))))] ++ (mainW g a T ++ modW g am M))) H) (hD : va_D A ([(b1, .inl (g.2 3, 1, .inr (.inl (f))))] ++ ([(b2, .inl (g.2 4, 1, .inr (.inr (.inr (.inl (fd))))))] ++ (mainW g a T ++ modW g am M)))) (hS : va_S A s.heap H locs) (hl : lv_has ls 9 [(5, .int (nI i)), (0, .ref b), (1, .ref (a 0)), (2, .ref (am 0)), (3, .ref b1), (4, .ref b2)]) (hc : cells ≤ 10000) (hs : slots ≤ 100000)
    (kk : ∀ (f1 : Nat → Int64) (fd1 : Nat → UInt64) (T1 : MainS) (M1 : ModS) (H1 : Heap) (locs1 : List Loc) (ls1 : Array Slot), PR T1 M1 → va_P g.1 pq_cl ([(b1, .inl (g.2 3, 1, .inr (.inl (f1))))] ++ ([(b2, .inl (g.2 4, 1, .inr (.inr (.inr (.inl (fd1))))))] ++ (mainW g a T1 ++ modW g am M1))) H1 → va_D A ([(b1, .inl (g.2 3, 1, .inr (.inl (f1))))] ++ ([(b2, .inl (g.2 4, 1, .inr (.inr (.inr (.inl (fd1))))))] ++ (mainW g a T1 ++ modW g am M1))) → va_S A s.heap H1 locs1 → lv_has ls1 9 [(5, .int (nI i)), (0, .ref b), (1, .ref (a 0)), (2, .ref (am 0)), (3, .ref b1), (4, .ref b2)] → W p l e room_1 s m #[.ref b] below meth c H1 locs1 (cells + 6) (slots + 36) Q (F0 m 3417 ls1 [])) : W p l e room_1 s m #[.ref b] below meth c H locs cells slots Q (F0 m 1155 ls []) := by
  obtain ⟨hx, hb, hml, hown, hts⟩ := id S
  obtain ⟨o, T1, bb, M1, h6, h7, hPR1, hcd, hbb⟩ := hM.hasLeft T M (xs (i + 1)) hPR
  refine lv_aload_n hx hb dL_law_1155 rfl (lv_at hl 2 rfl) ?_
  refine lv_aload_n hx hb dL_law_1156 rfl (lv_at hl 1 rfl) ?_
  refine lv_iload hx hb dL_law_1157 (lv_at hl 0 rfl) ?_
  refine lv_iconst (v := 1) hx hb dL_law_1159 (by decide) ?_
  refine lv_iadd hx hb dL_law_1160 ?_
  refine pq_sld hx hb hX hbl hbA hS (j := 1) (show i + 1 < L by omega) (by omega) (by decide) dL_law_1161 ?_
  refine lv_aload_n hx hb dL_law_1162 rfl (lv_at hl 4 rfl) ?_
  obtain ⟨hPs, hDs, hJ⟩ := pq_4a hP hD
  refine pq_cH S (c_L_hasLeft l g a b1 f T (xs (i + 1)) hst o T1 h6 M1.1 hcd) vh_L_249 hK hT hL9 hPs hDs hS hA rfl rfl hl.1 (Nat.le_of_ble_eq_true rfl) dL_law_1163 ⟨by decide, by decide⟩ ⟨by show cells + 1 ≤ 603072; omega, by show slots + 6 ≤ 7178346; omega⟩ (fun H1 locs1 hk hP1 hS1 => ?_)
  replace hP : va_P g.1 pq_cl ([(b1, .inl (g.2 3, 1, .inr (.inl ((pq_nf f (fun v => if v = 0 then 0 else 1) o)))))] ++ ([(b2, .inl (g.2 4, 1, .inr (.inr (.inr (.inl (fd))))))] ++ (mainW g a T1 ++ modW g am M))) H1 := hJ hk hP1
  replace hD : va_D A ([(b1, .inl (g.2 3, 1, .inr (.inl ((pq_nf f (fun v => if v = 0 then 0 else 1) o)))))] ++ ([(b2, .inl (g.2 4, 1, .inr (.inr (.inr (.inl (fd))))))] ++ (mainW g a T1 ++ modW g am M))) := pq_adr hD (ad_app rfl (ad_app rfl (ad_app (ad_X6 _ _) (ad_X7 _ _))))
  clear hJ hk hP1 hPs hDs hS
  generalize H1 = H at hP hS1 ⊢
  have hS := hS1
  clear hS1
  refine lv_istore (lv' := [(6, .int M1.1), (5, .int (nI i)), (0, .ref b), (1, .ref (a 0)), (2, .ref (am 0)), (3, .ref b1), (4, .ref b2)]) hx hb dL_law_1166 hl (by decide) rfl (fun ls hl => ?_)
  refine lv_aload_n hx hb dL_law_1168 rfl (lv_at hl 4 rfl) ?_
  refine lv_aload_n hx hb dL_law_1169 rfl (lv_at hl 2 rfl) ?_
  refine lv_iload hx hb dL_law_1170 (lv_at hl 1 rfl) ?_
  refine lv_iconst (v := 1) hx hb dL_law_1172 (by decide) ?_
  refine lv_iadd hx hb dL_law_1173 ?_
  refine pq_sld hx hb hX hbl hbA hS (j := 1) (show i + 1 < L by omega) (by omega) (by decide) dL_law_1174 ?_
  obtain ⟨hPs, hDs, hJ⟩ := pq_4y hP hD
  refine pq_lVi S (c_X7_hasLeft l g am M (xs (i + 1)) bb M1 h7) vv_L_251 hK hPs hDs hS hA rfl rfl rfl rfl rfl hl.1 (Nat.le_of_ble_eq_true rfl) dL_law_1175 ⟨by decide, by decide⟩ ⟨by show cells+1 ≤ 603072; omega, by show slots+6 ≤ 7178346; omega⟩ (fun H1 locs1 hk hP1 hS1 => ?_)
  replace hP : va_P g.1 pq_cl ([(b1, .inl (g.2 3, 1, .inr (.inl ((pq_nf f (fun v => if v = 0 then 0 else 1) o)))))] ++ ([(b2, .inl (g.2 4, 1, .inr (.inr (.inr (.inl (fd))))))] ++ (mainW g a T1 ++ modW g am M1))) H1 := hJ hk hP1
  replace hD : va_D A ([(b1, .inl (g.2 3, 1, .inr (.inl ((pq_nf f (fun v => if v = 0 then 0 else 1) o)))))] ++ ([(b2, .inl (g.2 4, 1, .inr (.inr (.inr (.inl (fd))))))] ++ (mainW g a T1 ++ modW g am M1))) := pq_adr hD (ad_app rfl (ad_app rfl (ad_app (ad_X6 _ _) (ad_X7 _ _))))
  clear hJ hk hP1 hPs hDs hS
  generalize H1 = H at hP hS1 ⊢
  have hS := hS1
  clear hS1
  refine lv_istore (lv' := [(7, .int bb), (6, .int M1.1), (5, .int (nI i)), (0, .ref b), (1, .ref (a 0)), (2, .ref (am 0)), (3, .ref b1), (4, .ref b2)]) hx hb dL_law_1178 hl (by decide) rfl (fun ls hl => ?_)
  refine lv_aload_n hx hb dL_law_1180 rfl (lv_at hl 5 rfl) ?_
  obtain ⟨hPs, hDs, hJ⟩ := pq_4y hP hD
  refine pq_lV S (c_X7_thrown l g am M1 M1.1 rfl) vv_L_193 hK hPs rfl rfl rfl rfl rfl hl.1 (Nat.le_of_ble_eq_true rfl) dL_law_1181 ⟨by decide, by decide⟩ ⟨by show cells+1 ≤ 603072; omega, by show slots+6 ≤ 7178346; omega⟩ ?_
  clear hJ hPs hDs
  refine lv_iload hx hb dL_law_1184 (lv_at hl 1 rfl) ?_
  refine lv_icmp_eq (tgt := 1191) hx hb dL_law_1186 (by decide) (fun _ => ?_) (fun h9 => absurd rfl h9)
  refine lv_iload hx hb dL_law_1191 (lv_at hl 1 rfl) ?_
  refine lv_if_ne (tgt := 1215) hx hb dL_law_1193 (by decide) (fun h0 => ?_) (fun h0 => ?_)
  · skip
    refine lv_goto (tgt := 3417) hx hb dL_law_1215 (by decide) ?_
    exact W.widen (by omega) (by omega) (kk (pq_nf f (fun v => if v = 0 then 0 else 1) o) fd T1 M1 H _ ls hPR1 hP hD hS (lv_sub hl [2, 3, 4, 5, 6, 7] rfl))
  · have e0 := hbb h0
    subst e0
    refine lv_aload_n hx hb dL_law_1196 rfl (lv_at hl 6 rfl) ?_
    refine lv_iconst (v := 0) hx hb dL_law_1197 (by decide) ?_
    refine va_lald hx hb hK.1 hP 0 3 rfl rfl pq_in01 dL_law_1198 ?_
    refine lv_iload hx hb dL_law_1199 (lv_at hl 0 rfl) ?_
    refine lv_if_eq (tgt := 1208) hx hb dL_law_1201 (by decide) (fun h1 => ?_) (fun h1 => ?_)
    · refine lv_lconst (v := 0) hx hb dL_law_1208 (by decide) ?_
      change W _ _ _ _ _ _ _ _ _ _ _ _ _ _ _ (F0 _ _ _ [.long 0, .long (if bb = 0 then 0 else 1)])
      rw [if_pos h1]
      refine W.lcmp hx hb dL_law_1209 ?_
      refine lv_if_eq (tgt := 1215) hx hb dL_law_1210 (by decide) (fun _ => ?_) (fun h9 => absurd (pq_lcmp _) h9)
      refine lv_goto (tgt := 3417) hx hb dL_law_1215 (by decide) ?_
      exact W.widen (by omega) (by omega) (kk (pq_nf f (fun v => if v = 0 then 0 else 1) (.inr bb)) fd T1 M1 H _ ls hPR1 hP hD hS (lv_sub hl [2, 3, 4, 5, 6, 7] rfl))
    · refine lv_lconst (v := 1) hx hb dL_law_1204 (by decide) ?_
      change W _ _ _ _ _ _ _ _ _ _ _ _ _ _ _ (F0 _ _ _ [.long 1, .long (if bb = 0 then 0 else 1)])
      rw [if_neg h1]
      refine lv_goto (tgt := 1209) hx hb dL_law_1205 (by decide) ?_
      refine W.lcmp hx hb dL_law_1209 ?_
      refine lv_if_eq (tgt := 1215) hx hb dL_law_1210 (by decide) (fun _ => ?_) (fun h9 => absurd (pq_lcmp _) h9)
      refine lv_goto (tgt := 3417) hx hb dL_law_1215 (by decide) ?_
      exact W.widen (by omega) (by omega) (kk (pq_nf f (fun v => if v = 0 then 0 else 1) (.inr bb)) fd T1 M1 H _ ls hPR1 hP hD hS (lv_sub hl [2, 3, 4, 5, 6, 7] rfl))
set_option maxHeartbeats 4000000 in
set_option maxRecDepth 100000 in
theorem lw_case18 {PR : MainS → ModS → Prop} (hM : pq_Ma PR) {p : Program} {l : Launch} {e : Env} {s : State} {m : MethodId} {below : List Frame} {meth : Method} {c : Code} {Q : State → Prop} {A : Nat → Prop} {b L : Nat} {xs : Nat → Int32} {g : pq_g} {a am : Nat → Nat} {b1 b2 : Nat} (hst : l.stackTraces = false) (S : CallFix p m c cL_law 9 s #[.ref b] pq_G RL) (hK : pq_K g s) (hT : pq_T A s s.heap) (hL9 : pq_L s) (hA : ∀ q : Nat, s.heap.size ≤ q → A q) (hX : va_X b L xs s s.heap) (hbl : b < s.heap.size) (hbA : ¬ A b) (hL : L ≤ 3072)
    {i : Nat} (hi : i + 6 ≤ L) {f : Nat → Int64} {fd : Nat → UInt64} {T : MainS} {M : ModS} {H : Heap} {locs : List Loc} {ls : Array Slot} {cells slots : Nat} (hPR : PR T M) (hP : va_P g.1 pq_cl ([(b1, .inl (g.2 3, 1, .inr (.inl (f))))] ++ ([(b2, .inl (g.2 4, 1, .inr (.inr (.inr (.inl (fd))))))] ++ (mainW g a T ++ modW g am M))) H) (hD : va_D A ([(b1, .inl (g.2 3, 1, .inr (.inl (f))))] ++ ([(b2, .inl (g.2 4, 1, .inr (.inr (.inr (.inl (fd))))))] ++ (mainW g a T ++ modW g am M)))) (hS : va_S A s.heap H locs) (hl : lv_has ls 9 [(5, .int (nI i)), (0, .ref b), (1, .ref (a 0)), (2, .ref (am 0)), (3, .ref b1), (4, .ref b2)]) (hc : cells ≤ 10000) (hs : slots ≤ 100000)
    (kk : ∀ (f1 : Nat → Int64) (fd1 : Nat → UInt64) (T1 : MainS) (M1 : ModS) (H1 : Heap) (locs1 : List Loc) (ls1 : Array Slot), PR T1 M1 → va_P g.1 pq_cl ([(b1, .inl (g.2 3, 1, .inr (.inl (f1))))] ++ ([(b2, .inl (g.2 4, 1, .inr (.inr (.inr (.inl (fd1))))))] ++ (mainW g a T1 ++ modW g am M1))) H1 → va_D A ([(b1, .inl (g.2 3, 1, .inr (.inl (f1))))] ++ ([(b2, .inl (g.2 4, 1, .inr (.inr (.inr (.inl (fd1))))))] ++ (mainW g a T1 ++ modW g am M1))) → va_S A s.heap H1 locs1 → lv_has ls1 9 [(5, .int (nI i)), (0, .ref b), (1, .ref (a 0)), (2, .ref (am 0)), (3, .ref b1), (4, .ref b2)] → W p l e room_1 s m #[.ref b] below meth c H1 locs1 (cells + 6) (slots + 36) Q (F0 m 3417 ls1 [])) : W p l e room_1 s m #[.ref b] below meth c H locs cells slots Q (F0 m 1218 ls []) := by
  obtain ⟨hx, hb, hml, hown, hts⟩ := id S
  obtain ⟨o, T1, bb, M1, h6, h7, hPR1, hcd, hbb⟩ := hM.hasRight T M (xs (i + 1)) hPR
  refine lv_aload_n hx hb dL_law_1218 rfl (lv_at hl 2 rfl) ?_
  refine lv_aload_n hx hb dL_law_1219 rfl (lv_at hl 1 rfl) ?_
  refine lv_iload hx hb dL_law_1220 (lv_at hl 0 rfl) ?_
  refine lv_iconst (v := 1) hx hb dL_law_1222 (by decide) ?_
  refine lv_iadd hx hb dL_law_1223 ?_
  refine pq_sld hx hb hX hbl hbA hS (j := 1) (show i + 1 < L by omega) (by omega) (by decide) dL_law_1224 ?_
  refine lv_aload_n hx hb dL_law_1225 rfl (lv_at hl 4 rfl) ?_
  obtain ⟨hPs, hDs, hJ⟩ := pq_4a hP hD
  refine pq_cH S (c_L_hasRight l g a b1 f T (xs (i + 1)) hst o T1 h6 M1.1 hcd) vh_L_252 hK hT hL9 hPs hDs hS hA rfl rfl hl.1 (Nat.le_of_ble_eq_true rfl) dL_law_1226 ⟨by decide, by decide⟩ ⟨by show cells + 1 ≤ 603072; omega, by show slots + 6 ≤ 7178346; omega⟩ (fun H1 locs1 hk hP1 hS1 => ?_)
  replace hP : va_P g.1 pq_cl ([(b1, .inl (g.2 3, 1, .inr (.inl ((pq_nf f (fun v => if v = 0 then 0 else 1) o)))))] ++ ([(b2, .inl (g.2 4, 1, .inr (.inr (.inr (.inl (fd))))))] ++ (mainW g a T1 ++ modW g am M))) H1 := hJ hk hP1
  replace hD : va_D A ([(b1, .inl (g.2 3, 1, .inr (.inl ((pq_nf f (fun v => if v = 0 then 0 else 1) o)))))] ++ ([(b2, .inl (g.2 4, 1, .inr (.inr (.inr (.inl (fd))))))] ++ (mainW g a T1 ++ modW g am M))) := pq_adr hD (ad_app rfl (ad_app rfl (ad_app (ad_X6 _ _) (ad_X7 _ _))))
  clear hJ hk hP1 hPs hDs hS
  generalize H1 = H at hP hS1 ⊢
  have hS := hS1
  clear hS1
  refine lv_istore (lv' := [(6, .int M1.1), (5, .int (nI i)), (0, .ref b), (1, .ref (a 0)), (2, .ref (am 0)), (3, .ref b1), (4, .ref b2)]) hx hb dL_law_1229 hl (by decide) rfl (fun ls hl => ?_)
  refine lv_aload_n hx hb dL_law_1231 rfl (lv_at hl 4 rfl) ?_
  refine lv_aload_n hx hb dL_law_1232 rfl (lv_at hl 2 rfl) ?_
  refine lv_iload hx hb dL_law_1233 (lv_at hl 1 rfl) ?_
  refine lv_iconst (v := 1) hx hb dL_law_1235 (by decide) ?_
  refine lv_iadd hx hb dL_law_1236 ?_
  refine pq_sld hx hb hX hbl hbA hS (j := 1) (show i + 1 < L by omega) (by omega) (by decide) dL_law_1237 ?_
  obtain ⟨hPs, hDs, hJ⟩ := pq_4y hP hD
  refine pq_lVi S (c_X7_hasRight l g am M (xs (i + 1)) bb M1 h7) vv_L_254 hK hPs hDs hS hA rfl rfl rfl rfl rfl hl.1 (Nat.le_of_ble_eq_true rfl) dL_law_1238 ⟨by decide, by decide⟩ ⟨by show cells+1 ≤ 603072; omega, by show slots+6 ≤ 7178346; omega⟩ (fun H1 locs1 hk hP1 hS1 => ?_)
  replace hP : va_P g.1 pq_cl ([(b1, .inl (g.2 3, 1, .inr (.inl ((pq_nf f (fun v => if v = 0 then 0 else 1) o)))))] ++ ([(b2, .inl (g.2 4, 1, .inr (.inr (.inr (.inl (fd))))))] ++ (mainW g a T1 ++ modW g am M1))) H1 := hJ hk hP1
  replace hD : va_D A ([(b1, .inl (g.2 3, 1, .inr (.inl ((pq_nf f (fun v => if v = 0 then 0 else 1) o)))))] ++ ([(b2, .inl (g.2 4, 1, .inr (.inr (.inr (.inl (fd))))))] ++ (mainW g a T1 ++ modW g am M1))) := pq_adr hD (ad_app rfl (ad_app rfl (ad_app (ad_X6 _ _) (ad_X7 _ _))))
  clear hJ hk hP1 hPs hDs hS
  generalize H1 = H at hP hS1 ⊢
  have hS := hS1
  clear hS1
  refine lv_istore (lv' := [(7, .int bb), (6, .int M1.1), (5, .int (nI i)), (0, .ref b), (1, .ref (a 0)), (2, .ref (am 0)), (3, .ref b1), (4, .ref b2)]) hx hb dL_law_1241 hl (by decide) rfl (fun ls hl => ?_)
  refine lv_aload_n hx hb dL_law_1243 rfl (lv_at hl 5 rfl) ?_
  obtain ⟨hPs, hDs, hJ⟩ := pq_4y hP hD
  refine pq_lV S (c_X7_thrown l g am M1 M1.1 rfl) vv_L_193 hK hPs rfl rfl rfl rfl rfl hl.1 (Nat.le_of_ble_eq_true rfl) dL_law_1244 ⟨by decide, by decide⟩ ⟨by show cells+1 ≤ 603072; omega, by show slots+6 ≤ 7178346; omega⟩ ?_
  clear hJ hPs hDs
  refine lv_iload hx hb dL_law_1247 (lv_at hl 1 rfl) ?_
  refine lv_icmp_eq (tgt := 1254) hx hb dL_law_1249 (by decide) (fun _ => ?_) (fun h9 => absurd rfl h9)
  refine lv_iload hx hb dL_law_1254 (lv_at hl 1 rfl) ?_
  refine lv_if_ne (tgt := 1278) hx hb dL_law_1256 (by decide) (fun h0 => ?_) (fun h0 => ?_)
  · skip
    refine lv_goto (tgt := 3417) hx hb dL_law_1278 (by decide) ?_
    exact W.widen (by omega) (by omega) (kk (pq_nf f (fun v => if v = 0 then 0 else 1) o) fd T1 M1 H _ ls hPR1 hP hD hS (lv_sub hl [2, 3, 4, 5, 6, 7] rfl))
  · have e0 := hbb h0
    subst e0
    refine lv_aload_n hx hb dL_law_1259 rfl (lv_at hl 6 rfl) ?_
    refine lv_iconst (v := 0) hx hb dL_law_1260 (by decide) ?_
    refine va_lald hx hb hK.1 hP 0 3 rfl rfl pq_in01 dL_law_1261 ?_
    refine lv_iload hx hb dL_law_1262 (lv_at hl 0 rfl) ?_
    refine lv_if_eq (tgt := 1271) hx hb dL_law_1264 (by decide) (fun h1 => ?_) (fun h1 => ?_)
    · refine lv_lconst (v := 0) hx hb dL_law_1271 (by decide) ?_
      change W _ _ _ _ _ _ _ _ _ _ _ _ _ _ _ (F0 _ _ _ [.long 0, .long (if bb = 0 then 0 else 1)])
      rw [if_pos h1]
      refine W.lcmp hx hb dL_law_1272 ?_
      refine lv_if_eq (tgt := 1278) hx hb dL_law_1273 (by decide) (fun _ => ?_) (fun h9 => absurd (pq_lcmp _) h9)
      refine lv_goto (tgt := 3417) hx hb dL_law_1278 (by decide) ?_
      exact W.widen (by omega) (by omega) (kk (pq_nf f (fun v => if v = 0 then 0 else 1) (.inr bb)) fd T1 M1 H _ ls hPR1 hP hD hS (lv_sub hl [2, 3, 4, 5, 6, 7] rfl))
    · refine lv_lconst (v := 1) hx hb dL_law_1267 (by decide) ?_
      change W _ _ _ _ _ _ _ _ _ _ _ _ _ _ _ (F0 _ _ _ [.long 1, .long (if bb = 0 then 0 else 1)])
      rw [if_neg h1]
      refine lv_goto (tgt := 1272) hx hb dL_law_1268 (by decide) ?_
      refine W.lcmp hx hb dL_law_1272 ?_
      refine lv_if_eq (tgt := 1278) hx hb dL_law_1273 (by decide) (fun _ => ?_) (fun h9 => absurd (pq_lcmp _) h9)
      refine lv_goto (tgt := 3417) hx hb dL_law_1278 (by decide) ?_
      exact W.widen (by omega) (by omega) (kk (pq_nf f (fun v => if v = 0 then 0 else 1) (.inr bb)) fd T1 M1 H _ ls hPR1 hP hD hS (lv_sub hl [2, 3, 4, 5, 6, 7] rfl))
set_option maxHeartbeats 4000000 in
set_option maxRecDepth 100000 in
theorem lw_case19 {PR : MainS → ModS → Prop} (hM : pq_Ma PR) {p : Program} {l : Launch} {e : Env} {s : State} {m : MethodId} {below : List Frame} {meth : Method} {c : Code} {Q : State → Prop} {A : Nat → Prop} {b L : Nat} {xs : Nat → Int32} {g : pq_g} {a am : Nat → Nat} {b1 b2 : Nat} (hst : l.stackTraces = false) (S : CallFix p m c cL_law 9 s #[.ref b] pq_G RL) (hK : pq_K g s) (hT : pq_T A s s.heap) (hL9 : pq_L s) (hA : ∀ q : Nat, s.heap.size ≤ q → A q) (hX : va_X b L xs s s.heap) (hbl : b < s.heap.size) (hbA : ¬ A b) (hL : L ≤ 3072)
    {i : Nat} (hi : i + 6 ≤ L) {f : Nat → Int64} {fd : Nat → UInt64} {T : MainS} {M : ModS} {H : Heap} {locs : List Loc} {ls : Array Slot} {cells slots : Nat} (hPR : PR T M) (hP : va_P g.1 pq_cl ([(b1, .inl (g.2 3, 1, .inr (.inl (f))))] ++ ([(b2, .inl (g.2 4, 1, .inr (.inr (.inr (.inl (fd))))))] ++ (mainW g a T ++ modW g am M))) H) (hD : va_D A ([(b1, .inl (g.2 3, 1, .inr (.inl (f))))] ++ ([(b2, .inl (g.2 4, 1, .inr (.inr (.inr (.inl (fd))))))] ++ (mainW g a T ++ modW g am M)))) (hS : va_S A s.heap H locs) (hl : lv_has ls 9 [(5, .int (nI i)), (0, .ref b), (1, .ref (a 0)), (2, .ref (am 0)), (3, .ref b1), (4, .ref b2)]) (hc : cells ≤ 10000) (hs : slots ≤ 100000)
    (kk : ∀ (f1 : Nat → Int64) (fd1 : Nat → UInt64) (T1 : MainS) (M1 : ModS) (H1 : Heap) (locs1 : List Loc) (ls1 : Array Slot), PR T1 M1 → va_P g.1 pq_cl ([(b1, .inl (g.2 3, 1, .inr (.inl (f1))))] ++ ([(b2, .inl (g.2 4, 1, .inr (.inr (.inr (.inl (fd1))))))] ++ (mainW g a T1 ++ modW g am M1))) H1 → va_D A ([(b1, .inl (g.2 3, 1, .inr (.inl (f1))))] ++ ([(b2, .inl (g.2 4, 1, .inr (.inr (.inr (.inl (fd1))))))] ++ (mainW g a T1 ++ modW g am M1))) → va_S A s.heap H1 locs1 → lv_has ls1 9 [(5, .int (nI i)), (0, .ref b), (1, .ref (a 0)), (2, .ref (am 0)), (3, .ref b1), (4, .ref b2)] → W p l e room_1 s m #[.ref b] below meth c H1 locs1 (cells + 6) (slots + 36) Q (F0 m 3417 ls1 [])) : W p l e room_1 s m #[.ref b] below meth c H locs cells slots Q (F0 m 1281 ls []) := by
  obtain ⟨hx, hb, hml, hown, hts⟩ := id S
  obtain ⟨o, T1, bb, M1, h6, h7, hPR1, hcd, hbb⟩ := hM.leftOf T M (xs (i + 1)) hPR
  refine lv_aload_n hx hb dL_law_1281 rfl (lv_at hl 2 rfl) ?_
  refine lv_aload_n hx hb dL_law_1282 rfl (lv_at hl 1 rfl) ?_
  refine lv_iload hx hb dL_law_1283 (lv_at hl 0 rfl) ?_
  refine lv_iconst (v := 1) hx hb dL_law_1285 (by decide) ?_
  refine lv_iadd hx hb dL_law_1286 ?_
  refine pq_sld hx hb hX hbl hbA hS (j := 1) (show i + 1 < L by omega) (by omega) (by decide) dL_law_1287 ?_
  refine lv_aload_n hx hb dL_law_1288 rfl (lv_at hl 4 rfl) ?_
  obtain ⟨hPs, hDs, hJ⟩ := pq_4a hP hD
  refine pq_cH S (c_L_leftOf l g a b1 f T (xs (i + 1)) hst o T1 h6 M1.1 hcd) vh_L_255 hK hT hL9 hPs hDs hS hA rfl rfl hl.1 (Nat.le_of_ble_eq_true rfl) dL_law_1289 ⟨by decide, by decide⟩ ⟨by show cells + 2 ≤ 603072; omega, by show slots + 12 ≤ 7178346; omega⟩ (fun H1 locs1 hk hP1 hS1 => ?_)
  replace hP : va_P g.1 pq_cl ([(b1, .inl (g.2 3, 1, .inr (.inl ((pq_nf f (fun v => v.toInt64) o)))))] ++ ([(b2, .inl (g.2 4, 1, .inr (.inr (.inr (.inl (fd))))))] ++ (mainW g a T1 ++ modW g am M))) H1 := hJ hk hP1
  replace hD : va_D A ([(b1, .inl (g.2 3, 1, .inr (.inl ((pq_nf f (fun v => v.toInt64) o)))))] ++ ([(b2, .inl (g.2 4, 1, .inr (.inr (.inr (.inl (fd))))))] ++ (mainW g a T1 ++ modW g am M))) := pq_adr hD (ad_app rfl (ad_app rfl (ad_app (ad_X6 _ _) (ad_X7 _ _))))
  clear hJ hk hP1 hPs hDs hS
  generalize H1 = H at hP hS1 ⊢
  have hS := hS1
  clear hS1
  refine lv_istore (lv' := [(6, .int M1.1), (5, .int (nI i)), (0, .ref b), (1, .ref (a 0)), (2, .ref (am 0)), (3, .ref b1), (4, .ref b2)]) hx hb dL_law_1292 hl (by decide) rfl (fun ls hl => ?_)
  refine lv_aload_n hx hb dL_law_1294 rfl (lv_at hl 4 rfl) ?_
  refine lv_aload_n hx hb dL_law_1295 rfl (lv_at hl 2 rfl) ?_
  refine lv_iload hx hb dL_law_1296 (lv_at hl 1 rfl) ?_
  refine lv_iconst (v := 1) hx hb dL_law_1298 (by decide) ?_
  refine lv_iadd hx hb dL_law_1299 ?_
  refine pq_sld hx hb hX hbl hbA hS (j := 1) (show i + 1 < L by omega) (by omega) (by decide) dL_law_1300 ?_
  obtain ⟨hPs, hDs, hJ⟩ := pq_4y hP hD
  refine pq_lVi S (c_X7_leftOf l g am M (xs (i + 1)) bb M1 h7) vv_L_257 hK hPs hDs hS hA rfl rfl rfl rfl rfl hl.1 (Nat.le_of_ble_eq_true rfl) dL_law_1301 ⟨by decide, by decide⟩ ⟨by show cells+2 ≤ 603072; omega, by show slots+12 ≤ 7178346; omega⟩ (fun H1 locs1 hk hP1 hS1 => ?_)
  replace hP : va_P g.1 pq_cl ([(b1, .inl (g.2 3, 1, .inr (.inl ((pq_nf f (fun v => v.toInt64) o)))))] ++ ([(b2, .inl (g.2 4, 1, .inr (.inr (.inr (.inl (fd))))))] ++ (mainW g a T1 ++ modW g am M1))) H1 := hJ hk hP1
  replace hD : va_D A ([(b1, .inl (g.2 3, 1, .inr (.inl ((pq_nf f (fun v => v.toInt64) o)))))] ++ ([(b2, .inl (g.2 4, 1, .inr (.inr (.inr (.inl (fd))))))] ++ (mainW g a T1 ++ modW g am M1))) := pq_adr hD (ad_app rfl (ad_app rfl (ad_app (ad_X6 _ _) (ad_X7 _ _))))
  clear hJ hk hP1 hPs hDs hS
  generalize H1 = H at hP hS1 ⊢
  have hS := hS1
  clear hS1
  refine lv_istore (lv' := [(7, .int bb), (6, .int M1.1), (5, .int (nI i)), (0, .ref b), (1, .ref (a 0)), (2, .ref (am 0)), (3, .ref b1), (4, .ref b2)]) hx hb dL_law_1304 hl (by decide) rfl (fun ls hl => ?_)
  refine lv_aload_n hx hb dL_law_1306 rfl (lv_at hl 5 rfl) ?_
  obtain ⟨hPs, hDs, hJ⟩ := pq_4y hP hD
  refine pq_lV S (c_X7_thrown l g am M1 M1.1 rfl) vv_L_193 hK hPs rfl rfl rfl rfl rfl hl.1 (Nat.le_of_ble_eq_true rfl) dL_law_1307 ⟨by decide, by decide⟩ ⟨by show cells+2 ≤ 603072; omega, by show slots+12 ≤ 7178346; omega⟩ ?_
  clear hJ hPs hDs
  refine lv_iload hx hb dL_law_1310 (lv_at hl 1 rfl) ?_
  refine lv_icmp_eq (tgt := 1317) hx hb dL_law_1312 (by decide) (fun _ => ?_) (fun h9 => absurd rfl h9)
  refine lv_iload hx hb dL_law_1317 (lv_at hl 1 rfl) ?_
  refine lv_if_ne (tgt := 1334) hx hb dL_law_1319 (by decide) (fun h0 => ?_) (fun h0 => ?_)
  · skip
    refine lv_goto (tgt := 3417) hx hb dL_law_1334 (by decide) ?_
    exact W.widen (by omega) (by omega) (kk (pq_nf f (fun v => v.toInt64) o) fd T1 M1 H _ ls hPR1 hP hD hS (lv_sub hl [2, 3, 4, 5, 6, 7] rfl))
  · have e0 := hbb h0
    subst e0
    refine lv_aload_n hx hb dL_law_1322 rfl (lv_at hl 6 rfl) ?_
    refine lv_iconst (v := 0) hx hb dL_law_1323 (by decide) ?_
    refine va_lald hx hb hK.1 hP 0 3 rfl rfl pq_in01 dL_law_1324 ?_
    refine lv_iload hx hb dL_law_1325 (lv_at hl 0 rfl) ?_
    refine lv_i2l hx hb dL_law_1327 rfl ?_
    refine W.lcmp hx hb dL_law_1328 ?_
    refine lv_if_eq (tgt := 1334) hx hb dL_law_1329 (by decide) (fun _ => ?_) (fun h9 => absurd (pq_lcmp _) h9)
    refine lv_goto (tgt := 3417) hx hb dL_law_1334 (by decide) ?_
    exact W.widen (by omega) (by omega) (kk (pq_nf f (fun v => v.toInt64) (.inr bb)) fd T1 M1 H _ ls hPR1 hP hD hS (lv_sub hl [2, 3, 4, 5, 6, 7] rfl))
set_option maxHeartbeats 4000000 in
set_option maxRecDepth 100000 in
theorem lw_case20 {PR : MainS → ModS → Prop} (hM : pq_Ma PR) {p : Program} {l : Launch} {e : Env} {s : State} {m : MethodId} {below : List Frame} {meth : Method} {c : Code} {Q : State → Prop} {A : Nat → Prop} {b L : Nat} {xs : Nat → Int32} {g : pq_g} {a am : Nat → Nat} {b1 b2 : Nat} (hst : l.stackTraces = false) (S : CallFix p m c cL_law 9 s #[.ref b] pq_G RL) (hK : pq_K g s) (hT : pq_T A s s.heap) (hL9 : pq_L s) (hA : ∀ q : Nat, s.heap.size ≤ q → A q) (hX : va_X b L xs s s.heap) (hbl : b < s.heap.size) (hbA : ¬ A b) (hL : L ≤ 3072)
    {i : Nat} (hi : i + 6 ≤ L) {f : Nat → Int64} {fd : Nat → UInt64} {T : MainS} {M : ModS} {H : Heap} {locs : List Loc} {ls : Array Slot} {cells slots : Nat} (hPR : PR T M) (hP : va_P g.1 pq_cl ([(b1, .inl (g.2 3, 1, .inr (.inl (f))))] ++ ([(b2, .inl (g.2 4, 1, .inr (.inr (.inr (.inl (fd))))))] ++ (mainW g a T ++ modW g am M))) H) (hD : va_D A ([(b1, .inl (g.2 3, 1, .inr (.inl (f))))] ++ ([(b2, .inl (g.2 4, 1, .inr (.inr (.inr (.inl (fd))))))] ++ (mainW g a T ++ modW g am M)))) (hS : va_S A s.heap H locs) (hl : lv_has ls 9 [(5, .int (nI i)), (0, .ref b), (1, .ref (a 0)), (2, .ref (am 0)), (3, .ref b1), (4, .ref b2)]) (hc : cells ≤ 10000) (hs : slots ≤ 100000)
    (kk : ∀ (f1 : Nat → Int64) (fd1 : Nat → UInt64) (T1 : MainS) (M1 : ModS) (H1 : Heap) (locs1 : List Loc) (ls1 : Array Slot), PR T1 M1 → va_P g.1 pq_cl ([(b1, .inl (g.2 3, 1, .inr (.inl (f1))))] ++ ([(b2, .inl (g.2 4, 1, .inr (.inr (.inr (.inl (fd1))))))] ++ (mainW g a T1 ++ modW g am M1))) H1 → va_D A ([(b1, .inl (g.2 3, 1, .inr (.inl (f1))))] ++ ([(b2, .inl (g.2 4, 1, .inr (.inr (.inr (.inl (fd1))))))] ++ (mainW g a T1 ++ modW g am M1))) → va_S A s.heap H1 locs1 → lv_has ls1 9 [(5, .int (nI i)), (0, .ref b), (1, .ref (a 0)), (2, .ref (am 0)), (3, .ref b1), (4, .ref b2)] → W p l e room_1 s m #[.ref b] below meth c H1 locs1 (cells + 6) (slots + 36) Q (F0 m 3417 ls1 [])) : W p l e room_1 s m #[.ref b] below meth c H locs cells slots Q (F0 m 1337 ls []) := by
  obtain ⟨hx, hb, hml, hown, hts⟩ := id S
  obtain ⟨o, T1, bb, M1, h6, h7, hPR1, hcd, hbb⟩ := hM.rightOf T M (xs (i + 1)) hPR
  refine lv_aload_n hx hb dL_law_1337 rfl (lv_at hl 2 rfl) ?_
  refine lv_aload_n hx hb dL_law_1338 rfl (lv_at hl 1 rfl) ?_
  refine lv_iload hx hb dL_law_1339 (lv_at hl 0 rfl) ?_
  refine lv_iconst (v := 1) hx hb dL_law_1341 (by decide) ?_
  refine lv_iadd hx hb dL_law_1342 ?_
  refine pq_sld hx hb hX hbl hbA hS (j := 1) (show i + 1 < L by omega) (by omega) (by decide) dL_law_1343 ?_
  refine lv_aload_n hx hb dL_law_1344 rfl (lv_at hl 4 rfl) ?_
  obtain ⟨hPs, hDs, hJ⟩ := pq_4a hP hD
  refine pq_cH S (c_L_rightOf l g a b1 f T (xs (i + 1)) hst o T1 h6 M1.1 hcd) vh_L_258 hK hT hL9 hPs hDs hS hA rfl rfl hl.1 (Nat.le_of_ble_eq_true rfl) dL_law_1345 ⟨by decide, by decide⟩ ⟨by show cells + 2 ≤ 603072; omega, by show slots + 12 ≤ 7178346; omega⟩ (fun H1 locs1 hk hP1 hS1 => ?_)
  replace hP : va_P g.1 pq_cl ([(b1, .inl (g.2 3, 1, .inr (.inl ((pq_nf f (fun v => v.toInt64) o)))))] ++ ([(b2, .inl (g.2 4, 1, .inr (.inr (.inr (.inl (fd))))))] ++ (mainW g a T1 ++ modW g am M))) H1 := hJ hk hP1
  replace hD : va_D A ([(b1, .inl (g.2 3, 1, .inr (.inl ((pq_nf f (fun v => v.toInt64) o)))))] ++ ([(b2, .inl (g.2 4, 1, .inr (.inr (.inr (.inl (fd))))))] ++ (mainW g a T1 ++ modW g am M))) := pq_adr hD (ad_app rfl (ad_app rfl (ad_app (ad_X6 _ _) (ad_X7 _ _))))
  clear hJ hk hP1 hPs hDs hS
  generalize H1 = H at hP hS1 ⊢
  have hS := hS1
  clear hS1
  refine lv_istore (lv' := [(6, .int M1.1), (5, .int (nI i)), (0, .ref b), (1, .ref (a 0)), (2, .ref (am 0)), (3, .ref b1), (4, .ref b2)]) hx hb dL_law_1348 hl (by decide) rfl (fun ls hl => ?_)
  refine lv_aload_n hx hb dL_law_1350 rfl (lv_at hl 4 rfl) ?_
  refine lv_aload_n hx hb dL_law_1351 rfl (lv_at hl 2 rfl) ?_
  refine lv_iload hx hb dL_law_1352 (lv_at hl 1 rfl) ?_
  refine lv_iconst (v := 1) hx hb dL_law_1354 (by decide) ?_
  refine lv_iadd hx hb dL_law_1355 ?_
  refine pq_sld hx hb hX hbl hbA hS (j := 1) (show i + 1 < L by omega) (by omega) (by decide) dL_law_1356 ?_
  obtain ⟨hPs, hDs, hJ⟩ := pq_4y hP hD
  refine pq_lVi S (c_X7_rightOf l g am M (xs (i + 1)) bb M1 h7) vv_L_260 hK hPs hDs hS hA rfl rfl rfl rfl rfl hl.1 (Nat.le_of_ble_eq_true rfl) dL_law_1357 ⟨by decide, by decide⟩ ⟨by show cells+2 ≤ 603072; omega, by show slots+12 ≤ 7178346; omega⟩ (fun H1 locs1 hk hP1 hS1 => ?_)
  replace hP : va_P g.1 pq_cl ([(b1, .inl (g.2 3, 1, .inr (.inl ((pq_nf f (fun v => v.toInt64) o)))))] ++ ([(b2, .inl (g.2 4, 1, .inr (.inr (.inr (.inl (fd))))))] ++ (mainW g a T1 ++ modW g am M1))) H1 := hJ hk hP1
  replace hD : va_D A ([(b1, .inl (g.2 3, 1, .inr (.inl ((pq_nf f (fun v => v.toInt64) o)))))] ++ ([(b2, .inl (g.2 4, 1, .inr (.inr (.inr (.inl (fd))))))] ++ (mainW g a T1 ++ modW g am M1))) := pq_adr hD (ad_app rfl (ad_app rfl (ad_app (ad_X6 _ _) (ad_X7 _ _))))
  clear hJ hk hP1 hPs hDs hS
  generalize H1 = H at hP hS1 ⊢
  have hS := hS1
  clear hS1
  refine lv_istore (lv' := [(7, .int bb), (6, .int M1.1), (5, .int (nI i)), (0, .ref b), (1, .ref (a 0)), (2, .ref (am 0)), (3, .ref b1), (4, .ref b2)]) hx hb dL_law_1360 hl (by decide) rfl (fun ls hl => ?_)
  refine lv_aload_n hx hb dL_law_1362 rfl (lv_at hl 5 rfl) ?_
  obtain ⟨hPs, hDs, hJ⟩ := pq_4y hP hD
  refine pq_lV S (c_X7_thrown l g am M1 M1.1 rfl) vv_L_193 hK hPs rfl rfl rfl rfl rfl hl.1 (Nat.le_of_ble_eq_true rfl) dL_law_1363 ⟨by decide, by decide⟩ ⟨by show cells+2 ≤ 603072; omega, by show slots+12 ≤ 7178346; omega⟩ ?_
  clear hJ hPs hDs
  refine lv_iload hx hb dL_law_1366 (lv_at hl 1 rfl) ?_
  refine lv_icmp_eq (tgt := 1373) hx hb dL_law_1368 (by decide) (fun _ => ?_) (fun h9 => absurd rfl h9)
  refine lv_iload hx hb dL_law_1373 (lv_at hl 1 rfl) ?_
  refine lv_if_ne (tgt := 1390) hx hb dL_law_1375 (by decide) (fun h0 => ?_) (fun h0 => ?_)
  · skip
    refine lv_goto (tgt := 3417) hx hb dL_law_1390 (by decide) ?_
    exact W.widen (by omega) (by omega) (kk (pq_nf f (fun v => v.toInt64) o) fd T1 M1 H _ ls hPR1 hP hD hS (lv_sub hl [2, 3, 4, 5, 6, 7] rfl))
  · have e0 := hbb h0
    subst e0
    refine lv_aload_n hx hb dL_law_1378 rfl (lv_at hl 6 rfl) ?_
    refine lv_iconst (v := 0) hx hb dL_law_1379 (by decide) ?_
    refine va_lald hx hb hK.1 hP 0 3 rfl rfl pq_in01 dL_law_1380 ?_
    refine lv_iload hx hb dL_law_1381 (lv_at hl 0 rfl) ?_
    refine lv_i2l hx hb dL_law_1383 rfl ?_
    refine W.lcmp hx hb dL_law_1384 ?_
    refine lv_if_eq (tgt := 1390) hx hb dL_law_1385 (by decide) (fun _ => ?_) (fun h9 => absurd (pq_lcmp _) h9)
    refine lv_goto (tgt := 3417) hx hb dL_law_1390 (by decide) ?_
    exact W.widen (by omega) (by omega) (kk (pq_nf f (fun v => v.toInt64) (.inr bb)) fd T1 M1 H _ ls hPR1 hP hD hS (lv_sub hl [2, 3, 4, 5, 6, 7] rfl))
set_option maxHeartbeats 4000000 in
set_option maxRecDepth 100000 in
theorem lw_case21 {PR : MainS → ModS → Prop} (hM : pq_Ma PR) {p : Program} {l : Launch} {e : Env} {s : State} {m : MethodId} {below : List Frame} {meth : Method} {c : Code} {Q : State → Prop} {A : Nat → Prop} {b L : Nat} {xs : Nat → Int32} {g : pq_g} {a am : Nat → Nat} {b1 b2 : Nat} (hst : l.stackTraces = false) (S : CallFix p m c cL_law 9 s #[.ref b] pq_G RL) (hK : pq_K g s) (hT : pq_T A s s.heap) (hL9 : pq_L s) (hA : ∀ q : Nat, s.heap.size ≤ q → A q) (hX : va_X b L xs s s.heap) (hbl : b < s.heap.size) (hbA : ¬ A b) (hL : L ≤ 3072)
    {i : Nat} (hi : i + 6 ≤ L) {f : Nat → Int64} {fd : Nat → UInt64} {T : MainS} {M : ModS} {H : Heap} {locs : List Loc} {ls : Array Slot} {cells slots : Nat} (hPR : PR T M) (hP : va_P g.1 pq_cl ([(b1, .inl (g.2 3, 1, .inr (.inl (f))))] ++ ([(b2, .inl (g.2 4, 1, .inr (.inr (.inr (.inl (fd))))))] ++ (mainW g a T ++ modW g am M))) H) (hD : va_D A ([(b1, .inl (g.2 3, 1, .inr (.inl (f))))] ++ ([(b2, .inl (g.2 4, 1, .inr (.inr (.inr (.inl (fd))))))] ++ (mainW g a T ++ modW g am M)))) (hS : va_S A s.heap H locs) (hl : lv_has ls 9 [(5, .int (nI i)), (0, .ref b), (1, .ref (a 0)), (2, .ref (am 0)), (3, .ref b1), (4, .ref b2)]) (hc : cells ≤ 10000) (hs : slots ≤ 100000)
    (kk : ∀ (f1 : Nat → Int64) (fd1 : Nat → UInt64) (T1 : MainS) (M1 : ModS) (H1 : Heap) (locs1 : List Loc) (ls1 : Array Slot), PR T1 M1 → va_P g.1 pq_cl ([(b1, .inl (g.2 3, 1, .inr (.inl (f1))))] ++ ([(b2, .inl (g.2 4, 1, .inr (.inr (.inr (.inl (fd1))))))] ++ (mainW g a T1 ++ modW g am M1))) H1 → va_D A ([(b1, .inl (g.2 3, 1, .inr (.inl (f1))))] ++ ([(b2, .inl (g.2 4, 1, .inr (.inr (.inr (.inl (fd1))))))] ++ (mainW g a T1 ++ modW g am M1))) → va_S A s.heap H1 locs1 → lv_has ls1 9 [(5, .int (nI i)), (0, .ref b), (1, .ref (a 0)), (2, .ref (am 0)), (3, .ref b1), (4, .ref b2)] → W p l e room_1 s m #[.ref b] below meth c H1 locs1 (cells + 6) (slots + 36) Q (F0 m 3417 ls1 [])) : W p l e room_1 s m #[.ref b] below meth c H locs cells slots Q (F0 m 1393 ls []) := by
  obtain ⟨hx, hb, hml, hown, hts⟩ := id S
  obtain ⟨o, T1, bb, M1, h6, h7, hPR1, hcd, hbb⟩ := hM.parentOf T M (xs (i + 1)) hPR
  refine lv_aload_n hx hb dL_law_1393 rfl (lv_at hl 2 rfl) ?_
  refine lv_aload_n hx hb dL_law_1394 rfl (lv_at hl 1 rfl) ?_
  refine lv_iload hx hb dL_law_1395 (lv_at hl 0 rfl) ?_
  refine lv_iconst (v := 1) hx hb dL_law_1397 (by decide) ?_
  refine lv_iadd hx hb dL_law_1398 ?_
  refine pq_sld hx hb hX hbl hbA hS (j := 1) (show i + 1 < L by omega) (by omega) (by decide) dL_law_1399 ?_
  refine lv_aload_n hx hb dL_law_1400 rfl (lv_at hl 4 rfl) ?_
  obtain ⟨hPs, hDs, hJ⟩ := pq_4a hP hD
  refine pq_cH S (c_L_parentOf l g a b1 f T (xs (i + 1)) hst o T1 h6 M1.1 hcd) vh_L_261 hK hT hL9 hPs hDs hS hA rfl rfl hl.1 (Nat.le_of_ble_eq_true rfl) dL_law_1401 ⟨by decide, by decide⟩ ⟨by show cells + 2 ≤ 603072; omega, by show slots + 12 ≤ 7178346; omega⟩ (fun H1 locs1 hk hP1 hS1 => ?_)
  replace hP : va_P g.1 pq_cl ([(b1, .inl (g.2 3, 1, .inr (.inl ((pq_nf f (fun v => v.toInt64) o)))))] ++ ([(b2, .inl (g.2 4, 1, .inr (.inr (.inr (.inl (fd))))))] ++ (mainW g a T1 ++ modW g am M))) H1 := hJ hk hP1
  replace hD : va_D A ([(b1, .inl (g.2 3, 1, .inr (.inl ((pq_nf f (fun v => v.toInt64) o)))))] ++ ([(b2, .inl (g.2 4, 1, .inr (.inr (.inr (.inl (fd))))))] ++ (mainW g a T1 ++ modW g am M))) := pq_adr hD (ad_app rfl (ad_app rfl (ad_app (ad_X6 _ _) (ad_X7 _ _))))
  clear hJ hk hP1 hPs hDs hS
  generalize H1 = H at hP hS1 ⊢
  have hS := hS1
  clear hS1
  refine lv_istore (lv' := [(6, .int M1.1), (5, .int (nI i)), (0, .ref b), (1, .ref (a 0)), (2, .ref (am 0)), (3, .ref b1), (4, .ref b2)]) hx hb dL_law_1404 hl (by decide) rfl (fun ls hl => ?_)
  refine lv_aload_n hx hb dL_law_1406 rfl (lv_at hl 4 rfl) ?_
  refine lv_aload_n hx hb dL_law_1407 rfl (lv_at hl 2 rfl) ?_
  refine lv_iload hx hb dL_law_1408 (lv_at hl 1 rfl) ?_
  refine lv_iconst (v := 1) hx hb dL_law_1410 (by decide) ?_
  refine lv_iadd hx hb dL_law_1411 ?_
  refine pq_sld hx hb hX hbl hbA hS (j := 1) (show i + 1 < L by omega) (by omega) (by decide) dL_law_1412 ?_
  obtain ⟨hPs, hDs, hJ⟩ := pq_4y hP hD
  refine pq_lVi S (c_X7_parentOf l g am M (xs (i + 1)) bb M1 h7) vv_L_263 hK hPs hDs hS hA rfl rfl rfl rfl rfl hl.1 (Nat.le_of_ble_eq_true rfl) dL_law_1413 ⟨by decide, by decide⟩ ⟨by show cells+2 ≤ 603072; omega, by show slots+12 ≤ 7178346; omega⟩ (fun H1 locs1 hk hP1 hS1 => ?_)
  replace hP : va_P g.1 pq_cl ([(b1, .inl (g.2 3, 1, .inr (.inl ((pq_nf f (fun v => v.toInt64) o)))))] ++ ([(b2, .inl (g.2 4, 1, .inr (.inr (.inr (.inl (fd))))))] ++ (mainW g a T1 ++ modW g am M1))) H1 := hJ hk hP1
  replace hD : va_D A ([(b1, .inl (g.2 3, 1, .inr (.inl ((pq_nf f (fun v => v.toInt64) o)))))] ++ ([(b2, .inl (g.2 4, 1, .inr (.inr (.inr (.inl (fd))))))] ++ (mainW g a T1 ++ modW g am M1))) := pq_adr hD (ad_app rfl (ad_app rfl (ad_app (ad_X6 _ _) (ad_X7 _ _))))
  clear hJ hk hP1 hPs hDs hS
  generalize H1 = H at hP hS1 ⊢
  have hS := hS1
  clear hS1
  refine lv_istore (lv' := [(7, .int bb), (6, .int M1.1), (5, .int (nI i)), (0, .ref b), (1, .ref (a 0)), (2, .ref (am 0)), (3, .ref b1), (4, .ref b2)]) hx hb dL_law_1416 hl (by decide) rfl (fun ls hl => ?_)
  refine lv_aload_n hx hb dL_law_1418 rfl (lv_at hl 5 rfl) ?_
  obtain ⟨hPs, hDs, hJ⟩ := pq_4y hP hD
  refine pq_lV S (c_X7_thrown l g am M1 M1.1 rfl) vv_L_193 hK hPs rfl rfl rfl rfl rfl hl.1 (Nat.le_of_ble_eq_true rfl) dL_law_1419 ⟨by decide, by decide⟩ ⟨by show cells+2 ≤ 603072; omega, by show slots+12 ≤ 7178346; omega⟩ ?_
  clear hJ hPs hDs
  refine lv_iload hx hb dL_law_1422 (lv_at hl 1 rfl) ?_
  refine lv_icmp_eq (tgt := 1429) hx hb dL_law_1424 (by decide) (fun _ => ?_) (fun h9 => absurd rfl h9)
  refine lv_iload hx hb dL_law_1429 (lv_at hl 1 rfl) ?_
  refine lv_if_ne (tgt := 1446) hx hb dL_law_1431 (by decide) (fun h0 => ?_) (fun h0 => ?_)
  · skip
    refine lv_goto (tgt := 3417) hx hb dL_law_1446 (by decide) ?_
    exact W.widen (by omega) (by omega) (kk (pq_nf f (fun v => v.toInt64) o) fd T1 M1 H _ ls hPR1 hP hD hS (lv_sub hl [2, 3, 4, 5, 6, 7] rfl))
  · have e0 := hbb h0
    subst e0
    refine lv_aload_n hx hb dL_law_1434 rfl (lv_at hl 6 rfl) ?_
    refine lv_iconst (v := 0) hx hb dL_law_1435 (by decide) ?_
    refine va_lald hx hb hK.1 hP 0 3 rfl rfl pq_in01 dL_law_1436 ?_
    refine lv_iload hx hb dL_law_1437 (lv_at hl 0 rfl) ?_
    refine lv_i2l hx hb dL_law_1439 rfl ?_
    refine W.lcmp hx hb dL_law_1440 ?_
    refine lv_if_eq (tgt := 1446) hx hb dL_law_1441 (by decide) (fun _ => ?_) (fun h9 => absurd (pq_lcmp _) h9)
    refine lv_goto (tgt := 3417) hx hb dL_law_1446 (by decide) ?_
    exact W.widen (by omega) (by omega) (kk (pq_nf f (fun v => v.toInt64) (.inr bb)) fd T1 M1 H _ ls hPR1 hP hD hS (lv_sub hl [2, 3, 4, 5, 6, 7] rfl))
set_option maxHeartbeats 4000000 in
set_option maxRecDepth 100000 in
theorem lw_case22 {PR : MainS → ModS → Prop} (hM : pq_Ma PR) {p : Program} {l : Launch} {e : Env} {s : State} {m : MethodId} {below : List Frame} {meth : Method} {c : Code} {Q : State → Prop} {A : Nat → Prop} {b L : Nat} {xs : Nat → Int32} {g : pq_g} {a am : Nat → Nat} {b1 b2 : Nat} (hst : l.stackTraces = false) (S : CallFix p m c cL_law 9 s #[.ref b] pq_G RL) (hK : pq_K g s) (hT : pq_T A s s.heap) (hL9 : pq_L s) (hA : ∀ q : Nat, s.heap.size ≤ q → A q) (hX : va_X b L xs s s.heap) (hbl : b < s.heap.size) (hbA : ¬ A b) (hL : L ≤ 3072)
    {i : Nat} (hi : i + 6 ≤ L) {f : Nat → Int64} {fd : Nat → UInt64} {T : MainS} {M : ModS} {H : Heap} {locs : List Loc} {ls : Array Slot} {cells slots : Nat} (hPR : PR T M) (hP : va_P g.1 pq_cl ([(b1, .inl (g.2 3, 1, .inr (.inl (f))))] ++ ([(b2, .inl (g.2 4, 1, .inr (.inr (.inr (.inl (fd))))))] ++ (mainW g a T ++ modW g am M))) H) (hD : va_D A ([(b1, .inl (g.2 3, 1, .inr (.inl (f))))] ++ ([(b2, .inl (g.2 4, 1, .inr (.inr (.inr (.inl (fd))))))] ++ (mainW g a T ++ modW g am M)))) (hS : va_S A s.heap H locs) (hl : lv_has ls 9 [(5, .int (nI i)), (0, .ref b), (1, .ref (a 0)), (2, .ref (am 0)), (3, .ref b1), (4, .ref b2)]) (hc : cells ≤ 10000) (hs : slots ≤ 100000)
    (kk : ∀ (f1 : Nat → Int64) (fd1 : Nat → UInt64) (T1 : MainS) (M1 : ModS) (H1 : Heap) (locs1 : List Loc) (ls1 : Array Slot), PR T1 M1 → va_P g.1 pq_cl ([(b1, .inl (g.2 3, 1, .inr (.inl (f1))))] ++ ([(b2, .inl (g.2 4, 1, .inr (.inr (.inr (.inl (fd1))))))] ++ (mainW g a T1 ++ modW g am M1))) H1 → va_D A ([(b1, .inl (g.2 3, 1, .inr (.inl (f1))))] ++ ([(b2, .inl (g.2 4, 1, .inr (.inr (.inr (.inl (fd1))))))] ++ (mainW g a T1 ++ modW g am M1))) → va_S A s.heap H1 locs1 → lv_has ls1 9 [(5, .int (nI i)), (0, .ref b), (1, .ref (a 0)), (2, .ref (am 0)), (3, .ref b1), (4, .ref b2)] → W p l e room_1 s m #[.ref b] below meth c H1 locs1 (cells + 6) (slots + 36) Q (F0 m 3417 ls1 [])) : W p l e room_1 s m #[.ref b] below meth c H locs cells slots Q (F0 m 1449 ls []) := by
  obtain ⟨hx, hb, hml, hown, hts⟩ := id S
  obtain ⟨o, T1, bb, M1, h6, h7, hPR1, hcd, hbb⟩ := hM.depthOf T M (xs (i + 1)) hPR
  refine lv_aload_n hx hb dL_law_1449 rfl (lv_at hl 2 rfl) ?_
  refine lv_aload_n hx hb dL_law_1450 rfl (lv_at hl 1 rfl) ?_
  refine lv_iload hx hb dL_law_1451 (lv_at hl 0 rfl) ?_
  refine lv_iconst (v := 1) hx hb dL_law_1453 (by decide) ?_
  refine lv_iadd hx hb dL_law_1454 ?_
  refine pq_sld hx hb hX hbl hbA hS (j := 1) (show i + 1 < L by omega) (by omega) (by decide) dL_law_1455 ?_
  refine lv_aload_n hx hb dL_law_1456 rfl (lv_at hl 4 rfl) ?_
  obtain ⟨hPs, hDs, hJ⟩ := pq_4a hP hD
  refine pq_cH S (c_L_depthOf l g a b1 f T (xs (i + 1)) hst o T1 h6 M1.1 hcd) vh_L_264 hK hT hL9 hPs hDs hS hA rfl rfl hl.1 (Nat.le_of_ble_eq_true rfl) dL_law_1457 ⟨by decide, by decide⟩ ⟨by show cells + 1 ≤ 603072; omega, by show slots + 6 ≤ 7178346; omega⟩ (fun H1 locs1 hk hP1 hS1 => ?_)
  replace hP : va_P g.1 pq_cl ([(b1, .inl (g.2 3, 1, .inr (.inl ((pq_nf f (fun v => v.toInt64) o)))))] ++ ([(b2, .inl (g.2 4, 1, .inr (.inr (.inr (.inl (fd))))))] ++ (mainW g a T1 ++ modW g am M))) H1 := hJ hk hP1
  replace hD : va_D A ([(b1, .inl (g.2 3, 1, .inr (.inl ((pq_nf f (fun v => v.toInt64) o)))))] ++ ([(b2, .inl (g.2 4, 1, .inr (.inr (.inr (.inl (fd))))))] ++ (mainW g a T1 ++ modW g am M))) := pq_adr hD (ad_app rfl (ad_app rfl (ad_app (ad_X6 _ _) (ad_X7 _ _))))
  clear hJ hk hP1 hPs hDs hS
  generalize H1 = H at hP hS1 ⊢
  have hS := hS1
  clear hS1
  refine lv_istore (lv' := [(6, .int M1.1), (5, .int (nI i)), (0, .ref b), (1, .ref (a 0)), (2, .ref (am 0)), (3, .ref b1), (4, .ref b2)]) hx hb dL_law_1460 hl (by decide) rfl (fun ls hl => ?_)
  refine lv_aload_n hx hb dL_law_1462 rfl (lv_at hl 4 rfl) ?_
  refine lv_aload_n hx hb dL_law_1463 rfl (lv_at hl 2 rfl) ?_
  refine lv_iload hx hb dL_law_1464 (lv_at hl 1 rfl) ?_
  refine lv_iconst (v := 1) hx hb dL_law_1466 (by decide) ?_
  refine lv_iadd hx hb dL_law_1467 ?_
  refine pq_sld hx hb hX hbl hbA hS (j := 1) (show i + 1 < L by omega) (by omega) (by decide) dL_law_1468 ?_
  obtain ⟨hPs, hDs, hJ⟩ := pq_4y hP hD
  refine pq_lVi S (c_X7_depthOf l g am M (xs (i + 1)) bb M1 h7) vv_L_266 hK hPs hDs hS hA rfl rfl rfl rfl rfl hl.1 (Nat.le_of_ble_eq_true rfl) dL_law_1469 ⟨by decide, by decide⟩ ⟨by show cells+1 ≤ 603072; omega, by show slots+6 ≤ 7178346; omega⟩ (fun H1 locs1 hk hP1 hS1 => ?_)
  replace hP : va_P g.1 pq_cl ([(b1, .inl (g.2 3, 1, .inr (.inl ((pq_nf f (fun v => v.toInt64) o)))))] ++ ([(b2, .inl (g.2 4, 1, .inr (.inr (.inr (.inl (fd))))))] ++ (mainW g a T1 ++ modW g am M1))) H1 := hJ hk hP1
  replace hD : va_D A ([(b1, .inl (g.2 3, 1, .inr (.inl ((pq_nf f (fun v => v.toInt64) o)))))] ++ ([(b2, .inl (g.2 4, 1, .inr (.inr (.inr (.inl (fd))))))] ++ (mainW g a T1 ++ modW g am M1))) := pq_adr hD (ad_app rfl (ad_app rfl (ad_app (ad_X6 _ _) (ad_X7 _ _))))
  clear hJ hk hP1 hPs hDs hS
  generalize H1 = H at hP hS1 ⊢
  have hS := hS1
  clear hS1
  refine lv_istore (lv' := [(7, .int bb), (6, .int M1.1), (5, .int (nI i)), (0, .ref b), (1, .ref (a 0)), (2, .ref (am 0)), (3, .ref b1), (4, .ref b2)]) hx hb dL_law_1472 hl (by decide) rfl (fun ls hl => ?_)
  refine lv_aload_n hx hb dL_law_1474 rfl (lv_at hl 5 rfl) ?_
  obtain ⟨hPs, hDs, hJ⟩ := pq_4y hP hD
  refine pq_lV S (c_X7_thrown l g am M1 M1.1 rfl) vv_L_193 hK hPs rfl rfl rfl rfl rfl hl.1 (Nat.le_of_ble_eq_true rfl) dL_law_1475 ⟨by decide, by decide⟩ ⟨by show cells+1 ≤ 603072; omega, by show slots+6 ≤ 7178346; omega⟩ ?_
  clear hJ hPs hDs
  refine lv_iload hx hb dL_law_1478 (lv_at hl 1 rfl) ?_
  refine lv_icmp_eq (tgt := 1485) hx hb dL_law_1480 (by decide) (fun _ => ?_) (fun h9 => absurd rfl h9)
  refine lv_iload hx hb dL_law_1485 (lv_at hl 1 rfl) ?_
  refine lv_if_ne (tgt := 1502) hx hb dL_law_1487 (by decide) (fun h0 => ?_) (fun h0 => ?_)
  · skip
    refine lv_goto (tgt := 3417) hx hb dL_law_1502 (by decide) ?_
    exact W.widen (by omega) (by omega) (kk (pq_nf f (fun v => v.toInt64) o) fd T1 M1 H _ ls hPR1 hP hD hS (lv_sub hl [2, 3, 4, 5, 6, 7] rfl))
  · have e0 := hbb h0
    subst e0
    refine lv_aload_n hx hb dL_law_1490 rfl (lv_at hl 6 rfl) ?_
    refine lv_iconst (v := 0) hx hb dL_law_1491 (by decide) ?_
    refine va_lald hx hb hK.1 hP 0 3 rfl rfl pq_in01 dL_law_1492 ?_
    refine lv_iload hx hb dL_law_1493 (lv_at hl 0 rfl) ?_
    refine lv_i2l hx hb dL_law_1495 rfl ?_
    refine W.lcmp hx hb dL_law_1496 ?_
    refine lv_if_eq (tgt := 1502) hx hb dL_law_1497 (by decide) (fun _ => ?_) (fun h9 => absurd (pq_lcmp _) h9)
    refine lv_goto (tgt := 3417) hx hb dL_law_1502 (by decide) ?_
    exact W.widen (by omega) (by omega) (kk (pq_nf f (fun v => v.toInt64) (.inr bb)) fd T1 M1 H _ ls hPR1 hP hD hS (lv_sub hl [2, 3, 4, 5, 6, 7] rfl))
set_option maxHeartbeats 4000000 in
set_option maxRecDepth 100000 in
theorem lw_case23 {PR : MainS → ModS → Prop} (hM : pq_Ma PR) {p : Program} {l : Launch} {e : Env} {s : State} {m : MethodId} {below : List Frame} {meth : Method} {c : Code} {Q : State → Prop} {A : Nat → Prop} {b L : Nat} {xs : Nat → Int32} {g : pq_g} {a am : Nat → Nat} {b1 b2 : Nat} (hst : l.stackTraces = false) (S : CallFix p m c cL_law 9 s #[.ref b] pq_G RL) (hK : pq_K g s) (hT : pq_T A s s.heap) (hL9 : pq_L s) (hA : ∀ q : Nat, s.heap.size ≤ q → A q) (hX : va_X b L xs s s.heap) (hbl : b < s.heap.size) (hbA : ¬ A b) (hL : L ≤ 3072)
    {i : Nat} (hi : i + 6 ≤ L) {f : Nat → Int64} {fd : Nat → UInt64} {T : MainS} {M : ModS} {H : Heap} {locs : List Loc} {ls : Array Slot} {cells slots : Nat} (hPR : PR T M) (hP : va_P g.1 pq_cl ([(b1, .inl (g.2 3, 1, .inr (.inl (f))))] ++ ([(b2, .inl (g.2 4, 1, .inr (.inr (.inr (.inl (fd))))))] ++ (mainW g a T ++ modW g am M))) H) (hD : va_D A ([(b1, .inl (g.2 3, 1, .inr (.inl (f))))] ++ ([(b2, .inl (g.2 4, 1, .inr (.inr (.inr (.inl (fd))))))] ++ (mainW g a T ++ modW g am M)))) (hS : va_S A s.heap H locs) (hl : lv_has ls 9 [(5, .int (nI i)), (0, .ref b), (1, .ref (a 0)), (2, .ref (am 0)), (3, .ref b1), (4, .ref b2)]) (hc : cells ≤ 10000) (hs : slots ≤ 100000)
    (kk : ∀ (f1 : Nat → Int64) (fd1 : Nat → UInt64) (T1 : MainS) (M1 : ModS) (H1 : Heap) (locs1 : List Loc) (ls1 : Array Slot), PR T1 M1 → va_P g.1 pq_cl ([(b1, .inl (g.2 3, 1, .inr (.inl (f1))))] ++ ([(b2, .inl (g.2 4, 1, .inr (.inr (.inr (.inl (fd1))))))] ++ (mainW g a T1 ++ modW g am M1))) H1 → va_D A ([(b1, .inl (g.2 3, 1, .inr (.inl (f1))))] ++ ([(b2, .inl (g.2 4, 1, .inr (.inr (.inr (.inl (fd1))))))] ++ (mainW g a T1 ++ modW g am M1))) → va_S A s.heap H1 locs1 → lv_has ls1 9 [(5, .int (nI i)), (0, .ref b), (1, .ref (a 0)), (2, .ref (am 0)), (3, .ref b1), (4, .ref b2)] → W p l e room_1 s m #[.ref b] below meth c H1 locs1 (cells + 6) (slots + 36) Q (F0 m 3417 ls1 [])) : W p l e room_1 s m #[.ref b] below meth c H locs cells slots Q (F0 m 1505 ls []) := by
  obtain ⟨hx, hb, hml, hown, hts⟩ := id S
  obtain ⟨o, T1, bb, M1, h6, h7, hPR1, hcd, hbb⟩ := hM.subtreeSize T M (xs (i + 1)) hPR
  refine lv_aload_n hx hb dL_law_1505 rfl (lv_at hl 2 rfl) ?_
  refine lv_aload_n hx hb dL_law_1506 rfl (lv_at hl 1 rfl) ?_
  refine lv_iload hx hb dL_law_1507 (lv_at hl 0 rfl) ?_
  refine lv_iconst (v := 1) hx hb dL_law_1509 (by decide) ?_
  refine lv_iadd hx hb dL_law_1510 ?_
  refine pq_sld hx hb hX hbl hbA hS (j := 1) (show i + 1 < L by omega) (by omega) (by decide) dL_law_1511 ?_
  refine lv_aload_n hx hb dL_law_1512 rfl (lv_at hl 4 rfl) ?_
  obtain ⟨hPs, hDs, hJ⟩ := pq_4a hP hD
  refine pq_cH S (c_L_subtreeSize l g a b1 f T (xs (i + 1)) hst o T1 h6 M1.1 hcd) vh_L_267 hK hT hL9 hPs hDs hS hA rfl rfl hl.1 (Nat.le_of_ble_eq_true rfl) dL_law_1513 ⟨by decide, by decide⟩ ⟨by show cells + 1 ≤ 603072; omega, by show slots + 6 ≤ 7178346; omega⟩ (fun H1 locs1 hk hP1 hS1 => ?_)
  replace hP : va_P g.1 pq_cl ([(b1, .inl (g.2 3, 1, .inr (.inl ((pq_nf f (fun v => v.toInt64) o)))))] ++ ([(b2, .inl (g.2 4, 1, .inr (.inr (.inr (.inl (fd))))))] ++ (mainW g a T1 ++ modW g am M))) H1 := hJ hk hP1
  replace hD : va_D A ([(b1, .inl (g.2 3, 1, .inr (.inl ((pq_nf f (fun v => v.toInt64) o)))))] ++ ([(b2, .inl (g.2 4, 1, .inr (.inr (.inr (.inl (fd))))))] ++ (mainW g a T1 ++ modW g am M))) := pq_adr hD (ad_app rfl (ad_app rfl (ad_app (ad_X6 _ _) (ad_X7 _ _))))
  clear hJ hk hP1 hPs hDs hS
  generalize H1 = H at hP hS1 ⊢
  have hS := hS1
  clear hS1
  refine lv_istore (lv' := [(6, .int M1.1), (5, .int (nI i)), (0, .ref b), (1, .ref (a 0)), (2, .ref (am 0)), (3, .ref b1), (4, .ref b2)]) hx hb dL_law_1516 hl (by decide) rfl (fun ls hl => ?_)
  refine lv_aload_n hx hb dL_law_1518 rfl (lv_at hl 4 rfl) ?_
  refine lv_aload_n hx hb dL_law_1519 rfl (lv_at hl 2 rfl) ?_
  refine lv_iload hx hb dL_law_1520 (lv_at hl 1 rfl) ?_
  refine lv_iconst (v := 1) hx hb dL_law_1522 (by decide) ?_
  refine lv_iadd hx hb dL_law_1523 ?_
  refine pq_sld hx hb hX hbl hbA hS (j := 1) (show i + 1 < L by omega) (by omega) (by decide) dL_law_1524 ?_
  obtain ⟨hPs, hDs, hJ⟩ := pq_4y hP hD
  refine pq_lVi S (c_X7_subtreeSize l g am M (xs (i + 1)) bb M1 h7) vv_L_269 hK hPs hDs hS hA rfl rfl rfl rfl rfl hl.1 (Nat.le_of_ble_eq_true rfl) dL_law_1525 ⟨by decide, by decide⟩ ⟨by show cells+1 ≤ 603072; omega, by show slots+6 ≤ 7178346; omega⟩ (fun H1 locs1 hk hP1 hS1 => ?_)
  replace hP : va_P g.1 pq_cl ([(b1, .inl (g.2 3, 1, .inr (.inl ((pq_nf f (fun v => v.toInt64) o)))))] ++ ([(b2, .inl (g.2 4, 1, .inr (.inr (.inr (.inl (fd))))))] ++ (mainW g a T1 ++ modW g am M1))) H1 := hJ hk hP1
  replace hD : va_D A ([(b1, .inl (g.2 3, 1, .inr (.inl ((pq_nf f (fun v => v.toInt64) o)))))] ++ ([(b2, .inl (g.2 4, 1, .inr (.inr (.inr (.inl (fd))))))] ++ (mainW g a T1 ++ modW g am M1))) := pq_adr hD (ad_app rfl (ad_app rfl (ad_app (ad_X6 _ _) (ad_X7 _ _))))
  clear hJ hk hP1 hPs hDs hS
  generalize H1 = H at hP hS1 ⊢
  have hS := hS1
  clear hS1
  refine lv_istore (lv' := [(7, .int bb), (6, .int M1.1), (5, .int (nI i)), (0, .ref b), (1, .ref (a 0)), (2, .ref (am 0)), (3, .ref b1), (4, .ref b2)]) hx hb dL_law_1528 hl (by decide) rfl (fun ls hl => ?_)
  refine lv_aload_n hx hb dL_law_1530 rfl (lv_at hl 5 rfl) ?_
  obtain ⟨hPs, hDs, hJ⟩ := pq_4y hP hD
  refine pq_lV S (c_X7_thrown l g am M1 M1.1 rfl) vv_L_193 hK hPs rfl rfl rfl rfl rfl hl.1 (Nat.le_of_ble_eq_true rfl) dL_law_1531 ⟨by decide, by decide⟩ ⟨by show cells+1 ≤ 603072; omega, by show slots+6 ≤ 7178346; omega⟩ ?_
  clear hJ hPs hDs
  refine lv_iload hx hb dL_law_1534 (lv_at hl 1 rfl) ?_
  refine lv_icmp_eq (tgt := 1541) hx hb dL_law_1536 (by decide) (fun _ => ?_) (fun h9 => absurd rfl h9)
  refine lv_iload hx hb dL_law_1541 (lv_at hl 1 rfl) ?_
  refine lv_if_ne (tgt := 1558) hx hb dL_law_1543 (by decide) (fun h0 => ?_) (fun h0 => ?_)
  · skip
    refine lv_goto (tgt := 3417) hx hb dL_law_1558 (by decide) ?_
    exact W.widen (by omega) (by omega) (kk (pq_nf f (fun v => v.toInt64) o) fd T1 M1 H _ ls hPR1 hP hD hS (lv_sub hl [2, 3, 4, 5, 6, 7] rfl))
  · have e0 := hbb h0
    subst e0
    refine lv_aload_n hx hb dL_law_1546 rfl (lv_at hl 6 rfl) ?_
    refine lv_iconst (v := 0) hx hb dL_law_1547 (by decide) ?_
    refine va_lald hx hb hK.1 hP 0 3 rfl rfl pq_in01 dL_law_1548 ?_
    refine lv_iload hx hb dL_law_1549 (lv_at hl 0 rfl) ?_
    refine lv_i2l hx hb dL_law_1551 rfl ?_
    refine W.lcmp hx hb dL_law_1552 ?_
    refine lv_if_eq (tgt := 1558) hx hb dL_law_1553 (by decide) (fun _ => ?_) (fun h9 => absurd (pq_lcmp _) h9)
    refine lv_goto (tgt := 3417) hx hb dL_law_1558 (by decide) ?_
    exact W.widen (by omega) (by omega) (kk (pq_nf f (fun v => v.toInt64) (.inr bb)) fd T1 M1 H _ ls hPR1 hP hD hS (lv_sub hl [2, 3, 4, 5, 6, 7] rfl))
set_option maxHeartbeats 4000000 in
set_option maxRecDepth 100000 in
theorem lw_case24 {PR : MainS → ModS → Prop} (hM : pq_Ma PR) {p : Program} {l : Launch} {e : Env} {s : State} {m : MethodId} {below : List Frame} {meth : Method} {c : Code} {Q : State → Prop} {A : Nat → Prop} {b L : Nat} {xs : Nat → Int32} {g : pq_g} {a am : Nat → Nat} {b1 b2 : Nat} (hst : l.stackTraces = false) (S : CallFix p m c cL_law 9 s #[.ref b] pq_G RL) (hK : pq_K g s) (hT : pq_T A s s.heap) (hL9 : pq_L s) (hA : ∀ q : Nat, s.heap.size ≤ q → A q) (hX : va_X b L xs s s.heap) (hbl : b < s.heap.size) (hbA : ¬ A b) (hL : L ≤ 3072)
    {i : Nat} (hi : i + 6 ≤ L) {f : Nat → Int64} {fd : Nat → UInt64} {T : MainS} {M : ModS} {H : Heap} {locs : List Loc} {ls : Array Slot} {cells slots : Nat} (hPR : PR T M) (hP : va_P g.1 pq_cl ([(b1, .inl (g.2 3, 1, .inr (.inl (f))))] ++ ([(b2, .inl (g.2 4, 1, .inr (.inr (.inr (.inl (fd))))))] ++ (mainW g a T ++ modW g am M))) H) (hD : va_D A ([(b1, .inl (g.2 3, 1, .inr (.inl (f))))] ++ ([(b2, .inl (g.2 4, 1, .inr (.inr (.inr (.inl (fd))))))] ++ (mainW g a T ++ modW g am M)))) (hS : va_S A s.heap H locs) (hl : lv_has ls 9 [(5, .int (nI i)), (0, .ref b), (1, .ref (a 0)), (2, .ref (am 0)), (3, .ref b1), (4, .ref b2)]) (hc : cells ≤ 10000) (hs : slots ≤ 100000)
    (kk : ∀ (f1 : Nat → Int64) (fd1 : Nat → UInt64) (T1 : MainS) (M1 : ModS) (H1 : Heap) (locs1 : List Loc) (ls1 : Array Slot), PR T1 M1 → va_P g.1 pq_cl ([(b1, .inl (g.2 3, 1, .inr (.inl (f1))))] ++ ([(b2, .inl (g.2 4, 1, .inr (.inr (.inr (.inl (fd1))))))] ++ (mainW g a T1 ++ modW g am M1))) H1 → va_D A ([(b1, .inl (g.2 3, 1, .inr (.inl (f1))))] ++ ([(b2, .inl (g.2 4, 1, .inr (.inr (.inr (.inl (fd1))))))] ++ (mainW g a T1 ++ modW g am M1))) → va_S A s.heap H1 locs1 → lv_has ls1 9 [(5, .int (nI i)), (0, .ref b), (1, .ref (a 0)), (2, .ref (am 0)), (3, .ref b1), (4, .ref b2)] → W p l e room_1 s m #[.ref b] below meth c H1 locs1 (cells + 6) (slots + 36) Q (F0 m 3417 ls1 [])) : W p l e room_1 s m #[.ref b] below meth c H locs cells slots Q (F0 m 1561 ls []) := by
  obtain ⟨hx, hb, hml, hown, hts⟩ := id S
  obtain ⟨o, T1, bb, M1, h6, h7, hPR1, hcd, hbb⟩ := hM.imbalanceOf T M (xs (i + 1)) hPR
  refine lv_aload_n hx hb dL_law_1561 rfl (lv_at hl 2 rfl) ?_
  refine lv_aload_n hx hb dL_law_1562 rfl (lv_at hl 1 rfl) ?_
  refine lv_iload hx hb dL_law_1563 (lv_at hl 0 rfl) ?_
  refine lv_iconst (v := 1) hx hb dL_law_1565 (by decide) ?_
  refine lv_iadd hx hb dL_law_1566 ?_
  refine pq_sld hx hb hX hbl hbA hS (j := 1) (show i + 1 < L by omega) (by omega) (by decide) dL_law_1567 ?_
  refine lv_aload_n hx hb dL_law_1568 rfl (lv_at hl 4 rfl) ?_
  obtain ⟨hPs, hDs, hJ⟩ := pq_4a hP hD
  refine pq_cH S (c_L_imbalanceOf l g a b1 f T (xs (i + 1)) hst o T1 h6 M1.1 hcd) vh_L_270 hK hT hL9 hPs hDs hS hA rfl rfl hl.1 (Nat.le_of_ble_eq_true rfl) dL_law_1569 ⟨by decide, by decide⟩ ⟨by show cells + 1 ≤ 603072; omega, by show slots + 6 ≤ 7178346; omega⟩ (fun H1 locs1 hk hP1 hS1 => ?_)
  replace hP : va_P g.1 pq_cl ([(b1, .inl (g.2 3, 1, .inr (.inl ((pq_nf f (fun v => v.toInt64) o)))))] ++ ([(b2, .inl (g.2 4, 1, .inr (.inr (.inr (.inl (fd))))))] ++ (mainW g a T1 ++ modW g am M))) H1 := hJ hk hP1
  replace hD : va_D A ([(b1, .inl (g.2 3, 1, .inr (.inl ((pq_nf f (fun v => v.toInt64) o)))))] ++ ([(b2, .inl (g.2 4, 1, .inr (.inr (.inr (.inl (fd))))))] ++ (mainW g a T1 ++ modW g am M))) := pq_adr hD (ad_app rfl (ad_app rfl (ad_app (ad_X6 _ _) (ad_X7 _ _))))
  clear hJ hk hP1 hPs hDs hS
  generalize H1 = H at hP hS1 ⊢
  have hS := hS1
  clear hS1
  refine lv_istore (lv' := [(6, .int M1.1), (5, .int (nI i)), (0, .ref b), (1, .ref (a 0)), (2, .ref (am 0)), (3, .ref b1), (4, .ref b2)]) hx hb dL_law_1572 hl (by decide) rfl (fun ls hl => ?_)
  refine lv_aload_n hx hb dL_law_1574 rfl (lv_at hl 4 rfl) ?_
  refine lv_aload_n hx hb dL_law_1575 rfl (lv_at hl 2 rfl) ?_
  refine lv_iload hx hb dL_law_1576 (lv_at hl 1 rfl) ?_
  refine lv_iconst (v := 1) hx hb dL_law_1578 (by decide) ?_
  refine lv_iadd hx hb dL_law_1579 ?_
  refine pq_sld hx hb hX hbl hbA hS (j := 1) (show i + 1 < L by omega) (by omega) (by decide) dL_law_1580 ?_
  obtain ⟨hPs, hDs, hJ⟩ := pq_4y hP hD
  refine pq_lVi S (c_X7_imbalanceOf l g am M (xs (i + 1)) bb M1 h7) vv_L_272 hK hPs hDs hS hA rfl rfl rfl rfl rfl hl.1 (Nat.le_of_ble_eq_true rfl) dL_law_1581 ⟨by decide, by decide⟩ ⟨by show cells+1 ≤ 603072; omega, by show slots+6 ≤ 7178346; omega⟩ (fun H1 locs1 hk hP1 hS1 => ?_)
  replace hP : va_P g.1 pq_cl ([(b1, .inl (g.2 3, 1, .inr (.inl ((pq_nf f (fun v => v.toInt64) o)))))] ++ ([(b2, .inl (g.2 4, 1, .inr (.inr (.inr (.inl (fd))))))] ++ (mainW g a T1 ++ modW g am M1))) H1 := hJ hk hP1
  replace hD : va_D A ([(b1, .inl (g.2 3, 1, .inr (.inl ((pq_nf f (fun v => v.toInt64) o)))))] ++ ([(b2, .inl (g.2 4, 1, .inr (.inr (.inr (.inl (fd))))))] ++ (mainW g a T1 ++ modW g am M1))) := pq_adr hD (ad_app rfl (ad_app rfl (ad_app (ad_X6 _ _) (ad_X7 _ _))))
  clear hJ hk hP1 hPs hDs hS
  generalize H1 = H at hP hS1 ⊢
  have hS := hS1
  clear hS1
  refine lv_istore (lv' := [(7, .int bb), (6, .int M1.1), (5, .int (nI i)), (0, .ref b), (1, .ref (a 0)), (2, .ref (am 0)), (3, .ref b1), (4, .ref b2)]) hx hb dL_law_1584 hl (by decide) rfl (fun ls hl => ?_)
  refine lv_aload_n hx hb dL_law_1586 rfl (lv_at hl 5 rfl) ?_
  obtain ⟨hPs, hDs, hJ⟩ := pq_4y hP hD
  refine pq_lV S (c_X7_thrown l g am M1 M1.1 rfl) vv_L_193 hK hPs rfl rfl rfl rfl rfl hl.1 (Nat.le_of_ble_eq_true rfl) dL_law_1587 ⟨by decide, by decide⟩ ⟨by show cells+1 ≤ 603072; omega, by show slots+6 ≤ 7178346; omega⟩ ?_
  clear hJ hPs hDs
  refine lv_iload hx hb dL_law_1590 (lv_at hl 1 rfl) ?_
  refine lv_icmp_eq (tgt := 1597) hx hb dL_law_1592 (by decide) (fun _ => ?_) (fun h9 => absurd rfl h9)
  refine lv_iload hx hb dL_law_1597 (lv_at hl 1 rfl) ?_
  refine lv_if_ne (tgt := 1614) hx hb dL_law_1599 (by decide) (fun h0 => ?_) (fun h0 => ?_)
  · skip
    refine lv_goto (tgt := 3417) hx hb dL_law_1614 (by decide) ?_
    exact W.widen (by omega) (by omega) (kk (pq_nf f (fun v => v.toInt64) o) fd T1 M1 H _ ls hPR1 hP hD hS (lv_sub hl [2, 3, 4, 5, 6, 7] rfl))
  · have e0 := hbb h0
    subst e0
    refine lv_aload_n hx hb dL_law_1602 rfl (lv_at hl 6 rfl) ?_
    refine lv_iconst (v := 0) hx hb dL_law_1603 (by decide) ?_
    refine va_lald hx hb hK.1 hP 0 3 rfl rfl pq_in01 dL_law_1604 ?_
    refine lv_iload hx hb dL_law_1605 (lv_at hl 0 rfl) ?_
    refine lv_i2l hx hb dL_law_1607 rfl ?_
    refine W.lcmp hx hb dL_law_1608 ?_
    refine lv_if_eq (tgt := 1614) hx hb dL_law_1609 (by decide) (fun _ => ?_) (fun h9 => absurd (pq_lcmp _) h9)
    refine lv_goto (tgt := 3417) hx hb dL_law_1614 (by decide) ?_
    exact W.widen (by omega) (by omega) (kk (pq_nf f (fun v => v.toInt64) (.inr bb)) fd T1 M1 H _ ls hPR1 hP hD hS (lv_sub hl [2, 3, 4, 5, 6, 7] rfl))
set_option maxHeartbeats 4000000 in
set_option maxRecDepth 100000 in
theorem lw_case25 {PR : MainS → ModS → Prop} (hM : pq_Ma PR) {p : Program} {l : Launch} {e : Env} {s : State} {m : MethodId} {below : List Frame} {meth : Method} {c : Code} {Q : State → Prop} {A : Nat → Prop} {b L : Nat} {xs : Nat → Int32} {g : pq_g} {a am : Nat → Nat} {b1 b2 : Nat} (hst : l.stackTraces = false) (S : CallFix p m c cL_law 9 s #[.ref b] pq_G RL) (hK : pq_K g s) (hT : pq_T A s s.heap) (hL9 : pq_L s) (hA : ∀ q : Nat, s.heap.size ≤ q → A q) (hX : va_X b L xs s s.heap) (hbl : b < s.heap.size) (hbA : ¬ A b) (hL : L ≤ 3072)
    {i : Nat} (hi : i + 6 ≤ L) {f : Nat → Int64} {fd : Nat → UInt64} {T : MainS} {M : ModS} {H : Heap} {locs : List Loc} {ls : Array Slot} {cells slots : Nat} (hPR : PR T M) (hP : va_P g.1 pq_cl ([(b1, .inl (g.2 3, 1, .inr (.inl (f))))] ++ ([(b2, .inl (g.2 4, 1, .inr (.inr (.inr (.inl (fd))))))] ++ (mainW g a T ++ modW g am M))) H) (hD : va_D A ([(b1, .inl (g.2 3, 1, .inr (.inl (f))))] ++ ([(b2, .inl (g.2 4, 1, .inr (.inr (.inr (.inl (fd))))))] ++ (mainW g a T ++ modW g am M)))) (hS : va_S A s.heap H locs) (hl : lv_has ls 9 [(5, .int (nI i)), (0, .ref b), (1, .ref (a 0)), (2, .ref (am 0)), (3, .ref b1), (4, .ref b2)]) (hc : cells ≤ 10000) (hs : slots ≤ 100000)
    (kk : ∀ (f1 : Nat → Int64) (fd1 : Nat → UInt64) (T1 : MainS) (M1 : ModS) (H1 : Heap) (locs1 : List Loc) (ls1 : Array Slot), PR T1 M1 → va_P g.1 pq_cl ([(b1, .inl (g.2 3, 1, .inr (.inl (f1))))] ++ ([(b2, .inl (g.2 4, 1, .inr (.inr (.inr (.inl (fd1))))))] ++ (mainW g a T1 ++ modW g am M1))) H1 → va_D A ([(b1, .inl (g.2 3, 1, .inr (.inl (f1))))] ++ ([(b2, .inl (g.2 4, 1, .inr (.inr (.inr (.inl (fd1))))))] ++ (mainW g a T1 ++ modW g am M1))) → va_S A s.heap H1 locs1 → lv_has ls1 9 [(5, .int (nI i)), (0, .ref b), (1, .ref (a 0)), (2, .ref (am 0)), (3, .ref b1), (4, .ref b2)] → W p l e room_1 s m #[.ref b] below meth c H1 locs1 (cells + 6) (slots + 36) Q (F0 m 3417 ls1 [])) : W p l e room_1 s m #[.ref b] below meth c H locs cells slots Q (F0 m 1617 ls []) := by
  obtain ⟨hx, hb, hml, hown, hts⟩ := id S
  obtain ⟨bb, M1, h6, h7, hPR1⟩ := hM.height T M hPR
  refine lv_aload_n hx hb dL_law_1617 rfl (lv_at hl 2 rfl) ?_
  obtain ⟨hPs, hDs, hJ⟩ := pq_4x hP hD
  refine pq_lV S (c_X6_height l g a T bb h6) vv_L_273 hK hPs rfl rfl rfl rfl rfl hl.1 (Nat.le_of_ble_eq_true rfl) dL_law_1618 ⟨by decide, by decide⟩ ⟨by show cells ≤ 603072; omega, by show slots ≤ 7178346; omega⟩ ?_
  clear hJ hPs hDs
  refine lv_aload_n hx hb dL_law_1621 rfl (lv_at hl 3 rfl) ?_
  obtain ⟨hPs, hDs, hJ⟩ := pq_4y hP hD
  refine pq_lVi S (c_X7_height l g am M bb M1 h7) vv_L_276 hK hPs hDs hS hA rfl rfl rfl rfl rfl hl.1 (Nat.le_of_ble_eq_true rfl) dL_law_1622 ⟨by decide, by decide⟩ ⟨by show cells ≤ 603072; omega, by show slots ≤ 7178346; omega⟩ (fun H1 locs1 hk hP1 hS1 => ?_)
  replace hP : va_P g.1 pq_cl ([(b1, .inl (g.2 3, 1, .inr (.inl (f))))] ++ ([(b2, .inl (g.2 4, 1, .inr (.inr (.inr (.inl (fd))))))] ++ (mainW g a T ++ modW g am M1))) H1 := hJ hk hP1
  replace hD : va_D A ([(b1, .inl (g.2 3, 1, .inr (.inl (f))))] ++ ([(b2, .inl (g.2 4, 1, .inr (.inr (.inr (.inl (fd))))))] ++ (mainW g a T ++ modW g am M1))) := pq_adr hD (ad_app rfl (ad_app rfl (ad_app (ad_X6 _ _) (ad_X7 _ _))))
  clear hJ hk hP1 hPs hDs hS
  generalize H1 = H at hP hS1 ⊢
  have hS := hS1
  clear hS1
  refine lv_icmp_eq (tgt := 3417) hx hb dL_law_1625 (by decide) (fun _ => ?_) (fun h9 => absurd rfl h9)
  exact W.widen (by omega) (by omega) (kk f fd T M1 H _ ls hPR1 hP hD hS (lv_sub hl [0, 1, 2, 3, 4, 5] rfl))
set_option maxHeartbeats 4000000 in
set_option maxRecDepth 100000 in
theorem lw_case26 {PR : MainS → ModS → Prop} (hM : pq_Ma PR) {p : Program} {l : Launch} {e : Env} {s : State} {m : MethodId} {below : List Frame} {meth : Method} {c : Code} {Q : State → Prop} {A : Nat → Prop} {b L : Nat} {xs : Nat → Int32} {g : pq_g} {a am : Nat → Nat} {b1 b2 : Nat} (hst : l.stackTraces = false) (S : CallFix p m c cL_law 9 s #[.ref b] pq_G RL) (hK : pq_K g s) (hT : pq_T A s s.heap) (hL9 : pq_L s) (hA : ∀ q : Nat, s.heap.size ≤ q → A q) (hX : va_X b L xs s s.heap) (hbl : b < s.heap.size) (hbA : ¬ A b) (hL : L ≤ 3072)
    {i : Nat} (hi : i + 6 ≤ L) {f : Nat → Int64} {fd : Nat → UInt64} {T : MainS} {M : ModS} {H : Heap} {locs : List Loc} {ls : Array Slot} {cells slots : Nat} (hPR : PR T M) (hP : va_P g.1 pq_cl ([(b1, .inl (g.2 3, 1, .inr (.inl (f))))] ++ ([(b2, .inl (g.2 4, 1, .inr (.inr (.inr (.inl (fd))))))] ++ (mainW g a T ++ modW g am M))) H) (hD : va_D A ([(b1, .inl (g.2 3, 1, .inr (.inl (f))))] ++ ([(b2, .inl (g.2 4, 1, .inr (.inr (.inr (.inl (fd))))))] ++ (mainW g a T ++ modW g am M)))) (hS : va_S A s.heap H locs) (hl : lv_has ls 9 [(5, .int (nI i)), (0, .ref b), (1, .ref (a 0)), (2, .ref (am 0)), (3, .ref b1), (4, .ref b2)]) (hc : cells ≤ 10000) (hs : slots ≤ 100000)
    (kk : ∀ (f1 : Nat → Int64) (fd1 : Nat → UInt64) (T1 : MainS) (M1 : ModS) (H1 : Heap) (locs1 : List Loc) (ls1 : Array Slot), PR T1 M1 → va_P g.1 pq_cl ([(b1, .inl (g.2 3, 1, .inr (.inl (f1))))] ++ ([(b2, .inl (g.2 4, 1, .inr (.inr (.inr (.inl (fd1))))))] ++ (mainW g a T1 ++ modW g am M1))) H1 → va_D A ([(b1, .inl (g.2 3, 1, .inr (.inl (f1))))] ++ ([(b2, .inl (g.2 4, 1, .inr (.inr (.inr (.inl (fd1))))))] ++ (mainW g a T1 ++ modW g am M1))) → va_S A s.heap H1 locs1 → lv_has ls1 9 [(5, .int (nI i)), (0, .ref b), (1, .ref (a 0)), (2, .ref (am 0)), (3, .ref b1), (4, .ref b2)] → W p l e room_1 s m #[.ref b] below meth c H1 locs1 (cells + 6) (slots + 36) Q (F0 m 3417 ls1 [])) : W p l e room_1 s m #[.ref b] below meth c H locs cells slots Q (F0 m 1630 ls []) := by
  obtain ⟨hx, hb, hml, hown, hts⟩ := id S
  obtain ⟨bb, M1, h6, h7, hPR1⟩ := hM.leafCount T M hPR
  refine lv_aload_n hx hb dL_law_1630 rfl (lv_at hl 2 rfl) ?_
  obtain ⟨hPs, hDs, hJ⟩ := pq_4x hP hD
  refine pq_lV S (c_X6_leafCount l g a T bb h6) vv_L_277 hK hPs rfl rfl rfl rfl rfl hl.1 (Nat.le_of_ble_eq_true rfl) dL_law_1631 ⟨by decide, by decide⟩ ⟨by show cells ≤ 603072; omega, by show slots ≤ 7178346; omega⟩ ?_
  clear hJ hPs hDs
  refine lv_aload_n hx hb dL_law_1634 rfl (lv_at hl 3 rfl) ?_
  obtain ⟨hPs, hDs, hJ⟩ := pq_4y hP hD
  refine pq_lVi S (c_X7_leafCount l g am M bb M1 h7) vv_L_280 hK hPs hDs hS hA rfl rfl rfl rfl rfl hl.1 (Nat.le_of_ble_eq_true rfl) dL_law_1635 ⟨by decide, by decide⟩ ⟨by show cells ≤ 603072; omega, by show slots ≤ 7178346; omega⟩ (fun H1 locs1 hk hP1 hS1 => ?_)
  replace hP : va_P g.1 pq_cl ([(b1, .inl (g.2 3, 1, .inr (.inl (f))))] ++ ([(b2, .inl (g.2 4, 1, .inr (.inr (.inr (.inl (fd))))))] ++ (mainW g a T ++ modW g am M1))) H1 := hJ hk hP1
  replace hD : va_D A ([(b1, .inl (g.2 3, 1, .inr (.inl (f))))] ++ ([(b2, .inl (g.2 4, 1, .inr (.inr (.inr (.inl (fd))))))] ++ (mainW g a T ++ modW g am M1))) := pq_adr hD (ad_app rfl (ad_app rfl (ad_app (ad_X6 _ _) (ad_X7 _ _))))
  clear hJ hk hP1 hPs hDs hS
  generalize H1 = H at hP hS1 ⊢
  have hS := hS1
  clear hS1
  refine lv_icmp_eq (tgt := 3417) hx hb dL_law_1638 (by decide) (fun _ => ?_) (fun h9 => absurd rfl h9)
  exact W.widen (by omega) (by omega) (kk f fd T M1 H _ ls hPR1 hP hD hS (lv_sub hl [0, 1, 2, 3, 4, 5] rfl))
set_option maxHeartbeats 4000000 in
set_option maxRecDepth 100000 in
theorem lw_case27 {PR : MainS → ModS → Prop} (hM : pq_Ma PR) {p : Program} {l : Launch} {e : Env} {s : State} {m : MethodId} {below : List Frame} {meth : Method} {c : Code} {Q : State → Prop} {A : Nat → Prop} {b L : Nat} {xs : Nat → Int32} {g : pq_g} {a am : Nat → Nat} {b1 b2 : Nat} (hst : l.stackTraces = false) (S : CallFix p m c cL_law 9 s #[.ref b] pq_G RL) (hK : pq_K g s) (hT : pq_T A s s.heap) (hL9 : pq_L s) (hA : ∀ q : Nat, s.heap.size ≤ q → A q) (hX : va_X b L xs s s.heap) (hbl : b < s.heap.size) (hbA : ¬ A b) (hL : L ≤ 3072)
    {i : Nat} (hi : i + 6 ≤ L) {f : Nat → Int64} {fd : Nat → UInt64} {T : MainS} {M : ModS} {H : Heap} {locs : List Loc} {ls : Array Slot} {cells slots : Nat} (hPR : PR T M) (hP : va_P g.1 pq_cl ([(b1, .inl (g.2 3, 1, .inr (.inl (f))))] ++ ([(b2, .inl (g.2 4, 1, .inr (.inr (.inr (.inl (fd))))))] ++ (mainW g a T ++ modW g am M))) H) (hD : va_D A ([(b1, .inl (g.2 3, 1, .inr (.inl (f))))] ++ ([(b2, .inl (g.2 4, 1, .inr (.inr (.inr (.inl (fd))))))] ++ (mainW g a T ++ modW g am M)))) (hS : va_S A s.heap H locs) (hl : lv_has ls 9 [(5, .int (nI i)), (0, .ref b), (1, .ref (a 0)), (2, .ref (am 0)), (3, .ref b1), (4, .ref b2)]) (hc : cells ≤ 10000) (hs : slots ≤ 100000)
    (kk : ∀ (f1 : Nat → Int64) (fd1 : Nat → UInt64) (T1 : MainS) (M1 : ModS) (H1 : Heap) (locs1 : List Loc) (ls1 : Array Slot), PR T1 M1 → va_P g.1 pq_cl ([(b1, .inl (g.2 3, 1, .inr (.inl (f1))))] ++ ([(b2, .inl (g.2 4, 1, .inr (.inr (.inr (.inl (fd1))))))] ++ (mainW g a T1 ++ modW g am M1))) H1 → va_D A ([(b1, .inl (g.2 3, 1, .inr (.inl (f1))))] ++ ([(b2, .inl (g.2 4, 1, .inr (.inr (.inr (.inl (fd1))))))] ++ (mainW g a T1 ++ modW g am M1))) → va_S A s.heap H1 locs1 → lv_has ls1 9 [(5, .int (nI i)), (0, .ref b), (1, .ref (a 0)), (2, .ref (am 0)), (3, .ref b1), (4, .ref b2)] → W p l e room_1 s m #[.ref b] below meth c H1 locs1 (cells + 6) (slots + 36) Q (F0 m 3417 ls1 [])) : W p l e room_1 s m #[.ref b] below meth c H locs cells slots Q (F0 m 1643 ls []) := by
  obtain ⟨hx, hb, hml, hown, hts⟩ := id S
  obtain ⟨o, T1, bb, M1, h6, h7, hPR1, hcd, hbb⟩ := hM.commonAncestor T M (xs (i + 1)) (xs (i + 2)) hPR
  refine lv_aload_n hx hb dL_law_1643 rfl (lv_at hl 2 rfl) ?_
  refine lv_aload_n hx hb dL_law_1644 rfl (lv_at hl 1 rfl) ?_
  refine lv_iload hx hb dL_law_1645 (lv_at hl 0 rfl) ?_
  refine lv_iconst (v := 1) hx hb dL_law_1647 (by decide) ?_
  refine lv_iadd hx hb dL_law_1648 ?_
  refine pq_sld hx hb hX hbl hbA hS (j := 1) (show i + 1 < L by omega) (by omega) (by decide) dL_law_1649 ?_
  refine lv_aload_n hx hb dL_law_1650 rfl (lv_at hl 1 rfl) ?_
  refine lv_iload hx hb dL_law_1651 (lv_at hl 0 rfl) ?_
  refine lv_iconst (v := 2) hx hb dL_law_1653 (by decide) ?_
  refine lv_iadd hx hb dL_law_1654 ?_
  refine pq_sld hx hb hX hbl hbA hS (j := 2) (show i + 2 < L by omega) (by omega) (by decide) dL_law_1655 ?_
  refine lv_aload_n hx hb dL_law_1656 rfl (lv_at hl 4 rfl) ?_
  obtain ⟨hPs, hDs, hJ⟩ := pq_4a hP hD
  refine pq_cH S (c_L_commonAncestor l g a b1 f T (xs (i + 1)) (xs (i + 2)) hst o T1 h6 M1.1 hcd) vh_L_281 hK hT hL9 hPs hDs hS hA rfl rfl hl.1 (Nat.le_of_ble_eq_true rfl) dL_law_1657 ⟨by decide, by decide⟩ ⟨by show cells + 2 ≤ 603072; omega, by show slots + 12 ≤ 7178346; omega⟩ (fun H1 locs1 hk hP1 hS1 => ?_)
  replace hP : va_P g.1 pq_cl ([(b1, .inl (g.2 3, 1, .inr (.inl ((pq_nf f (fun v => v.toInt64) o)))))] ++ ([(b2, .inl (g.2 4, 1, .inr (.inr (.inr (.inl (fd))))))] ++ (mainW g a T1 ++ modW g am M))) H1 := hJ hk hP1
  replace hD : va_D A ([(b1, .inl (g.2 3, 1, .inr (.inl ((pq_nf f (fun v => v.toInt64) o)))))] ++ ([(b2, .inl (g.2 4, 1, .inr (.inr (.inr (.inl (fd))))))] ++ (mainW g a T1 ++ modW g am M))) := pq_adr hD (ad_app rfl (ad_app rfl (ad_app (ad_X6 _ _) (ad_X7 _ _))))
  clear hJ hk hP1 hPs hDs hS
  generalize H1 = H at hP hS1 ⊢
  have hS := hS1
  clear hS1
  refine lv_istore (lv' := [(6, .int M1.1), (5, .int (nI i)), (0, .ref b), (1, .ref (a 0)), (2, .ref (am 0)), (3, .ref b1), (4, .ref b2)]) hx hb dL_law_1660 hl (by decide) rfl (fun ls hl => ?_)
  refine lv_aload_n hx hb dL_law_1662 rfl (lv_at hl 4 rfl) ?_
  refine lv_aload_n hx hb dL_law_1663 rfl (lv_at hl 2 rfl) ?_
  refine lv_iload hx hb dL_law_1664 (lv_at hl 1 rfl) ?_
  refine lv_iconst (v := 1) hx hb dL_law_1666 (by decide) ?_
  refine lv_iadd hx hb dL_law_1667 ?_
  refine pq_sld hx hb hX hbl hbA hS (j := 1) (show i + 1 < L by omega) (by omega) (by decide) dL_law_1668 ?_
  refine lv_aload_n hx hb dL_law_1669 rfl (lv_at hl 2 rfl) ?_
  refine lv_iload hx hb dL_law_1670 (lv_at hl 1 rfl) ?_
  refine lv_iconst (v := 2) hx hb dL_law_1672 (by decide) ?_
  refine lv_iadd hx hb dL_law_1673 ?_
  refine pq_sld hx hb hX hbl hbA hS (j := 2) (show i + 2 < L by omega) (by omega) (by decide) dL_law_1674 ?_
  obtain ⟨hPs, hDs, hJ⟩ := pq_4y hP hD
  refine pq_lVi S (c_X7_commonAncestor l g am M (xs (i + 1)) (xs (i + 2)) bb M1 h7) vv_L_283 hK hPs hDs hS hA rfl rfl rfl rfl rfl hl.1 (Nat.le_of_ble_eq_true rfl) dL_law_1675 ⟨by decide, by decide⟩ ⟨by show cells+2 ≤ 603072; omega, by show slots+12 ≤ 7178346; omega⟩ (fun H1 locs1 hk hP1 hS1 => ?_)
  replace hP : va_P g.1 pq_cl ([(b1, .inl (g.2 3, 1, .inr (.inl ((pq_nf f (fun v => v.toInt64) o)))))] ++ ([(b2, .inl (g.2 4, 1, .inr (.inr (.inr (.inl (fd))))))] ++ (mainW g a T1 ++ modW g am M1))) H1 := hJ hk hP1
  replace hD : va_D A ([(b1, .inl (g.2 3, 1, .inr (.inl ((pq_nf f (fun v => v.toInt64) o)))))] ++ ([(b2, .inl (g.2 4, 1, .inr (.inr (.inr (.inl (fd))))))] ++ (mainW g a T1 ++ modW g am M1))) := pq_adr hD (ad_app rfl (ad_app rfl (ad_app (ad_X6 _ _) (ad_X7 _ _))))
  clear hJ hk hP1 hPs hDs hS
  generalize H1 = H at hP hS1 ⊢
  have hS := hS1
  clear hS1
  refine lv_istore (lv' := [(7, .int bb), (6, .int M1.1), (5, .int (nI i)), (0, .ref b), (1, .ref (a 0)), (2, .ref (am 0)), (3, .ref b1), (4, .ref b2)]) hx hb dL_law_1678 hl (by decide) rfl (fun ls hl => ?_)
  refine lv_aload_n hx hb dL_law_1680 rfl (lv_at hl 5 rfl) ?_
  obtain ⟨hPs, hDs, hJ⟩ := pq_4y hP hD
  refine pq_lV S (c_X7_thrown l g am M1 M1.1 rfl) vv_L_193 hK hPs rfl rfl rfl rfl rfl hl.1 (Nat.le_of_ble_eq_true rfl) dL_law_1681 ⟨by decide, by decide⟩ ⟨by show cells+2 ≤ 603072; omega, by show slots+12 ≤ 7178346; omega⟩ ?_
  clear hJ hPs hDs
  refine lv_iload hx hb dL_law_1684 (lv_at hl 1 rfl) ?_
  refine lv_icmp_eq (tgt := 1691) hx hb dL_law_1686 (by decide) (fun _ => ?_) (fun h9 => absurd rfl h9)
  refine lv_iload hx hb dL_law_1691 (lv_at hl 1 rfl) ?_
  refine lv_if_ne (tgt := 1708) hx hb dL_law_1693 (by decide) (fun h0 => ?_) (fun h0 => ?_)
  · skip
    refine lv_goto (tgt := 3417) hx hb dL_law_1708 (by decide) ?_
    exact W.widen (by omega) (by omega) (kk (pq_nf f (fun v => v.toInt64) o) fd T1 M1 H _ ls hPR1 hP hD hS (lv_sub hl [2, 3, 4, 5, 6, 7] rfl))
  · have e0 := hbb h0
    subst e0
    refine lv_aload_n hx hb dL_law_1696 rfl (lv_at hl 6 rfl) ?_
    refine lv_iconst (v := 0) hx hb dL_law_1697 (by decide) ?_
    refine va_lald hx hb hK.1 hP 0 3 rfl rfl pq_in01 dL_law_1698 ?_
    refine lv_iload hx hb dL_law_1699 (lv_at hl 0 rfl) ?_
    refine lv_i2l hx hb dL_law_1701 rfl ?_
    refine W.lcmp hx hb dL_law_1702 ?_
    refine lv_if_eq (tgt := 1708) hx hb dL_law_1703 (by decide) (fun _ => ?_) (fun h9 => absurd (pq_lcmp _) h9)
    refine lv_goto (tgt := 3417) hx hb dL_law_1708 (by decide) ?_
    exact W.widen (by omega) (by omega) (kk (pq_nf f (fun v => v.toInt64) (.inr bb)) fd T1 M1 H _ ls hPR1 hP hD hS (lv_sub hl [2, 3, 4, 5, 6, 7] rfl))
set_option maxHeartbeats 4000000 in
set_option maxRecDepth 100000 in
theorem lw_case28 {PR : MainS → ModS → Prop} (hM : pq_Ma PR) {p : Program} {l : Launch} {e : Env} {s : State} {m : MethodId} {below : List Frame} {meth : Method} {c : Code} {Q : State → Prop} {A : Nat → Prop} {b L : Nat} {xs : Nat → Int32} {g : pq_g} {a am : Nat → Nat} {b1 b2 : Nat} (hst : l.stackTraces = false) (S : CallFix p m c cL_law 9 s #[.ref b] pq_G RL) (hK : pq_K g s) (hT : pq_T A s s.heap) (hL9 : pq_L s) (hA : ∀ q : Nat, s.heap.size ≤ q → A q) (hX : va_X b L xs s s.heap) (hbl : b < s.heap.size) (hbA : ¬ A b) (hL : L ≤ 3072)
    {i : Nat} (hi : i + 6 ≤ L) {f : Nat → Int64} {fd : Nat → UInt64} {T : MainS} {M : ModS} {H : Heap} {locs : List Loc} {ls : Array Slot} {cells slots : Nat} (hPR : PR T M) (hP : va_P g.1 pq_cl ([(b1, .inl (g.2 3, 1, .inr (.inl (f))))] ++ ([(b2, .inl (g.2 4, 1, .inr (.inr (.inr (.inl (fd))))))] ++ (mainW g a T ++ modW g am M))) H) (hD : va_D A ([(b1, .inl (g.2 3, 1, .inr (.inl (f))))] ++ ([(b2, .inl (g.2 4, 1, .inr (.inr (.inr (.inl (fd))))))] ++ (mainW g a T ++ modW g am M)))) (hS : va_S A s.heap H locs) (hl : lv_has ls 9 [(5, .int (nI i)), (0, .ref b), (1, .ref (a 0)), (2, .ref (am 0)), (3, .ref b1), (4, .ref b2)]) (hc : cells ≤ 10000) (hs : slots ≤ 100000)
    (kk : ∀ (f1 : Nat → Int64) (fd1 : Nat → UInt64) (T1 : MainS) (M1 : ModS) (H1 : Heap) (locs1 : List Loc) (ls1 : Array Slot), PR T1 M1 → va_P g.1 pq_cl ([(b1, .inl (g.2 3, 1, .inr (.inl (f1))))] ++ ([(b2, .inl (g.2 4, 1, .inr (.inr (.inr (.inl (fd1))))))] ++ (mainW g a T1 ++ modW g am M1))) H1 → va_D A ([(b1, .inl (g.2 3, 1, .inr (.inl (f1))))] ++ ([(b2, .inl (g.2 4, 1, .inr (.inr (.inr (.inl (fd1))))))] ++ (mainW g a T1 ++ modW g am M1))) → va_S A s.heap H1 locs1 → lv_has ls1 9 [(5, .int (nI i)), (0, .ref b), (1, .ref (a 0)), (2, .ref (am 0)), (3, .ref b1), (4, .ref b2)] → W p l e room_1 s m #[.ref b] below meth c H1 locs1 (cells + 6) (slots + 36) Q (F0 m 3417 ls1 [])) : W p l e room_1 s m #[.ref b] below meth c H locs cells slots Q (F0 m 1711 ls []) := by
  obtain ⟨hx, hb, hml, hown, hts⟩ := id S
  obtain ⟨o, T1, bb, M1, h6, h7, hPR1, hcd, hbb⟩ := hM.distance T M (xs (i + 1)) (xs (i + 2)) hPR
  refine lv_aload_n hx hb dL_law_1711 rfl (lv_at hl 2 rfl) ?_
  refine lv_aload_n hx hb dL_law_1712 rfl (lv_at hl 1 rfl) ?_
  refine lv_iload hx hb dL_law_1713 (lv_at hl 0 rfl) ?_
  refine lv_iconst (v := 1) hx hb dL_law_1715 (by decide) ?_
  refine lv_iadd hx hb dL_law_1716 ?_
  refine pq_sld hx hb hX hbl hbA hS (j := 1) (show i + 1 < L by omega) (by omega) (by decide) dL_law_1717 ?_
  refine lv_aload_n hx hb dL_law_1718 rfl (lv_at hl 1 rfl) ?_
  refine lv_iload hx hb dL_law_1719 (lv_at hl 0 rfl) ?_
  refine lv_iconst (v := 2) hx hb dL_law_1721 (by decide) ?_
  refine lv_iadd hx hb dL_law_1722 ?_
  refine pq_sld hx hb hX hbl hbA hS (j := 2) (show i + 2 < L by omega) (by omega) (by decide) dL_law_1723 ?_
  refine lv_aload_n hx hb dL_law_1724 rfl (lv_at hl 4 rfl) ?_
  obtain ⟨hPs, hDs, hJ⟩ := pq_4a hP hD
  refine pq_cH S (c_L_distance l g a b1 f T (xs (i + 1)) (xs (i + 2)) hst o T1 h6 M1.1 hcd) vh_L_284 hK hT hL9 hPs hDs hS hA rfl rfl hl.1 (Nat.le_of_ble_eq_true rfl) dL_law_1725 ⟨by decide, by decide⟩ ⟨by show cells + 2 ≤ 603072; omega, by show slots + 12 ≤ 7178346; omega⟩ (fun H1 locs1 hk hP1 hS1 => ?_)
  replace hP : va_P g.1 pq_cl ([(b1, .inl (g.2 3, 1, .inr (.inl ((pq_nf f (fun v => v.toInt64) o)))))] ++ ([(b2, .inl (g.2 4, 1, .inr (.inr (.inr (.inl (fd))))))] ++ (mainW g a T1 ++ modW g am M))) H1 := hJ hk hP1
  replace hD : va_D A ([(b1, .inl (g.2 3, 1, .inr (.inl ((pq_nf f (fun v => v.toInt64) o)))))] ++ ([(b2, .inl (g.2 4, 1, .inr (.inr (.inr (.inl (fd))))))] ++ (mainW g a T1 ++ modW g am M))) := pq_adr hD (ad_app rfl (ad_app rfl (ad_app (ad_X6 _ _) (ad_X7 _ _))))
  clear hJ hk hP1 hPs hDs hS
  generalize H1 = H at hP hS1 ⊢
  have hS := hS1
  clear hS1
  refine lv_istore (lv' := [(6, .int M1.1), (5, .int (nI i)), (0, .ref b), (1, .ref (a 0)), (2, .ref (am 0)), (3, .ref b1), (4, .ref b2)]) hx hb dL_law_1728 hl (by decide) rfl (fun ls hl => ?_)
  refine lv_aload_n hx hb dL_law_1730 rfl (lv_at hl 4 rfl) ?_
  refine lv_aload_n hx hb dL_law_1731 rfl (lv_at hl 2 rfl) ?_
  refine lv_iload hx hb dL_law_1732 (lv_at hl 1 rfl) ?_
  refine lv_iconst (v := 1) hx hb dL_law_1734 (by decide) ?_
  refine lv_iadd hx hb dL_law_1735 ?_
  refine pq_sld hx hb hX hbl hbA hS (j := 1) (show i + 1 < L by omega) (by omega) (by decide) dL_law_1736 ?_
  refine lv_aload_n hx hb dL_law_1737 rfl (lv_at hl 2 rfl) ?_
  refine lv_iload hx hb dL_law_1738 (lv_at hl 1 rfl) ?_
  refine lv_iconst (v := 2) hx hb dL_law_1740 (by decide) ?_
  refine lv_iadd hx hb dL_law_1741 ?_
  refine pq_sld hx hb hX hbl hbA hS (j := 2) (show i + 2 < L by omega) (by omega) (by decide) dL_law_1742 ?_
  obtain ⟨hPs, hDs, hJ⟩ := pq_4y hP hD
  refine pq_lVi S (c_X7_distance l g am M (xs (i + 1)) (xs (i + 2)) bb M1 h7) vv_L_286 hK hPs hDs hS hA rfl rfl rfl rfl rfl hl.1 (Nat.le_of_ble_eq_true rfl) dL_law_1743 ⟨by decide, by decide⟩ ⟨by show cells+2 ≤ 603072; omega, by show slots+12 ≤ 7178346; omega⟩ (fun H1 locs1 hk hP1 hS1 => ?_)
  replace hP : va_P g.1 pq_cl ([(b1, .inl (g.2 3, 1, .inr (.inl ((pq_nf f (fun v => v.toInt64) o)))))] ++ ([(b2, .inl (g.2 4, 1, .inr (.inr (.inr (.inl (fd))))))] ++ (mainW g a T1 ++ modW g am M1))) H1 := hJ hk hP1
  replace hD : va_D A ([(b1, .inl (g.2 3, 1, .inr (.inl ((pq_nf f (fun v => v.toInt64) o)))))] ++ ([(b2, .inl (g.2 4, 1, .inr (.inr (.inr (.inl (fd))))))] ++ (mainW g a T1 ++ modW g am M1))) := pq_adr hD (ad_app rfl (ad_app rfl (ad_app (ad_X6 _ _) (ad_X7 _ _))))
  clear hJ hk hP1 hPs hDs hS
  generalize H1 = H at hP hS1 ⊢
  have hS := hS1
  clear hS1
  refine lv_istore (lv' := [(7, .int bb), (6, .int M1.1), (5, .int (nI i)), (0, .ref b), (1, .ref (a 0)), (2, .ref (am 0)), (3, .ref b1), (4, .ref b2)]) hx hb dL_law_1746 hl (by decide) rfl (fun ls hl => ?_)
  refine lv_aload_n hx hb dL_law_1748 rfl (lv_at hl 5 rfl) ?_
  obtain ⟨hPs, hDs, hJ⟩ := pq_4y hP hD
  refine pq_lV S (c_X7_thrown l g am M1 M1.1 rfl) vv_L_193 hK hPs rfl rfl rfl rfl rfl hl.1 (Nat.le_of_ble_eq_true rfl) dL_law_1749 ⟨by decide, by decide⟩ ⟨by show cells+2 ≤ 603072; omega, by show slots+12 ≤ 7178346; omega⟩ ?_
  clear hJ hPs hDs
  refine lv_iload hx hb dL_law_1752 (lv_at hl 1 rfl) ?_
  refine lv_icmp_eq (tgt := 1759) hx hb dL_law_1754 (by decide) (fun _ => ?_) (fun h9 => absurd rfl h9)
  refine lv_iload hx hb dL_law_1759 (lv_at hl 1 rfl) ?_
  refine lv_if_ne (tgt := 1776) hx hb dL_law_1761 (by decide) (fun h0 => ?_) (fun h0 => ?_)
  · skip
    refine lv_goto (tgt := 3417) hx hb dL_law_1776 (by decide) ?_
    exact W.widen (by omega) (by omega) (kk (pq_nf f (fun v => v.toInt64) o) fd T1 M1 H _ ls hPR1 hP hD hS (lv_sub hl [2, 3, 4, 5, 6, 7] rfl))
  · have e0 := hbb h0
    subst e0
    refine lv_aload_n hx hb dL_law_1764 rfl (lv_at hl 6 rfl) ?_
    refine lv_iconst (v := 0) hx hb dL_law_1765 (by decide) ?_
    refine va_lald hx hb hK.1 hP 0 3 rfl rfl pq_in01 dL_law_1766 ?_
    refine lv_iload hx hb dL_law_1767 (lv_at hl 0 rfl) ?_
    refine lv_i2l hx hb dL_law_1769 rfl ?_
    refine W.lcmp hx hb dL_law_1770 ?_
    refine lv_if_eq (tgt := 1776) hx hb dL_law_1771 (by decide) (fun _ => ?_) (fun h9 => absurd (pq_lcmp _) h9)
    refine lv_goto (tgt := 3417) hx hb dL_law_1776 (by decide) ?_
    exact W.widen (by omega) (by omega) (kk (pq_nf f (fun v => v.toInt64) (.inr bb)) fd T1 M1 H _ ls hPR1 hP hD hS (lv_sub hl [2, 3, 4, 5, 6, 7] rfl))
set_option maxHeartbeats 4000000 in
set_option maxRecDepth 100000 in
theorem lw_case29 {PR : MainS → ModS → Prop} (hM : pq_Ma PR) {p : Program} {l : Launch} {e : Env} {s : State} {m : MethodId} {below : List Frame} {meth : Method} {c : Code} {Q : State → Prop} {A : Nat → Prop} {b L : Nat} {xs : Nat → Int32} {g : pq_g} {a am : Nat → Nat} {b1 b2 : Nat} (hst : l.stackTraces = false) (S : CallFix p m c cL_law 9 s #[.ref b] pq_G RL) (hK : pq_K g s) (hT : pq_T A s s.heap) (hL9 : pq_L s) (hA : ∀ q : Nat, s.heap.size ≤ q → A q) (hX : va_X b L xs s s.heap) (hbl : b < s.heap.size) (hbA : ¬ A b) (hL : L ≤ 3072)
    {i : Nat} (hi : i + 6 ≤ L) {f : Nat → Int64} {fd : Nat → UInt64} {T : MainS} {M : ModS} {H : Heap} {locs : List Loc} {ls : Array Slot} {cells slots : Nat} (hPR : PR T M) (hP : va_P g.1 pq_cl ([(b1, .inl (g.2 3, 1, .inr (.inl (f))))] ++ ([(b2, .inl (g.2 4, 1, .inr (.inr (.inr (.inl (fd))))))] ++ (mainW g a T ++ modW g am M))) H) (hD : va_D A ([(b1, .inl (g.2 3, 1, .inr (.inl (f))))] ++ ([(b2, .inl (g.2 4, 1, .inr (.inr (.inr (.inl (fd))))))] ++ (mainW g a T ++ modW g am M)))) (hS : va_S A s.heap H locs) (hl : lv_has ls 9 [(5, .int (nI i)), (0, .ref b), (1, .ref (a 0)), (2, .ref (am 0)), (3, .ref b1), (4, .ref b2)]) (hc : cells ≤ 10000) (hs : slots ≤ 100000)
    (kk : ∀ (f1 : Nat → Int64) (fd1 : Nat → UInt64) (T1 : MainS) (M1 : ModS) (H1 : Heap) (locs1 : List Loc) (ls1 : Array Slot), PR T1 M1 → va_P g.1 pq_cl ([(b1, .inl (g.2 3, 1, .inr (.inl (f1))))] ++ ([(b2, .inl (g.2 4, 1, .inr (.inr (.inr (.inl (fd1))))))] ++ (mainW g a T1 ++ modW g am M1))) H1 → va_D A ([(b1, .inl (g.2 3, 1, .inr (.inl (f1))))] ++ ([(b2, .inl (g.2 4, 1, .inr (.inr (.inr (.inl (fd1))))))] ++ (mainW g a T1 ++ modW g am M1))) → va_S A s.heap H1 locs1 → lv_has ls1 9 [(5, .int (nI i)), (0, .ref b), (1, .ref (a 0)), (2, .ref (am 0)), (3, .ref b1), (4, .ref b2)] → W p l e room_1 s m #[.ref b] below meth c H1 locs1 (cells + 6) (slots + 36) Q (F0 m 3417 ls1 [])) : W p l e room_1 s m #[.ref b] below meth c H locs cells slots Q (F0 m 1779 ls []) := by
  obtain ⟨hx, hb, hml, hown, hts⟩ := id S
  obtain ⟨o, T1, bb, M1, h6, h7, hPR1, hcd, hbb⟩ := hM.countInRange T M (xs (i + 1)) (xs (i + 2)) hPR
  refine lv_aload_n hx hb dL_law_1779 rfl (lv_at hl 2 rfl) ?_
  refine lv_aload_n hx hb dL_law_1780 rfl (lv_at hl 1 rfl) ?_
  refine lv_iload hx hb dL_law_1781 (lv_at hl 0 rfl) ?_
  refine lv_iconst (v := 1) hx hb dL_law_1783 (by decide) ?_
  refine lv_iadd hx hb dL_law_1784 ?_
  refine pq_sld hx hb hX hbl hbA hS (j := 1) (show i + 1 < L by omega) (by omega) (by decide) dL_law_1785 ?_
  refine lv_aload_n hx hb dL_law_1786 rfl (lv_at hl 1 rfl) ?_
  refine lv_iload hx hb dL_law_1787 (lv_at hl 0 rfl) ?_
  refine lv_iconst (v := 2) hx hb dL_law_1789 (by decide) ?_
  refine lv_iadd hx hb dL_law_1790 ?_
  refine pq_sld hx hb hX hbl hbA hS (j := 2) (show i + 2 < L by omega) (by omega) (by decide) dL_law_1791 ?_
  refine lv_aload_n hx hb dL_law_1792 rfl (lv_at hl 4 rfl) ?_
  obtain ⟨hPs, hDs, hJ⟩ := pq_4a hP hD
  refine pq_cH S (c_L_countInRange l g a b1 f T (xs (i + 1)) (xs (i + 2)) hst o T1 h6 M1.1 hcd) vh_L_287 hK hT hL9 hPs hDs hS hA rfl rfl hl.1 (Nat.le_of_ble_eq_true rfl) dL_law_1793 ⟨by decide, by decide⟩ ⟨by show cells + 1 ≤ 603072; omega, by show slots + 6 ≤ 7178346; omega⟩ (fun H1 locs1 hk hP1 hS1 => ?_)
  replace hP : va_P g.1 pq_cl ([(b1, .inl (g.2 3, 1, .inr (.inl ((pq_nf f (fun v => v.toInt64) o)))))] ++ ([(b2, .inl (g.2 4, 1, .inr (.inr (.inr (.inl (fd))))))] ++ (mainW g a T1 ++ modW g am M))) H1 := hJ hk hP1
  replace hD : va_D A ([(b1, .inl (g.2 3, 1, .inr (.inl ((pq_nf f (fun v => v.toInt64) o)))))] ++ ([(b2, .inl (g.2 4, 1, .inr (.inr (.inr (.inl (fd))))))] ++ (mainW g a T1 ++ modW g am M))) := pq_adr hD (ad_app rfl (ad_app rfl (ad_app (ad_X6 _ _) (ad_X7 _ _))))
  clear hJ hk hP1 hPs hDs hS
  generalize H1 = H at hP hS1 ⊢
  have hS := hS1
  clear hS1
  refine lv_istore (lv' := [(6, .int M1.1), (5, .int (nI i)), (0, .ref b), (1, .ref (a 0)), (2, .ref (am 0)), (3, .ref b1), (4, .ref b2)]) hx hb dL_law_1796 hl (by decide) rfl (fun ls hl => ?_)
  refine lv_aload_n hx hb dL_law_1798 rfl (lv_at hl 4 rfl) ?_
  refine lv_aload_n hx hb dL_law_1799 rfl (lv_at hl 2 rfl) ?_
  refine lv_iload hx hb dL_law_1800 (lv_at hl 1 rfl) ?_
  refine lv_iconst (v := 1) hx hb dL_law_1802 (by decide) ?_
  refine lv_iadd hx hb dL_law_1803 ?_
  refine pq_sld hx hb hX hbl hbA hS (j := 1) (show i + 1 < L by omega) (by omega) (by decide) dL_law_1804 ?_
  refine lv_aload_n hx hb dL_law_1805 rfl (lv_at hl 2 rfl) ?_
  refine lv_iload hx hb dL_law_1806 (lv_at hl 1 rfl) ?_
  refine lv_iconst (v := 2) hx hb dL_law_1808 (by decide) ?_
  refine lv_iadd hx hb dL_law_1809 ?_
  refine pq_sld hx hb hX hbl hbA hS (j := 2) (show i + 2 < L by omega) (by omega) (by decide) dL_law_1810 ?_
  obtain ⟨hPs, hDs, hJ⟩ := pq_4y hP hD
  refine pq_lVi S (c_X7_countInRange l g am M (xs (i + 1)) (xs (i + 2)) bb M1 h7) vv_L_289 hK hPs hDs hS hA rfl rfl rfl rfl rfl hl.1 (Nat.le_of_ble_eq_true rfl) dL_law_1811 ⟨by decide, by decide⟩ ⟨by show cells+1 ≤ 603072; omega, by show slots+6 ≤ 7178346; omega⟩ (fun H1 locs1 hk hP1 hS1 => ?_)
  replace hP : va_P g.1 pq_cl ([(b1, .inl (g.2 3, 1, .inr (.inl ((pq_nf f (fun v => v.toInt64) o)))))] ++ ([(b2, .inl (g.2 4, 1, .inr (.inr (.inr (.inl (fd))))))] ++ (mainW g a T1 ++ modW g am M1))) H1 := hJ hk hP1
  replace hD : va_D A ([(b1, .inl (g.2 3, 1, .inr (.inl ((pq_nf f (fun v => v.toInt64) o)))))] ++ ([(b2, .inl (g.2 4, 1, .inr (.inr (.inr (.inl (fd))))))] ++ (mainW g a T1 ++ modW g am M1))) := pq_adr hD (ad_app rfl (ad_app rfl (ad_app (ad_X6 _ _) (ad_X7 _ _))))
  clear hJ hk hP1 hPs hDs hS
  generalize H1 = H at hP hS1 ⊢
  have hS := hS1
  clear hS1
  refine lv_istore (lv' := [(7, .int bb), (6, .int M1.1), (5, .int (nI i)), (0, .ref b), (1, .ref (a 0)), (2, .ref (am 0)), (3, .ref b1), (4, .ref b2)]) hx hb dL_law_1814 hl (by decide) rfl (fun ls hl => ?_)
  refine lv_aload_n hx hb dL_law_1816 rfl (lv_at hl 5 rfl) ?_
  obtain ⟨hPs, hDs, hJ⟩ := pq_4y hP hD
  refine pq_lV S (c_X7_thrown l g am M1 M1.1 rfl) vv_L_193 hK hPs rfl rfl rfl rfl rfl hl.1 (Nat.le_of_ble_eq_true rfl) dL_law_1817 ⟨by decide, by decide⟩ ⟨by show cells+1 ≤ 603072; omega, by show slots+6 ≤ 7178346; omega⟩ ?_
  clear hJ hPs hDs
  refine lv_iload hx hb dL_law_1820 (lv_at hl 1 rfl) ?_
  refine lv_icmp_eq (tgt := 1827) hx hb dL_law_1822 (by decide) (fun _ => ?_) (fun h9 => absurd rfl h9)
  refine lv_iload hx hb dL_law_1827 (lv_at hl 1 rfl) ?_
  refine lv_if_ne (tgt := 1844) hx hb dL_law_1829 (by decide) (fun h0 => ?_) (fun h0 => ?_)
  · skip
    refine lv_goto (tgt := 3417) hx hb dL_law_1844 (by decide) ?_
    exact W.widen (by omega) (by omega) (kk (pq_nf f (fun v => v.toInt64) o) fd T1 M1 H _ ls hPR1 hP hD hS (lv_sub hl [2, 3, 4, 5, 6, 7] rfl))
  · have e0 := hbb h0
    subst e0
    refine lv_aload_n hx hb dL_law_1832 rfl (lv_at hl 6 rfl) ?_
    refine lv_iconst (v := 0) hx hb dL_law_1833 (by decide) ?_
    refine va_lald hx hb hK.1 hP 0 3 rfl rfl pq_in01 dL_law_1834 ?_
    refine lv_iload hx hb dL_law_1835 (lv_at hl 0 rfl) ?_
    refine lv_i2l hx hb dL_law_1837 rfl ?_
    refine W.lcmp hx hb dL_law_1838 ?_
    refine lv_if_eq (tgt := 1844) hx hb dL_law_1839 (by decide) (fun _ => ?_) (fun h9 => absurd (pq_lcmp _) h9)
    refine lv_goto (tgt := 3417) hx hb dL_law_1844 (by decide) ?_
    exact W.widen (by omega) (by omega) (kk (pq_nf f (fun v => v.toInt64) (.inr bb)) fd T1 M1 H _ ls hPR1 hP hD hS (lv_sub hl [2, 3, 4, 5, 6, 7] rfl))
