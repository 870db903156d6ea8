/-! ===== the law's look at its eight ranges ===== -/
theorem r_zero (T : TreeS) (t : Tr) (lo hi : Nat) : rB T t lo hi 0 = -30000 ∧ rF T t lo 0 = -30000 ∧ rC T t lo 0 = -30000 := by
  unfold rB rF rC
  rw [Nat.zero_min, Nat.zero_min, if_neg (by omega), if_pos rfl, if_neg (by omega)]
  exact ⟨rfl, rfl, rfl⟩
set_option maxHeartbeats 8000000 in
set_option maxRecDepth 100000 in
theorem lR_end {p : Program} {l : Launch} {e : Env} {s : State} {m : MethodId} {below : List Frame} {meth : Method} {c : Code} {H : Heap} {locs : List Loc} {cells0 slots0 : Nat} {Q : State → Prop} {A : Nat → Prop} {g : pq_g} {ad av : Nat → Nat} {sb L : Nat} {xs : Nat → Int32} {E : va_W} {a : Nat → Nat} {T : MainS} {ls : Array Slot} {R : Room} (C0 : lwC p l s m #[.ref sb] c cL_law 21 A g ad av [] sb L xs) (hR : 64 ≤ R.frames ∧ 6000 ≤ R.locals) (hL : L < 2 ^ 31) {t : Tr} (hw : WF T.1.1 t) {lo hi le u tu : Nat} (hle : le ≤ 99) (hlo : lo ≤ 99) (l1 : lo ≤ hi) (l2 : hi ≤ 99) (M0 : lwM g a T E A s H locs) (hf : cells0 + 30 ≤ R.cells ∧ slots0 + 180 ≤ R.slots) (hl : lv_has ls 21 [(19, .int (nI t.size)), (17, .long (lN (rS T.1.1 t lo hi t.size))), (16, .int (rC T.1.1 t lo t.size)), (15, .int (rF T.1.1 t lo t.size)), (14, .int (rB T.1.1 t lo hi t.size)), (13, .int (nI (rN T.1.1 t lo hi (nI le) t.size))), (12, .int (nI (rN T.1.1 t lo hi 0 t.size))), (11, .int (nI le)), (10, .int (nI hi)), (9, .int (nI lo)), (8, .int (nI u)), (3, .int (nI t.size)), (2, .int (nI tu)), (1, .ref (a 0)), (0, .ref sb)]) (kk : ∀ (ls : Array Slot) (H : Heap) (locs : List Loc) (cells slots : Nat), lwM g a T E A s H locs → cells ≤ cells0 + 30 → slots ≤ slots0 + 180 → lv_has ls 21 [(8, .int (nI (u + 1))), (3, .int (nI t.size)), (2, .int (nI tu)), (1, .ref (a 0)), (0, .ref sb)] → W p l e R s m #[.ref sb] below meth c H locs cells slots Q (F0 m 751 ls [])) : W p l e R s m #[.ref sb] below meth c H locs cells0 slots0 Q (F0 m 978 ls []) := by
  obtain ⟨hx, hb, hml, hown, hts⟩ := id C0.1
  have h24 := hw.le
  have J1019 : ∀ V : Int32, V = rNear T.1.1 t lo → W p l e R s m #[.ref sb] below meth c H locs cells0 slots0 Q (F0 m 1019 ls [.int V]) := by
    intro V hV
    refine lv_istore (lv' := [(19, .int V), (17, .long (lN (rS T.1.1 t lo hi t.size))), (16, .int (rC T.1.1 t lo t.size)), (15, .int (rF T.1.1 t lo t.size)), (14, .int (rB T.1.1 t lo hi t.size)), (13, .int (nI (rN T.1.1 t lo hi (nI le) t.size))), (12, .int (nI (rN T.1.1 t lo hi 0 t.size))), (11, .int (nI le)), (10, .int (nI hi)), (9, .int (nI lo)), (8, .int (nI u)), (3, .int (nI t.size)), (2, .int (nI tu)), (1, .ref (a 0)), (0, .ref sb)]) hx hb dL_law_1019 hl (by decide) rfl (fun ls hl => ?_)
    refine lv_aload_n hx hb dL_law_1021 rfl (lv_at hl 13 rfl) ?_
    refine lv_iload hx hb dL_law_1022 (lv_at hl 9 rfl) ?_
    refine lv_iload hx hb dL_law_1024 (lv_at hl 8 rfl) ?_
    refine mX C0 M0 (c_X6_countInRange l g a T (nI lo) (nI hi) C0.2.2.2.2 (.inr (nI (rN T.1.1 t lo hi 0 t.size))) T (by rw [a_countInRange hw l1 l2, ← rN_end])) vv_L_242 (rest := []) rfl rfl hl.1 (Nat.le_of_ble_eq_true rfl) dL_law_1026 ⟨by omega, by omega⟩ ⟨by omega, by omega⟩ (fun H locs M0 => ?_)
    refine lv_iload hx hb dL_law_1029 (lv_at hl 6 rfl) ?_
    refine lv_icmp_ne (tgt := 1150) hx hb dL_law_1031 (by decide) (fun h9 => absurd rfl h9) (fun _ => ?_)
    refine lv_aload_n hx hb dL_law_1034 rfl (lv_at hl 13 rfl) ?_
    refine lv_iload hx hb dL_law_1035 (lv_at hl 9 rfl) ?_
    refine lv_iload hx hb dL_law_1037 (lv_at hl 8 rfl) ?_
    refine mX C0 M0 (c_X6_countInRangeByScan l g a T (nI lo) (nI hi) C0.2.2.2.2 (.inr (nI (rN T.1.1 t lo hi 0 t.size))) T (by rw [a_countInRangeByScan hw l1 l2, ← rN_end])) vv_L_245 (rest := []) rfl rfl hl.1 (Nat.le_of_ble_eq_true rfl) dL_law_1039 ⟨by omega, by omega⟩ ⟨by omega, by omega⟩ (fun H locs M0 => ?_)
    refine lv_iload hx hb dL_law_1042 (lv_at hl 6 rfl) ?_
    refine lv_icmp_ne (tgt := 1150) hx hb dL_law_1044 (by decide) (fun h9 => absurd rfl h9) (fun _ => ?_)
    refine lv_aload_n hx hb dL_law_1047 rfl (lv_at hl 13 rfl) ?_
    refine lv_iload hx hb dL_law_1048 (lv_at hl 9 rfl) ?_
    refine lv_iload hx hb dL_law_1050 (lv_at hl 8 rfl) ?_
    refine lv_iload hx hb dL_law_1052 (lv_at hl 7 rfl) ?_
    refine mX C0 M0 (c_X6_countAbove l g a T (nI lo) (nI hi) (nI le) C0.2.2.2.2 (.inr (nI (rN T.1.1 t lo hi (nI le) t.size))) T (by rw [a_countAbove hw l1 l2 hle, ← rN_end])) vv_L_248 (rest := []) rfl rfl hl.1 (Nat.le_of_ble_eq_true rfl) dL_law_1054 ⟨by omega, by omega⟩ ⟨by omega, by omega⟩ (fun H locs M0 => ?_)
    refine lv_iload hx hb dL_law_1057 (lv_at hl 5 rfl) ?_
    refine lv_icmp_ne (tgt := 1150) hx hb dL_law_1059 (by decide) (fun h9 => absurd rfl h9) (fun _ => ?_)
    refine lv_aload_n hx hb dL_law_1062 rfl (lv_at hl 13 rfl) ?_
    refine lv_iload hx hb dL_law_1063 (lv_at hl 9 rfl) ?_
    refine lv_iload hx hb dL_law_1065 (lv_at hl 8 rfl) ?_
    refine lv_iload hx hb dL_law_1067 (lv_at hl 7 rfl) ?_
    refine mX C0 M0 (c_X6_countAboveByScan l g a T (nI lo) (nI hi) (nI le) C0.2.2.2.2 (.inr (nI (rN T.1.1 t lo hi (nI le) t.size))) T (by rw [a_countAboveByScan hw l1 l2 hle, ← rN_end])) vv_L_252 (rest := []) rfl rfl hl.1 (Nat.le_of_ble_eq_true rfl) dL_law_1069 ⟨by omega, by omega⟩ ⟨by omega, by omega⟩ (fun H locs M0 => ?_)
    refine lv_iload hx hb dL_law_1072 (lv_at hl 5 rfl) ?_
    refine lv_icmp_ne (tgt := 1150) hx hb dL_law_1074 (by decide) (fun h9 => absurd rfl h9) (fun _ => ?_)
    refine lv_aload_n hx hb dL_law_1077 rfl (lv_at hl 13 rfl) ?_
    refine lv_iload hx hb dL_law_1078 (lv_at hl 9 rfl) ?_
    refine lv_iload hx hb dL_law_1080 (lv_at hl 8 rfl) ?_
    refine mH C0 M0 (c_L_topInRange l g a T (nI lo) (nI hi) C0.2.2.2.2 (rB T.1.1 t lo hi t.size) T (hh_top hw l1 l2).1) vh_L_255 (rest := []) rfl rfl hl.1 (Nat.le_of_ble_eq_true rfl) dL_law_1082 ⟨by omega, by omega⟩ ⟨by omega, by omega⟩ (fun H locs M0 => ?_)
    refine lv_iload hx hb dL_law_1085 (lv_at hl 4 rfl) ?_
    refine lv_icmp_ne (tgt := 1150) hx hb dL_law_1087 (by decide) (fun h9 => absurd rfl h9) (fun _ => ?_)
    refine lv_aload_n hx hb dL_law_1090 rfl (lv_at hl 13 rfl) ?_
    refine lv_iload hx hb dL_law_1091 (lv_at hl 9 rfl) ?_
    refine lv_iload hx hb dL_law_1093 (lv_at hl 8 rfl) ?_
    refine mH C0 M0 (c_L_topInRangeByScan l g a T (nI lo) (nI hi) C0.2.2.2.2 (rB T.1.1 t lo hi t.size) T (hh_top hw l1 l2).2) vh_L_257 (rest := []) rfl rfl hl.1 (Nat.le_of_ble_eq_true rfl) dL_law_1095 ⟨by omega, by omega⟩ ⟨by omega, by omega⟩ (fun H locs M0 => ?_)
    refine lv_iload hx hb dL_law_1098 (lv_at hl 4 rfl) ?_
    refine lv_icmp_ne (tgt := 1150) hx hb dL_law_1100 (by decide) (fun h9 => absurd rfl h9) (fun _ => ?_)
    refine lv_aload_n hx hb dL_law_1103 rfl (lv_at hl 13 rfl) ?_
    refine lv_iload hx hb dL_law_1104 (lv_at hl 9 rfl) ?_
    refine lv_iload hx hb dL_law_1106 (lv_at hl 8 rfl) ?_
    refine mXv C0 M0 (c_X6_sumInRange l g a T (nI lo) (nI hi) C0.2.2.2.2 (.inr (lN (rS T.1.1 t lo hi t.size))) T (by rw [a_sumInRange hw l1 l2, ← rS_end])) vv_L_259 (r := .long (lN (rS T.1.1 t lo hi t.size))) (As := [.int (nI lo), .int (nI hi)]) (rest := []) rfl rfl hl.1 (Nat.le_of_ble_eq_true rfl) dL_law_1108 ⟨by omega, by omega⟩ ⟨by omega, by omega⟩ (fun H locs M0 => ?_)
    refine lv_lload hx hb dL_law_1111 (lv_at hl 1 rfl) ?_
    refine W.lcmp hx hb dL_law_1113 ?_
    rw [lcmp_self]
    refine lv_if_ne (tgt := 1150) hx hb dL_law_1114 (by decide) (fun h9 => absurd rfl h9) (fun _ => ?_)
    refine lv_aload_n hx hb dL_law_1117 rfl (lv_at hl 13 rfl) ?_
    refine lv_iload hx hb dL_law_1118 (lv_at hl 9 rfl) ?_
    refine mH C0 M0 (c_L_floorKey l g a T (nI lo) C0.2.2.2.2 (rF T.1.1 t lo t.size) T (hh_floor hw lo)) vh_L_263 (rest := []) rfl rfl hl.1 (Nat.le_of_ble_eq_true rfl) dL_law_1120 ⟨by omega, by omega⟩ ⟨by omega, by omega⟩ (fun H locs M0 => ?_)
    refine lv_iload hx hb dL_law_1123 (lv_at hl 3 rfl) ?_
    refine lv_icmp_ne (tgt := 1150) hx hb dL_law_1125 (by decide) (fun h9 => absurd rfl h9) (fun _ => ?_)
    refine lv_aload_n hx hb dL_law_1128 rfl (lv_at hl 13 rfl) ?_
    refine lv_iload hx hb dL_law_1129 (lv_at hl 9 rfl) ?_
    refine mH C0 M0 (c_L_ceilingKey l g a T (nI lo) C0.2.2.2.2 (rC T.1.1 t lo t.size) T (hh_ceiling hw lo)) vh_L_265 (rest := []) rfl rfl hl.1 (Nat.le_of_ble_eq_true rfl) dL_law_1131 ⟨by omega, by omega⟩ ⟨by omega, by omega⟩ (fun H locs M0 => ?_)
    refine lv_iload hx hb dL_law_1134 (lv_at hl 2 rfl) ?_
    refine lv_icmp_ne (tgt := 1150) hx hb dL_law_1136 (by decide) (fun h9 => absurd rfl h9) (fun _ => ?_)
    refine lv_aload_n hx hb dL_law_1139 rfl (lv_at hl 13 rfl) ?_
    refine lv_iload hx hb dL_law_1140 (lv_at hl 9 rfl) ?_
    refine mH C0 M0 (c_L_nearestKey l g a T (nI lo) C0.2.2.2.2 (rNear T.1.1 t lo) T (hh_near hw hlo)) vh_L_267 (rest := []) rfl rfl hl.1 (Nat.le_of_ble_eq_true rfl) dL_law_1142 ⟨by omega, by omega⟩ ⟨by omega, by omega⟩ (fun H locs M0 => ?_)
    refine lv_iload hx hb dL_law_1145 (lv_at hl 0 rfl) ?_
    refine lv_icmp_eq (tgt := 1152) hx hb dL_law_1147 (by decide) (fun _ => ?_) (fun h9 => absurd hV.symm h9)
    refine lv_iinc (v := (nI (u + 1))) (lv' := [(8, .int (nI (u + 1))), (19, .int V), (17, .long (lN (rS T.1.1 t lo hi t.size))), (16, .int (rC T.1.1 t lo t.size)), (15, .int (rF T.1.1 t lo t.size)), (14, .int (rB T.1.1 t lo hi t.size)), (13, .int (nI (rN T.1.1 t lo hi (nI le) t.size))), (12, .int (nI (rN T.1.1 t lo hi 0 t.size))), (11, .int (nI le)), (10, .int (nI hi)), (9, .int (nI lo)), (3, .int (nI t.size)), (2, .int (nI tu)), (1, .ref (a 0)), (0, .ref sb)]) hx hb dL_law_1152 hl (k := 10) rfl (by rw [nI_succ]; rfl) (by decide) rfl (fun ls hl => ?_)
    refine lv_goto (tgt := 751) hx hb dL_law_1155 (by decide) ?_
    exact kk ls _ _ _ _ M0 (by omega) (by omega) (lv_sub hl [0, 11, 12, 13, 14] rfl)
  refine lv_iload hx hb dL_law_978 (lv_at hl 3 rfl) ?_
  refine lv_sipush (v := (-30000)) hx hb dL_law_980 (by decide) ?_
  by_cases e1 : rF T.1.1 t lo t.size = -30000
  · refine lv_icmp_ne (tgt := 991) hx hb dL_law_983 (by decide) (fun h9 => absurd e1 h9) (fun _ => ?_)
    refine lv_iload hx hb dL_law_986 (lv_at hl 2 rfl) ?_
    refine lv_goto (tgt := 1019) hx hb dL_law_988 (by decide) ?_
    exact J1019 _ (by unfold rNear; rw [if_pos e1])
  · refine lv_icmp_ne (tgt := 991) hx hb dL_law_983 (by decide) (fun _ => ?_) (fun h9 => absurd h9 e1)
    refine lv_iload hx hb dL_law_991 (lv_at hl 2 rfl) ?_
    refine lv_sipush (v := (-30000)) hx hb dL_law_993 (by decide) ?_
    by_cases e2 : rC T.1.1 t lo t.size = -30000
    · refine lv_icmp_eq (tgt := 1012) hx hb dL_law_996 (by decide) (fun _ => ?_) (fun h9 => absurd e2 h9)
      refine lv_iload hx hb dL_law_1012 (lv_at hl 3 rfl) ?_
      refine lv_goto (tgt := 1019) hx hb dL_law_1014 (by decide) ?_
      exact J1019 _ (by unfold rNear; rw [if_neg e1, if_pos e2])
    · refine lv_icmp_eq (tgt := 1012) hx hb dL_law_996 (by decide) (fun h9 => absurd h9 e2) (fun _ => ?_)
      refine lv_iload hx hb dL_law_999 (lv_at hl 9 rfl) ?_
      refine lv_iload hx hb dL_law_1001 (lv_at hl 3 rfl) ?_
      refine lv_isub hx hb dL_law_1003 ?_
      refine lv_iload hx hb dL_law_1004 (lv_at hl 2 rfl) ?_
      refine lv_iload hx hb dL_law_1006 (lv_at hl 9 rfl) ?_
      refine lv_isub hx hb dL_law_1008 ?_
      by_cases e3 : nI lo - rF T.1.1 t lo t.size ≤ rC T.1.1 t lo t.size - nI lo
      · refine lv_icmp_gt (tgt := 1017) hx hb dL_law_1009 (by decide) (fun h9 => absurd h9 (Int32.not_lt.mpr e3)) (fun _ => ?_)
        refine lv_iload hx hb dL_law_1012 (lv_at hl 3 rfl) ?_
        refine lv_goto (tgt := 1019) hx hb dL_law_1014 (by decide) ?_
        exact J1019 _ (by unfold rNear; rw [if_neg e1, if_neg e2, if_pos e3])
      · refine lv_icmp_gt (tgt := 1017) hx hb dL_law_1009 (by decide) (fun _ => ?_) (fun h9 => absurd (Int32.not_le.mp e3) h9)
        refine lv_iload hx hb dL_law_1017 (lv_at hl 2 rfl) ?_
        exact J1019 _ (by unfold rNear; rw [if_neg e1, if_neg e2, if_neg e3])
set_option maxHeartbeats 8000000 in
set_option maxRecDepth 100000 in
theorem lR_one {p : Program} {l : Launch} {e : Env} {s : State} {m : MethodId} {below : List Frame} {meth : Method} {c : Code} {H : Heap} {locs : List Loc} {cells0 slots0 : Nat} {Q : State → Prop} {A : Nat → Prop} {g : pq_g} {ad av : Nat → Nat} {sb L : Nat} {xs : Nat → Int32} {E : va_W} {a : Nat → Nat} {T : MainS} {ls : Array Slot} {R : Room} (C0 : lwC p l s m #[.ref sb] c cL_law 21 A g ad av [] sb L xs) (hR : 64 ≤ R.frames ∧ 6000 ≤ R.locals) (hL : L < 2 ^ 31) {t : Tr} (hw : WF T.1.1 t) {u tu : Nat} (hu : u < 8) (htu : tu < 3) (M0 : lwM g a T E A s H locs) (hf : cells0 + 230 ≤ R.cells ∧ slots0 + 1380 ≤ R.slots) (hl : lv_has ls 21 [(8, .int (nI u)), (3, .int (nI t.size)), (2, .int (nI tu)), (1, .ref (a 0)), (0, .ref sb)]) (kk : ∀ (ls : Array Slot) (H : Heap) (locs : List Loc) (cells slots : Nat), lwM g a T E A s H locs → cells ≤ cells0 + 230 → slots ≤ slots0 + 1380 → lv_has ls 21 [(8, .int (nI (u + 1))), (3, .int (nI t.size)), (2, .int (nI tu)), (1, .ref (a 0)), (0, .ref sb)] → W p l e R s m #[.ref sb] below meth c H locs cells slots Q (F0 m 751 ls [])) : W p l e R s m #[.ref sb] below meth c H locs cells0 slots0 Q (F0 m 758 ls []) := by
  obtain ⟨hx, hb, hml, hown, hts⟩ := id C0.1
  have h24 := hw.le
  obtain ⟨lo, elo⟩ : ∃ lo, lo = lsome xs L (120 + 8 * tu + u) 100 := ⟨_, rfl⟩
  have hlo : lo < 100 := by rw [elo]; exact lsome_lt (by decide)
  obtain ⟨hd, ehd⟩ : ∃ hd, hd = lsome xs L (150 + u) (100 - lo) := ⟨_, rfl⟩
  have hhd : hd < 100 - lo := by rw [ehd]; exact lsome_lt (by omega)
  obtain ⟨le, ele⟩ : ∃ le, le = lsome xs L (160 + u) 100 := ⟨_, rfl⟩
  have hle : le < 100 := by rw [ele]; exact lsome_lt (by decide)
  obtain ⟨z1, z2, z3⟩ := r_zero T.1.1 t lo (lo + hd)
  refine lv_aload_n hx hb dL_law_758 rfl (lv_at hl 4 rfl) ?_
  refine lv_bipush (v := 120) hx hb dL_law_759 (by decide) ?_
  refine lv_bipush (v := 8) hx hb dL_law_761 (by decide) ?_
  refine lv_iload_n hx hb dL_law_763 rfl (lv_at hl 2 rfl) ?_
  refine lv_imul hx hb dL_law_764 ?_
  rw [show ((8 * nI tu) : Int32) = (nI (8 * tu)) from pk_mul 8 tu]
  refine lv_iadd hx hb dL_law_765 ?_
  rw [show ((120 + nI (8 * tu)) : Int32) = (nI (120 + 8 * tu)) from nI_add 120 (8 * tu)]
  refine lv_iload hx hb dL_law_766 (lv_at hl 0 rfl) ?_
  refine lv_iadd hx hb dL_law_768 ?_
  rw [show ((nI (120 + 8 * tu) + nI u) : Int32) = (nI (120 + 8 * tu + u)) from nI_add _ _]
  refine lv_bipush (v := 100) hx hb dL_law_769 (by decide) ?_
  refine mSo C0 M0 (j := 120 + 8 * tu + u) (n := 100) hL (by omega) (by omega) (by omega) hl.1 (Nat.le_of_ble_eq_true rfl) dL_law_771 ⟨by omega, by omega⟩ ⟨by omega, by omega⟩ (fun H locs M0 => ?_)
  rw [← elo]
  refine lv_istore (lv' := [(9, .int (nI lo)), (8, .int (nI u)), (3, .int (nI t.size)), (2, .int (nI tu)), (1, .ref (a 0)), (0, .ref sb)]) hx hb dL_law_774 hl (by decide) rfl (fun ls hl => ?_)
  refine lv_iload hx hb dL_law_776 (lv_at hl 0 rfl) ?_
  refine lv_aload_n hx hb dL_law_778 rfl (lv_at hl 5 rfl) ?_
  refine lv_sipush (v := 150) hx hb dL_law_779 (by decide) ?_
  refine lv_iload hx hb dL_law_782 (lv_at hl 1 rfl) ?_
  refine lv_iadd hx hb dL_law_784 ?_
  rw [show ((150 + nI u) : Int32) = (nI (150 + u)) from nI_add 150 u]
  refine lv_bipush (v := 100) hx hb dL_law_785 (by decide) ?_
  refine lv_iload hx hb dL_law_787 (lv_at hl 0 rfl) ?_
  refine lv_isub hx hb dL_law_789 ?_
  rw [show ((100 - nI lo) : Int32) = (nI (100 - lo)) from pk_sub (a := 100) (b := lo) (by omega)]
  refine mSo C0 M0 (j := 150 + u) (n := 100 - lo) hL (by omega) (by omega) (by omega) hl.1 (Nat.le_of_ble_eq_true rfl) dL_law_790 ⟨by omega, by omega⟩ ⟨by omega, by omega⟩ (fun H locs M0 => ?_)
  rw [← ehd]
  refine lv_iadd hx hb dL_law_793 ?_
  rw [show ((nI lo + nI hd) : Int32) = (nI (lo + hd)) from nI_add lo hd]
  refine lv_istore (lv' := [(10, .int (nI (lo + hd))), (9, .int (nI lo)), (8, .int (nI u)), (3, .int (nI t.size)), (2, .int (nI tu)), (1, .ref (a 0)), (0, .ref sb)]) hx hb dL_law_794 hl (by decide) rfl (fun ls hl => ?_)
  refine lv_aload_n hx hb dL_law_796 rfl (lv_at hl 6 rfl) ?_
  refine lv_sipush (v := 160) hx hb dL_law_797 (by decide) ?_
  refine lv_iload hx hb dL_law_800 (lv_at hl 2 rfl) ?_
  refine lv_iadd hx hb dL_law_802 ?_
  rw [show ((160 + nI u) : Int32) = (nI (160 + u)) from nI_add 160 u]
  refine lv_bipush (v := 100) hx hb dL_law_803 (by decide) ?_
  refine mSo C0 M0 (j := 160 + u) (n := 100) hL (by omega) (by omega) (by omega) hl.1 (Nat.le_of_ble_eq_true rfl) dL_law_805 ⟨by omega, by omega⟩ ⟨by omega, by omega⟩ (fun H locs M0 => ?_)
  rw [← ele]
  refine lv_istore (lv' := [(11, .int (nI le)), (10, .int (nI (lo + hd))), (9, .int (nI lo)), (8, .int (nI u)), (3, .int (nI t.size)), (2, .int (nI tu)), (1, .ref (a 0)), (0, .ref sb)]) hx hb dL_law_808 hl (by decide) rfl (fun ls hl => ?_)
  refine lv_iconst (v := 0) hx hb dL_law_810 (by decide) ?_
  refine lv_istore (lv' := [(12, .int 0), (11, .int (nI le)), (10, .int (nI (lo + hd))), (9, .int (nI lo)), (8, .int (nI u)), (3, .int (nI t.size)), (2, .int (nI tu)), (1, .ref (a 0)), (0, .ref sb)]) hx hb dL_law_811 hl (by decide) rfl (fun ls hl => ?_)
  refine lv_iconst (v := 0) hx hb dL_law_813 (by decide) ?_
  refine lv_istore (lv' := [(13, .int 0), (12, .int 0), (11, .int (nI le)), (10, .int (nI (lo + hd))), (9, .int (nI lo)), (8, .int (nI u)), (3, .int (nI t.size)), (2, .int (nI tu)), (1, .ref (a 0)), (0, .ref sb)]) hx hb dL_law_814 hl (by decide) rfl (fun ls hl => ?_)
  refine lv_sipush (v := (-30000)) hx hb dL_law_816 (by decide) ?_
  refine lv_istore (lv' := [(14, .int (-30000)), (13, .int 0), (12, .int 0), (11, .int (nI le)), (10, .int (nI (lo + hd))), (9, .int (nI lo)), (8, .int (nI u)), (3, .int (nI t.size)), (2, .int (nI tu)), (1, .ref (a 0)), (0, .ref sb)]) hx hb dL_law_819 hl (by decide) rfl (fun ls hl => ?_)
  refine lv_sipush (v := (-30000)) hx hb dL_law_821 (by decide) ?_
  refine lv_istore (lv' := [(15, .int (-30000)), (14, .int (-30000)), (13, .int 0), (12, .int 0), (11, .int (nI le)), (10, .int (nI (lo + hd))), (9, .int (nI lo)), (8, .int (nI u)), (3, .int (nI t.size)), (2, .int (nI tu)), (1, .ref (a 0)), (0, .ref sb)]) hx hb dL_law_824 hl (by decide) rfl (fun ls hl => ?_)
  refine lv_sipush (v := (-30000)) hx hb dL_law_826 (by decide) ?_
  refine lv_istore (lv' := [(16, .int (-30000)), (15, .int (-30000)), (14, .int (-30000)), (13, .int 0), (12, .int 0), (11, .int (nI le)), (10, .int (nI (lo + hd))), (9, .int (nI lo)), (8, .int (nI u)), (3, .int (nI t.size)), (2, .int (nI tu)), (1, .ref (a 0)), (0, .ref sb)]) hx hb dL_law_829 hl (by decide) rfl (fun ls hl => ?_)
  refine lv_lconst (v := 0) hx hb dL_law_831 (by decide) ?_
  refine lv_lstore (lv' := [(17, .long 0), (16, .int (-30000)), (15, .int (-30000)), (14, .int (-30000)), (13, .int 0), (12, .int 0), (11, .int (nI le)), (10, .int (nI (lo + hd))), (9, .int (nI lo)), (8, .int (nI u)), (3, .int (nI t.size)), (2, .int (nI tu)), (1, .ref (a 0)), (0, .ref sb)]) hx hb dL_law_832 hl (by decide) rfl (fun ls hl => ?_)
  refine lv_iconst (v := 0) hx hb dL_law_834 (by decide) ?_
  refine lv_istore (lv' := [(19, .int 0), (17, .long 0), (16, .int (-30000)), (15, .int (-30000)), (14, .int (-30000)), (13, .int 0), (12, .int 0), (11, .int (nI le)), (10, .int (nI (lo + hd))), (9, .int (nI lo)), (8, .int (nI u)), (3, .int (nI t.size)), (2, .int (nI tu)), (1, .ref (a 0)), (0, .ref sb)]) hx hb dL_law_835 hl (by decide) rfl (fun ls hl => ?_)
  have hl0 : lv_has ls 21 [(19, .int (nI 0)), (17, .long (lN (rS T.1.1 t lo (lo + hd) 0))), (16, .int (rC T.1.1 t lo 0)), (15, .int (rF T.1.1 t lo 0)), (14, .int (rB T.1.1 t lo (lo + hd) 0)), (13, .int (nI (rN T.1.1 t lo (lo + hd) (nI le) 0))), (12, .int (nI (rN T.1.1 t lo (lo + hd) 0 0))), (11, .int (nI le)), (10, .int (nI (lo + hd))), (9, .int (nI lo)), (8, .int (nI u)), (3, .int (nI t.size)), (2, .int (nI tu)), (1, .ref (a 0)), (0, .ref sb)] := by
    rw [z1, z2, z3]
    exact lv_sub hl [0, 1, 2, 3, 4, 5, 6, 7, 8, 9, 10, 11, 12, 13, 14] rfl
  refine lR_in (H := H) (locs := locs) (ls := ls) C0 hR hL hw (by omega) (by omega) (cells0 := cells0) (slots0 := slots0) (fun ls H locs cells slots M0 hc1 hs1 hl => ?_) (by omega) t.size 0 ls _ _ _ _ (by omega) M0 (Nat.le_refl _) (Nat.le_refl _) hl0
  exact lR_end C0 hR hL hw (by omega) (by omega) (by omega) (by omega) M0 (by omega) hl (fun ls H locs cells slots M0 hc2 hs2 hl => kk ls H locs cells slots M0 (by omega) (by omega) hl)
set_option maxHeartbeats 8000000 in
set_option maxRecDepth 100000 in
theorem lR_all {p : Program} {l : Launch} {e : Env} {s : State} {m : MethodId} {below : List Frame} {meth : Method} {c : Code} {H : Heap} {locs : List Loc} {cells0 slots0 : Nat} {Q : State → Prop} {A : Nat → Prop} {g : pq_g} {ad av : Nat → Nat} {sb L : Nat} {xs : Nat → Int32} {E : va_W} {a : Nat → Nat} {T : MainS} {ls : Array Slot} {R : Room} (C0 : lwC p l s m #[.ref sb] c cL_law 21 A g ad av [] sb L xs) (hR : 64 ≤ R.frames ∧ 6000 ≤ R.locals) (hL : L < 2 ^ 31) {t : Tr} (hw : WF T.1.1 t) {tu : Nat} (htu : tu < 3) (kk : ∀ (ls : Array Slot) (H : Heap) (locs : List Loc) (cells slots : Nat), lwM g a T E A s H locs → cells ≤ cells0 + 1840 → slots ≤ slots0 + 11040 → lv_has ls 21 [(8, .int (nI 8)), (3, .int (nI t.size)), (2, .int (nI tu)), (1, .ref (a 0)), (0, .ref sb)] → W p l e R s m #[.ref sb] below meth c H locs cells slots Q (F0 m 1158 ls [])) (hf : cells0 + 1840 ≤ R.cells ∧ slots0 + 11040 ≤ R.slots) : ∀ (z u : Nat) (ls : Array Slot) (H : Heap) (locs : List Loc) (cells slots : Nat), u + z = 8 → lwM g a T E A s H locs → cells ≤ cells0 + 230 * u → slots ≤ slots0 + 1380 * u → lv_has ls 21 [(8, .int (nI u)), (3, .int (nI t.size)), (2, .int (nI tu)), (1, .ref (a 0)), (0, .ref sb)] → W p l e R s m #[.ref sb] below meth c H locs cells slots Q (F0 m 751 ls []) := by
  obtain ⟨hx, hb, hml, hown, hts⟩ := id C0.1
  intro z
  induction z with
    | zero =>
      intro u ls H locs cells slots hj M0 hc1 hs1 hl
      obtain rfl : u = 8 := by omega
      refine lv_iload hx hb dL_law_751 (lv_at hl 0 rfl) ?_
      refine lv_bipush (v := 8) hx hb dL_law_753 (by decide) ?_
      refine lv_icmp_ge (tgt := 1158) hx hb dL_law_755 (by decide) (fun _ => ?_) (fun h9 => absurd (Int32.le_refl _) h9)
      exact kk ls _ _ _ _ M0 (by omega) (by omega) hl
    | succ z ih =>
      intro u ls H locs cells slots hj M0 hc1 hs1 hl
      refine lv_iload hx hb dL_law_751 (lv_at hl 0 rfl) ?_
      refine lv_bipush (v := 8) hx hb dL_law_753 (by decide) ?_
      refine lv_icmp_ge (tgt := 1158) hx hb dL_law_755 (by decide) (fun h9 => absurd h9 (nI_ge (b := 8) (by omega) (by decide))) (fun _ => ?_)
      exact lR_one C0 hR hL hw (by omega) htu M0 (by omega) hl (fun ls H locs cells2 slots2 M0 hc2 hs2 hl => ih (u + 1) ls H locs _ _ (by omega) M0 (by omega) (by omega) hl)
