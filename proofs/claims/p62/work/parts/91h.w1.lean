/-! ===== the law's look at a window ===== -/
/-- n, so many times -/
def lwS (n : Nat) : Nat → Nat
  | 0 => 0
  | k + 1 => lwS n k + n
theorem hh_points {T : MainS} {t : Tr} (h : WF T.1.1 t) {w : Nat} (hw : w < 4) (ho : f_X6_requireOpenWindow T (nI w) = some (.inr (), T)) : h_pointsInWindow T (nI w) = some (nI (wN T.1 t w), T) := by
  unfold h_pointsInWindow
  rw [a_points h hw ho]; rfl
theorem hh_points_no {T : MainS} {w : Nat} (ho : f_X6_requireOpenWindow T (nI w) = some (.inl NSE, T)) : h_pointsInWindow T (nI w) = some (-30000, T) := by
  unfold h_pointsInWindow
  rw [a_points_no ho]; rfl
theorem hh_wka_no {T : MainS} {t : Tr} (h : WF T.1.1 t) {w : Nat} (hw : w < 4) (ho : f_X6_requireOpenWindow T (nI w) = some (.inr (), T)) : h_windowKeyAt T (nI w) (nI (wN T.1 t w)) = some (-30000, T) := by
  unfold h_windowKeyAt
  rw [a_windowKeyAt_no h hw ho]; rfl
set_option maxHeartbeats 8000000 in
set_option maxRecDepth 100000 in
theorem lW_keys {p : Program} {l : Launch} {e : Env} {s : State} {m : MethodId} {below : List Frame} {meth : Method} {c : Code} {H : Heap} {locs : List Loc} {cells0 slots0 : Nat} {Q : State → Prop} {A : Nat → Prop} {g : pq_g} {ad av : Nat → Nat} {sb L : Nat} {xs : Nat → Int32} {E : va_W} {a : Nat → Nat} {T : MainS} {ls : Array Slot} {R : Room} (C0 : lwC p l s m #[.ref sb] c cL_law 21 A g ad av [] sb L xs) (hR : 64 ≤ R.frames ∧ 6000 ≤ R.locals) (hL : L < 2 ^ 31) {t : Tr} (hw : WF T.1.1 t) {w tu : Nat} (hw4 : w < 4) (ho : f_X6_requireOpenWindow T (nI w) = some (.inr (), T)) (kk : ∀ (b : Nat) (E : va_W) (ls : Array Slot) (H : Heap) (locs : List Loc) (cells slots : Nat), lw_str g ad (wtX T.1 t w (wN T.1 t w)) b E → lwM g a T E A s H locs → cells ≤ cells0 + 336 → slots ≤ slots0 + 196800 → lv_has ls 21 [(11, .int (nI (wN T.1 t w))), (10, .ref b), (9, .int (nI (wN T.1 t w))), (8, .int (nI w)), (3, .int (nI t.size)), (2, .int (nI tu)), (1, .ref (a 0)), (0, .ref sb)] → W p l e R s m #[.ref sb] below meth c H locs cells slots Q (F0 m 1309 ls [])) (hf : cells0 + 336 ≤ R.cells ∧ slots0 + 196800 ≤ R.slots) : ∀ (z k b : Nat) (E : va_W) (ls : Array Slot) (H : Heap) (locs : List Loc) (cells slots : Nat), k + z = wN T.1 t w → lw_str g ad (wtX T.1 t w k) b E → lwM g a T E A s H locs → cells ≤ cells0 + 14 * k → slots ≤ slots0 + 8200 * k → lv_has ls 21 [(11, .int (nI k)), (10, .ref b), (9, .int (nI (wN T.1 t w))), (8, .int (nI w)), (3, .int (nI t.size)), (2, .int (nI tu)), (1, .ref (a 0)), (0, .ref sb)] → W p l e R s m #[.ref sb] below meth c H locs cells slots Q (F0 m 1217 ls []) := by
  obtain ⟨hx, hb, hml, hown, hts⟩ := id C0.1
  have h24 := hw.le
  have hwn := wN_le T.1 t w
  have hA := C0.2.2.1
  intro z
  induction z with
    | zero =>
      intro k b E ls H locs cells slots hj hs0 M0 hc1 hs1 hl
      obtain rfl : k = wN T.1 t w := by omega
      refine lv_iload hx hb dL_law_1217 (lv_at hl 0 rfl) ?_
      refine lv_iload hx hb dL_law_1219 (lv_at hl 2 rfl) ?_
      refine lv_icmp_ge (tgt := 1309) hx hb dL_law_1221 (by decide) (fun _ => ?_) (fun h9 => absurd (nI_le (Nat.le_refl _) (by omega)) h9)
      exact kk b E ls _ _ _ _ hs0 M0 (by omega) (by omega) hl
    | succ z ih =>
      intro k b E ls H locs cells slots hj hs0 M0 hc1 hs1 hl
      have hk : k < wN T.1 t w := by omega
      obtain ⟨p1, -, -⟩ := wplG_ok (gW_le T.1 t w) t.size k hk
      have k99 : kN T.1.1 t (wpl T.1 t w k) ≤ 99 := (kN_ok hw p1).2
      obtain ⟨x1, x2, x3⟩ := wtX_ok hw (w := w) k (by omega)
      refine lv_iload hx hb dL_law_1217 (lv_at hl 0 rfl) ?_
      refine lv_iload hx hb dL_law_1219 (lv_at hl 2 rfl) ?_
      refine lv_icmp_ge (tgt := 1309) hx hb dL_law_1221 (by decide) (fun h9 => absurd h9 (nI_ge hk (by omega))) (fun _ => ?_)
      refine lv_aload_n hx hb dL_law_1224 rfl (lv_at hl 6 rfl) ?_
      refine lv_iload hx hb dL_law_1225 (lv_at hl 3 rfl) ?_
      refine lv_iload hx hb dL_law_1227 (lv_at hl 0 rfl) ?_
      refine mX C0 M0 (c_X6_windowKeyAt l g a T (nI w) (nI k) C0.2.2.2.2 (.inr (nI (kN T.1.1 t (wpl T.1 t w k)))) T (a_windowKeyAt hw hw4 ho hk)) vv_L_54 (rest := []) rfl rfl hl.1 (Nat.le_of_ble_eq_true rfl) dL_law_1229 ⟨by omega, by omega⟩ ⟨by omega, by omega⟩ (fun H locs M0 => ?_)
      refine lv_istore (lv' := [(12, .int (nI (kN T.1.1 t (wpl T.1 t w k)))), (11, .int (nI k)), (10, .ref b), (9, .int (nI (wN T.1 t w))), (8, .int (nI w)), (3, .int (nI t.size)), (2, .int (nI tu)), (1, .ref (a 0)), (0, .ref sb)]) hx hb dL_law_1232 hl (by decide) rfl (fun ls hl => ?_)
      refine lv_aload_n hx hb dL_law_1234 rfl (lv_at hl 7 rfl) ?_
      refine lv_iload hx hb dL_law_1235 (lv_at hl 0 rfl) ?_
      refine mR C0 M0 (c_X6_contains l g a T (nI (kN T.1.1 t (wpl T.1 t w k))) (1) (a_contains hw p1)) vv_L_184 (rest := []) rfl rfl hl.1 (Nat.le_of_ble_eq_true rfl) dL_law_1237 ⟨by omega, by omega⟩ ⟨by omega, by omega⟩ ?_
      refine lv_if_eq (tgt := 1263) hx hb dL_law_1240 (by decide) (fun h9 => absurd h9 (by decide)) (fun _ => ?_)
      have J1265 : ∀ (H : Heap) (locs : List Loc) (cells1 slots1 : Nat), lwM g a T E A s H locs → cells1 ≤ cells + 6 → slots1 ≤ slots + 36 → W p l e R s m #[.ref sb] below meth c H locs cells1 slots1 Q (F0 m 1265 ls []) := by
        intro H locs cells1 slots1 M0 hc2 hs2
        refine mSBn C0 M0 hl.1 (Nat.le_of_ble_eq_true rfl) dL_law_1265 dL_law_1268 dL_law_1269 ⟨by omega, by omega⟩ ⟨by omega, by omega⟩ (fun b8 w8 f8 H locs M0 hx0 => ?_)
        refine lv_aload hx hb dL_law_1272 (lv_at hl 2 rfl) ?_
        obtain ⟨v2, hT2⟩ := lw_strT C0 M0.2.2 hs0 (pq_P1 (pq_P2 M0.1)) (pq_Afree (pq_D2 (pq_D2 M0.2.1)) M0.2.2 hA) (lw_nB (pq_P1 (pq_P2 M0.1)) (fun p hp q hq => pq_Dx (pq_D2 M0.2.1) p hp q hq)) (by omega)
        refine mSBs C0 M0 hx0 (by simp only [List.length_append, List.length_nil, List.length_singleton]; omega) (fun c hc => by have := x3 c hc; omega) hT2 hl.1 (Nat.le_of_ble_eq_true rfl) dL_law_1274 ⟨by omega, by omega⟩ ⟨by omega, by omega⟩ (fun w8 m8 f8 H locs M0 hx0 => ?_)
        refine lv_iload hx hb dL_law_1277 (lv_at hl 1 rfl) ?_
        have J1293 : ∀ (XC : List Nat) (w8 m8 : Nat) (f8 : Nat → Int32) (H : Heap) (locs : List Loc) (cells2 slots2 : Nat), XC = (if 0 < k then [44] else []) → lwM g a T (E ++ sbW g b8 w8 m8 (nI (([] ++ wtX T.1 t w k) ++ XC).length) f8) A s H locs → sbO (([] ++ wtX T.1 t w k) ++ XC) m8 f8 → cells2 ≤ cells1 + 4 → slots2 ≤ slots1 + 4020 → W p l e R s m #[.ref sb] below meth c H locs cells2 slots2 Q (F0 m 1293 ls [.ref b8]) := by
          intro XC w8 m8 f8 H locs cells2 slots2 hXC M0 hx0 hc3 hs3
          have hxl : XC.length ≤ 1 := by rw [hXC]; split; exact Nat.le_refl _; exact Nat.zero_le _
          have d1 := decL_len (kN T.1.1 t (wpl T.1 t w k))
          refine lv_iload hx hb dL_law_1293 (lv_at hl 0 rfl) ?_
          refine mSBi C0 M0 hx0 (by simp only [List.length_append, List.length_nil, List.length_singleton]; omega) (by omega) hl.1 (Nat.le_of_ble_eq_true rfl) dL_law_1295 ⟨by omega, by omega⟩ ⟨by omega, by omega⟩ (fun w8 m8 f8 H locs M0 hx0 => ?_)
          refine mSBt C0 M0 hx0 hl.1 (Nat.le_of_ble_eq_true rfl) dL_law_1298 ⟨by omega, by omega⟩ ⟨by omega, by omega⟩ (fun b9 v9 f9 H1 locs1 M1 hf9 hz9 => ?_)
          refine lv_astore (lv' := [(10, .ref b9), (12, .int (nI (kN T.1.1 t (wpl T.1 t w k)))), (11, .int (nI k)), (9, .int (nI (wN T.1 t w))), (8, .int (nI w)), (3, .int (nI t.size)), (2, .int (nI tu)), (1, .ref (a 0)), (0, .ref sb)]) hx hb dL_law_1301 hl (by decide) rfl (fun ls hl => ?_)
          refine lv_iinc (v := (nI (k + 1))) (lv' := [(11, .int (nI (k + 1))), (10, .ref b9), (12, .int (nI (kN T.1.1 t (wpl T.1 t w k)))), (9, .int (nI (wN T.1 t w))), (8, .int (nI w)), (3, .int (nI t.size)), (2, .int (nI tu)), (1, .ref (a 0)), (0, .ref sb)]) hx hb dL_law_1303 hl (k := 2) rfl (by rw [nI_succ]; rfl) (by decide) rfl (fun ls hl => ?_)
          refine lv_goto (tgt := 1217) hx hb dL_law_1306 (by decide) ?_
          have ex : (([] ++ wtX T.1 t w k) ++ XC) ++ decL (kN T.1.1 t (wpl T.1 t w k)) = wtX T.1 t w (k + 1) := by rw [hXC]; rfl
          rw [ex] at M1 hf9
          exact ih (k + 1) b9 _ ls _ _ _ _ (by omega) (Or.inr ⟨v9, f9, rfl, hf9⟩) M1.snd (by omega) (by omega) (lv_sub hl [0, 1, 3, 4, 5, 6, 7, 8] rfl)
        by_cases e0 : k = 0
        · refine lv_if_le (tgt := 1288) hx hb dL_law_1279 (by decide) (fun _ => ?_) (fun h9 => absurd (by rw [e0]; decide) h9)
          refine mldc C0 0 (by decide) dL_law_1288 ?_
          refine mSBs C0 M0 hx0 (by simp only [List.length_append, List.length_nil, List.length_singleton]; omega) (t := []) (fun c hc => absurd hc List.not_mem_nil) (lw_cst C0 M0.2.2 0 (by decide) (pq_Afree (pq_D2 (pq_D2 M0.2.1)) M0.2.2 hA)) hl.1 (Nat.le_of_ble_eq_true rfl) dL_law_1290 ⟨by omega, by omega⟩ ⟨by omega, by omega⟩ (fun w8 m8 f8 H locs M0 hx0 => ?_)
          exact J1293 [] _ _ _ _ _ _ _ (by rw [if_neg (by omega)]) M0 hx0 (by omega) (by omega)
        · refine lv_if_le (tgt := 1288) hx hb dL_law_1279 (by decide) (fun h9 => absurd h9 (nI_nle (by omega) (by omega))) (fun _ => ?_)
          refine mldcw C0 4 (by decide) dL_law_1282 ?_
          refine lv_goto (tgt := 1290) hx hb dL_law_1285 (by decide) ?_
          refine mSBs C0 M0 hx0 (by simp only [List.length_append, List.length_nil, List.length_singleton]; omega) (t := [44]) (by decide) (lw_cst C0 M0.2.2 4 (by decide) (pq_Afree (pq_D2 (pq_D2 M0.2.1)) M0.2.2 hA)) hl.1 (Nat.le_of_ble_eq_true rfl) dL_law_1290 ⟨by omega, by omega⟩ ⟨by omega, by omega⟩ (fun w8 m8 f8 H locs M0 hx0 => ?_)
          exact J1293 [44] _ _ _ _ _ _ _ (by rw [if_pos (by omega)]) M0 hx0 (by omega) (by omega)
      refine lv_iload hx hb dL_law_1243 (lv_at hl 1 rfl) ?_
      by_cases e0 : k = 0
      · refine lv_if_le (tgt := 1265) hx hb dL_law_1245 (by decide) (fun _ => ?_) (fun h9 => absurd (by rw [e0]; decide) h9)
        exact J1265 _ _ _ _ M0 (by omega) (by omega)
      · refine lv_if_le (tgt := 1265) hx hb dL_law_1245 (by decide) (fun h9 => absurd h9 (nI_nle (by omega) (by omega))) (fun _ => ?_)
        refine lv_iload hx hb dL_law_1248 (lv_at hl 0 rfl) ?_
        refine lv_aload_n hx hb dL_law_1250 rfl (lv_at hl 7 rfl) ?_
        refine lv_iload hx hb dL_law_1251 (lv_at hl 4 rfl) ?_
        refine lv_iload hx hb dL_law_1253 (lv_at hl 1 rfl) ?_
        refine lv_iconst (v := 1) hx hb dL_law_1255 (by decide) ?_
        refine lv_isub hx hb dL_law_1256 ?_
        rw [show ((nI k - 1) : Int32) = (nI (k - 1)) from nI_dec1 (by omega)]
        refine mX C0 M0 (c_X6_windowKeyAt l g a T (nI w) (nI (k - 1)) C0.2.2.2.2 (.inr (nI (kN T.1.1 t (wpl T.1 t w (k - 1))))) T (a_windowKeyAt hw hw4 ho (by omega))) vv_L_54 (rest := [.int (nI (kN T.1.1 t (wpl T.1 t w k)))]) rfl rfl hl.1 (Nat.le_of_ble_eq_true rfl) dL_law_1257 ⟨by omega, by omega⟩ ⟨by omega, by omega⟩ (fun H locs M0 => ?_)
        refine lv_icmp_gt (tgt := 1265) hx hb dL_law_1260 (by decide) (fun _ => ?_) (fun h9 => absurd (nI_lt (kN_lt hw (wpl_lt (by omega) hk) p1) (by omega)) h9)
        exact J1265 _ _ _ _ M0 (by omega) (by omega)
set_option maxHeartbeats 8000000 in
set_option maxRecDepth 100000 in
theorem lW_one {p : Program} {l : Launch} {e : Env} {s : State} {m : MethodId} {below : List Frame} {meth : Method} {c : Code} {H : Heap} {locs : List Loc} {cells0 slots0 : Nat} {Q : State → Prop} {A : Nat → Prop} {g : pq_g} {ad av : Nat → Nat} {sb L : Nat} {xs : Nat → Int32} {E : va_W} {a : Nat → Nat} {T : MainS} {ls : Array Slot} {R : Room} (C0 : lwC p l s m #[.ref sb] c cL_law 21 A g ad av [] sb L xs) (hR : 64 ≤ R.frames ∧ 6000 ≤ R.locals) (hL : L < 2 ^ 31) {t : Tr} {a9 : Nat → Int32} (hd : DR T.1 a9 t) {w tu : Nat} (hw4 : w < 4) (M0 : lwM g a T E A s H locs) (hf : cells0 + 556 ≤ R.cells ∧ slots0 + 198800 ≤ R.slots) (hl : lv_has ls 21 [(8, .int (nI w)), (3, .int (nI t.size)), (2, .int (nI tu)), (1, .ref (a 0)), (0, .ref sb)]) (kk : ∀ (T1 : MainS) (E : va_W) (ls : Array Slot) (H : Heap) (locs : List Loc) (cells slots : Nat), (T1 = T ∨ ∃ O X, OT O X ∧ T1 = mo T O) → lwM g a T1 E A s H locs → cells ≤ cells0 + 556 → slots ≤ slots0 + 198800 → lv_has ls 21 [(8, .int (nI (w + 1))), (3, .int (nI t.size)), (2, .int (nI tu)), (1, .ref (a 0)), (0, .ref sb)] → W p l e R s m #[.ref sb] below meth c H locs cells slots Q (F0 m 1161 ls [])) : W p l e R s m #[.ref sb] below meth c H locs cells0 slots0 Q (F0 m 1167 ls []) := by
  obtain ⟨hx, hb, hml, hown, hts⟩ := id C0.1
  have hw : WF T.1.1 t := hd.1
  have h24 := hw.le
  have hwn := wN_le T.1 t w
  have hA := C0.2.2.1
  refine lv_aload_n hx hb dL_law_1167 rfl (lv_at hl 3 rfl) ?_
  refine lv_iload hx hb dL_law_1168 (lv_at hl 0 rfl) ?_
  rcases a_open hw4 (hd.2.2.2.1 w hw4) with ⟨o1, o2, o3⟩ | ⟨o1, o2, o3⟩
  · refine mH C0 M0 (c_L_pointsInWindow l g a T (nI w) C0.2.2.2.2 (-30000) T (hh_points_no o2)) vh_L_269 (rest := []) rfl rfl hl.1 (Nat.le_of_ble_eq_true rfl) dL_law_1170 ⟨by omega, by omega⟩ ⟨by omega, by omega⟩ (fun H locs M0 => ?_)
    refine lv_istore (lv' := [(9, .int (-30000)), (8, .int (nI w)), (3, .int (nI t.size)), (2, .int (nI tu)), (1, .ref (a 0)), (0, .ref sb)]) hx hb dL_law_1173 hl (by decide) rfl (fun ls hl => ?_)
    refine mldc C0 0 (by decide) dL_law_1175 ?_
    refine lv_astore (lv' := [(10, .ref (ad 0)), (9, .int (-30000)), (8, .int (nI w)), (3, .int (nI t.size)), (2, .int (nI tu)), (1, .ref (a 0)), (0, .ref sb)]) hx hb dL_law_1177 hl (by decide) rfl (fun ls hl => ?_)
    refine lv_aload_n hx hb dL_law_1179 rfl (lv_at hl 5 rfl) ?_
    refine lv_iload hx hb dL_law_1180 (lv_at hl 2 rfl) ?_
    refine mX C0 M0 (c_X6_isWindowSet l g a T (nI w) C0.2.2.2.2 (.inr (0)) T o3) vv_L_271 (rest := []) rfl rfl hl.1 (Nat.le_of_ble_eq_true rfl) dL_law_1182 ⟨by omega, by omega⟩ ⟨by omega, by omega⟩ (fun H locs M0 => ?_)
    refine lv_iload hx hb dL_law_1185 (lv_at hl 1 rfl) ?_
    refine lv_sipush (v := (-30000)) hx hb dL_law_1187 (by decide) ?_
    refine lv_icmp_eq (tgt := 1197) hx hb dL_law_1190 (by decide) (fun _ => ?_) (fun h9 => absurd rfl h9)
    refine lv_iconst (v := 0) hx hb dL_law_1197 (by decide) ?_
    refine lv_icmp_eq (tgt := 1203) hx hb dL_law_1198 (by decide) (fun _ => ?_) (fun h9 => absurd rfl h9)
    refine lv_iload hx hb dL_law_1203 (lv_at hl 1 rfl) ?_
    refine lv_sipush (v := (-30000)) hx hb dL_law_1205 (by decide) ?_
    refine lv_icmp_ne (tgt := 1214) hx hb dL_law_1208 (by decide) (fun h9 => absurd rfl h9) (fun _ => ?_)
    refine lv_goto (tgt := 1363) hx hb dL_law_1211 (by decide) ?_
    refine lv_iinc (v := (nI (w + 1))) (lv' := [(8, .int (nI (w + 1))), (10, .ref (ad 0)), (9, .int (-30000)), (3, .int (nI t.size)), (2, .int (nI tu)), (1, .ref (a 0)), (0, .ref sb)]) hx hb dL_law_1363 hl (k := 2) rfl (by rw [nI_succ]; rfl) (by decide) rfl (fun ls hl => ?_)
    refine lv_goto (tgt := 1161) hx hb dL_law_1366 (by decide) ?_
    exact kk T E ls _ _ _ _ (Or.inl rfl) M0 (by omega) (by omega) (lv_sub hl [0, 3, 4, 5, 6] rfl)
  · refine mH C0 M0 (c_L_pointsInWindow l g a T (nI w) C0.2.2.2.2 (nI (wN T.1 t w)) T (hh_points hw hw4 o2)) vh_L_269 (rest := []) rfl rfl hl.1 (Nat.le_of_ble_eq_true rfl) dL_law_1170 ⟨by omega, by omega⟩ ⟨by omega, by omega⟩ (fun H locs M0 => ?_)
    refine lv_istore (lv' := [(9, .int (nI (wN T.1 t w))), (8, .int (nI w)), (3, .int (nI t.size)), (2, .int (nI tu)), (1, .ref (a 0)), (0, .ref sb)]) hx hb dL_law_1173 hl (by decide) rfl (fun ls hl => ?_)
    refine mldc C0 0 (by decide) dL_law_1175 ?_
    refine lv_astore (lv' := [(10, .ref (ad 0)), (9, .int (nI (wN T.1 t w))), (8, .int (nI w)), (3, .int (nI t.size)), (2, .int (nI tu)), (1, .ref (a 0)), (0, .ref sb)]) hx hb dL_law_1177 hl (by decide) rfl (fun ls hl => ?_)
    refine lv_aload_n hx hb dL_law_1179 rfl (lv_at hl 5 rfl) ?_
    refine lv_iload hx hb dL_law_1180 (lv_at hl 2 rfl) ?_
    have hne : ¬ nI (wN T.1 t w) = -30000 := no_ne (by omega)
    refine mX C0 M0 (c_X6_isWindowSet l g a T (nI w) C0.2.2.2.2 (.inr (1)) T o3) vv_L_271 (rest := []) rfl rfl hl.1 (Nat.le_of_ble_eq_true rfl) dL_law_1182 ⟨by omega, by omega⟩ ⟨by omega, by omega⟩ (fun H locs M0 => ?_)
    refine lv_iload hx hb dL_law_1185 (lv_at hl 1 rfl) ?_
    refine lv_sipush (v := (-30000)) hx hb dL_law_1187 (by decide) ?_
    refine lv_icmp_eq (tgt := 1197) hx hb dL_law_1190 (by decide) (fun h9 => absurd h9 hne) (fun _ => ?_)
    refine lv_iconst (v := 1) hx hb dL_law_1193 (by decide) ?_
    refine lv_goto (tgt := 1198) hx hb dL_law_1194 (by decide) ?_
    refine lv_icmp_eq (tgt := 1203) hx hb dL_law_1198 (by decide) (fun _ => ?_) (fun h9 => absurd rfl h9)
    refine lv_iload hx hb dL_law_1203 (lv_at hl 1 rfl) ?_
    refine lv_sipush (v := (-30000)) hx hb dL_law_1205 (by decide) ?_
    refine lv_icmp_ne (tgt := 1214) hx hb dL_law_1208 (by decide) (fun _ => ?_) (fun h9 => absurd h9 hne)
    refine lv_iconst (v := 0) hx hb dL_law_1214 (by decide) ?_
    refine lv_istore (lv' := [(11, .int 0), (10, .ref (ad 0)), (9, .int (nI (wN T.1 t w))), (8, .int (nI w)), (3, .int (nI t.size)), (2, .int (nI tu)), (1, .ref (a 0)), (0, .ref sb)]) hx hb dL_law_1215 hl (by decide) rfl (fun ls hl => ?_)
    refine lW_keys (H := H) (locs := locs) (ls := ls) (E := []) C0 hR hL hw hw4 o2 (cells0 := cells0 + 10) (slots0 := slots0 + 60) (fun b E ls H locs cells slots hs0 M0 hc1 hs1 hl => ?_) (by omega) (wN T.1 t w) 0 (ad 0) [] ls _ _ _ _ (by omega) (Or.inl ⟨rfl, rfl, rfl⟩) M0.nil (by omega) (by omega) (lv_sub hl [0, 1, 2, 3, 4, 5, 6, 7] rfl)
    obtain ⟨li, r1, r2, r3⟩ := a_room hd hw4 o1 o2
    obtain ⟨O, hO, oT⟩ := a_writeWindow hw hw4 o2
    obtain ⟨x1, x2, x3⟩ := wtX_ok hw (w := w) (wN T.1 t w) (Nat.le_refl _)
    refine lv_aload_n hx hb dL_law_1309 rfl (lv_at hl 6 rfl) ?_
    refine lv_iload hx hb dL_law_1310 (lv_at hl 3 rfl) ?_
    refine mX C0 M0 (c_X6_roomInWindow l g a T (nI w) C0.2.2.2.2 (.inr (nI (li - wN T.1 t w))) T r3) vv_L_276 (rest := []) rfl rfl hl.1 (Nat.le_of_ble_eq_true rfl) dL_law_1312 ⟨by omega, by omega⟩ ⟨by omega, by omega⟩ (fun H locs M0 => ?_)
    refine lv_if_lt (tgt := 1361) hx hb dL_law_1315 (by decide) (fun h9 => absurd h9 (nI_pos (by omega))) (fun _ => ?_)
    refine lv_iload hx hb dL_law_1318 (lv_at hl 2 rfl) ?_
    refine lv_aload_n hx hb dL_law_1320 rfl (lv_at hl 6 rfl) ?_
    refine lv_iload hx hb dL_law_1321 (lv_at hl 3 rfl) ?_
    refine mX C0 M0 (c_X6_roomInWindow l g a T (nI w) C0.2.2.2.2 (.inr (nI (li - wN T.1 t w))) T r3) vv_L_276 (rest := [.int (nI (wN T.1 t w))]) rfl rfl hl.1 (Nat.le_of_ble_eq_true rfl) dL_law_1323 ⟨by omega, by omega⟩ ⟨by omega, by omega⟩ (fun H locs M0 => ?_)
    refine lv_iadd hx hb dL_law_1326 ?_
    rw [show ((nI (wN T.1 t w) + nI (li - wN T.1 t w)) : Int32) = (nI li) from by rw [nI_add, Nat.add_sub_cancel' r1]]
    refine lv_bipush (v := 24) hx hb dL_law_1327 (by decide) ?_
    refine lv_icmp_gt (tgt := 1361) hx hb dL_law_1329 (by decide) (fun h9 => absurd h9 (nI_nlt (a := 24) r2 (by decide))) (fun _ => ?_)
    refine lv_aload_n hx hb dL_law_1332 rfl (lv_at hl 6 rfl) ?_
    refine lv_iload hx hb dL_law_1333 (lv_at hl 3 rfl) ?_
    refine lv_iload hx hb dL_law_1335 (lv_at hl 2 rfl) ?_
    refine mH C0 M0 (c_L_windowKeyAt l g a T (nI w) (nI (wN T.1 t w)) C0.2.2.2.2 (-30000) T (hh_wka_no hw hw4 o2)) vh_L_279 (rest := []) rfl rfl hl.1 (Nat.le_of_ble_eq_true rfl) dL_law_1337 ⟨by omega, by omega⟩ ⟨by omega, by omega⟩ (fun H locs M0 => ?_)
    refine lv_sipush (v := (-30000)) hx hb dL_law_1340 (by decide) ?_
    refine lv_icmp_ne (tgt := 1361) hx hb dL_law_1343 (by decide) (fun h9 => absurd rfl h9) (fun _ => ?_)
    refine lv_aload_n hx hb dL_law_1346 rfl (lv_at hl 6 rfl) ?_
    refine lv_aload_n hx hb dL_law_1347 rfl (lv_at hl 6 rfl) ?_
    refine lv_iload hx hb dL_law_1348 (lv_at hl 3 rfl) ?_
    refine mX C0 M0 (c_X6_writeWindow l g a T (nI w) C0.2.2.2.2 (.inr (nI (wtX T.1 t w (wN T.1 t w)).length)) (mo T O) hO) vv_L_281 (rest := [.ref (a 0)]) rfl rfl hl.1 (Nat.le_of_ble_eq_true rfl) dL_law_1350 ⟨by omega, by omega⟩ ⟨by omega, by omega⟩ (fun H locs M0 => ?_)
    refine lv_aload hx hb dL_law_1353 (lv_at hl 1 rfl) ?_
    obtain ⟨v, hT2⟩ := lw_strT C0 M0.2.2 hs0 (pq_P2 M0.1) (pq_Afree (pq_D1 M0.2.1) M0.2.2 hA) (lw_nB (pq_P2 M0.1) (fun p hp q hq e => pq_Dx M0.2.1 q hq p hp e.symm)) (by omega)
    refine mS C0 M0 (c_L_isLine l g ad av sb L xs a (mo T O) (wtX T.1 t w (wN T.1 t w)) b v C0.2.2.2.2 (by omega) (fun c hc => by have := x3 c hc; omega) (fun j hj => a_outputAt oT hj T)) (fun U hU hW q hq => by rw [List.mem_singleton.mp hq]; exact hT2 U hU hW) vs_L_238 (As := [.ref (a 0), .int (nI (wtX T.1 t w (wN T.1 t w)).length), .ref b]) (rest := []) rfl rfl hl.1 (Nat.le_of_ble_eq_true rfl) dL_law_1355 ⟨by omega, by omega⟩ ⟨by omega, by omega⟩ (fun r H1 locs1 hv hz1 hF hS1 => ?_)
    obtain ⟨rfl, hP1⟩ := hv
    show W _ _ _ _ _ _ _ _ _ _ _ _ _ _ _ (F0 _ _ _ [.int 1])
    refine lv_if_ne (tgt := 1363) hx hb dL_law_1358 (by decide) (fun _ => ?_) (fun h9 => absurd h9 (by decide))
    refine lv_iinc (v := (nI (w + 1))) (lv' := [(8, .int (nI (w + 1))), (11, .int (nI (wN T.1 t w))), (10, .ref b), (9, .int (nI (wN T.1 t w))), (3, .int (nI t.size)), (2, .int (nI tu)), (1, .ref (a 0)), (0, .ref sb)]) hx hb dL_law_1363 hl (k := 3) rfl (by rw [nI_succ]; rfl) (by decide) rfl (fun ls hl => ?_)
    refine lv_goto (tgt := 1161) hx hb dL_law_1366 (by decide) ?_
    exact kk (mo T O) E ls _ _ _ _ (Or.inr ⟨O, _, oT, rfl⟩) ⟨va_P.app hP1 hF, M0.2.1, hS1⟩ (by omega) (by omega) (lv_sub hl [0, 4, 5, 6, 7] rfl)
set_option maxHeartbeats 8000000 in
set_option maxRecDepth 100000 in
theorem lW_all {p : Program} {l : Launch} {e : Env} {s : State} {m : MethodId} {below : List Frame} {meth : Method} {c : Code} {H : Heap} {locs : List Loc} {cells0 slots0 : Nat} {Q : State → Prop} {A : Nat → Prop} {g : pq_g} {ad av : Nat → Nat} {sb L : Nat} {xs : Nat → Int32} {E : va_W} {a : Nat → Nat} {T : MainS} {ls : Array Slot} {R : Room} (C0 : lwC p l s m #[.ref sb] c cL_law 21 A g ad av [] sb L xs) (hR : 64 ≤ R.frames ∧ 6000 ≤ R.locals) (hL : L < 2 ^ 31) {T0 : MainS} {t : Tr} {a9 : Nat → Int32} (hd : DR T0.1 a9 t) {tu : Nat} (kk : ∀ (O : OutS) (X : List Nat) (E : va_W) (ls : Array Slot) (H : Heap) (locs : List Loc) (cells slots : Nat), OT O X → lwM g a (mo T0 O) E A s H locs → cells ≤ cells0 + 2224 → slots ≤ slots0 + 795200 → lv_has ls 21 [(8, .int (nI 4)), (3, .int (nI t.size)), (2, .int (nI tu)), (1, .ref (a 0)), (0, .ref sb)] → W p l e R s m #[.ref sb] below meth c H locs cells slots Q (F0 m 1369 ls [])) (hf : cells0 + 2224 ≤ R.cells ∧ slots0 + 795200 ≤ R.slots) : ∀ (z w : Nat) (O : OutS) (X : List Nat) (E : va_W) (ls : Array Slot) (H : Heap) (locs : List Loc) (cells slots : Nat), w + z = 4 → OT O X → lwM g a (mo T0 O) E A s H locs → cells ≤ cells0 + 556 * w → slots ≤ slots0 + lwS 198800 w → lv_has ls 21 [(8, .int (nI w)), (3, .int (nI t.size)), (2, .int (nI tu)), (1, .ref (a 0)), (0, .ref sb)] → W p l e R s m #[.ref sb] below meth c H locs cells slots Q (F0 m 1161 ls []) := by
  obtain ⟨hx, hb, hml, hown, hts⟩ := id C0.1
  intro z
  induction z with
    | zero =>
      intro w O X E ls H locs cells slots hj oT M0 hc1 hs1 hl
      obtain rfl : w = 4 := by omega
      have e4 : lwS 198800 4 = 795200 := rfl
      refine lv_iload hx hb dL_law_1161 (lv_at hl 0 rfl) ?_
      refine lv_iconst (v := 4) hx hb dL_law_1163 (by decide) ?_
      refine lv_icmp_ge (tgt := 1369) hx hb dL_law_1164 (by decide) (fun _ => ?_) (fun h9 => absurd (Int32.le_refl _) h9)
      exact kk O X E ls _ _ _ _ oT M0 (by omega) (by omega) hl
    | succ z ih =>
      intro w O X E ls H locs cells slots hj oT M0 hc1 hs1 hl
      refine lv_iload hx hb dL_law_1161 (lv_at hl 0 rfl) ?_
      refine lv_iconst (v := 4) hx hb dL_law_1163 (by decide) ?_
      refine lv_icmp_ge (tgt := 1369) hx hb dL_law_1164 (by decide) (fun h9 => absurd h9 (nI_ge (b := 4) (by omega) (by decide))) (fun _ => ?_)
      have e5 : lwS 198800 (w + 1) = lwS 198800 w + 198800 := rfl
      have e6 : lwS 198800 w ≤ 596400 := by
        have h3 : w = 0 ∨ w = 1 ∨ w = 2 ∨ w = 3 := by omega
        rcases h3 with rfl | rfl | rfl | rfl <;> decide
      have hd2 : DR (mo T0 O).1 a9 t := hd
      refine lW_one C0 hR hL hd2 (by omega) M0 (by omega) hl (fun T1 E ls H locs cells2 slots2 hT1 M0 hc2 hs2 hl => ?_)
      rcases hT1 with rfl | ⟨O2, X2, o2, rfl⟩
      · exact ih (w + 1) O X E ls H locs _ _ (by omega) oT M0 (by omega) (by omega) hl
      · exact ih (w + 1) O2 X2 E ls H locs _ _ (by omega) o2 M0 (by omega) (by omega) hl
