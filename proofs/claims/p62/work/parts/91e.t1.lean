/-! ===== the law's look at the whole tree ===== -/
set_option maxHeartbeats 8000000 in
set_option maxRecDepth 100000 in
theorem lT_a {p : Program} {l : Launch} {e : Env} {s : State} {m : MethodId} {below : List Frame} {meth : Method} {c : Code} {H : Heap} {locs : List Loc} {cells0 slots0 : Nat} {Q : State → Prop} {A : Nat → Prop} {g : pq_g} {ad av : Nat → Nat} {sb L : Nat} {xs : Nat → Int32} {E : va_W} {a : Nat → Nat} {T : MainS} {ls : Array Slot} {R : Room} (C0 : lwC p l s m #[.ref sb] c cL_law 21 A g ad av [] sb L xs) (hR : 64 ≤ R.frames ∧ 6000 ≤ R.locals) (hL : L < 2 ^ 31) {t : Tr} {a9 : Nat → Int32} (hd : DR T.1 a9 t) {rt tn mh : Int32} (hrt : rt = if 0 < t.size then nI (kN T.1.1 t t.rt0) else -30000) (hm : isMax t.dep (fun j => j < t.size) mh) (M0 : lwM g a T E A s H locs) (hf : cells0 + 600 ≤ R.cells ∧ slots0 + 400000 ≤ R.slots) (hl : lv_has ls 21 [(8, .int (nI t.size)), (7, .int rt), (6, .int (nI (sumR t.dep 0 t.size))), (5, .int (nI (sumR (fun i => if t.sz i = 1 then 1 else 0) 0 t.size))), (4, .int mh), (3, .int (nI t.size)), (2, .int tn), (1, .ref (a 0)), (0, .ref sb)]) (kk : ∀ (O : OutS) (X : List Nat) (E1 : va_W) (ls : Array Slot) (H : Heap) (locs : List Loc) (cells slots : Nat), OT O X → lwM g a (mo T O) E1 A s H locs → cells ≤ cells0 + 600 → slots ≤ slots0 + 400000 → lv_has ls 21 [(3, .int (nI t.size)), (2, .int tn), (1, .ref (a 0)), (0, .ref sb)] → W p l e R s m #[.ref sb] below meth c H locs cells slots Q (F0 m 748 ls [])) : W p l e R s m #[.ref sb] below meth c H locs cells0 slots0 Q (F0 m 640 ls []) := by
  obtain ⟨hx, hb, hml, hown, hts⟩ := id C0.1
  have hw : WF T.1.1 t := hd.1
  have h24 := hw.le
  have hA := C0.2.2.1
  obtain ⟨m9, hh, hm9⟩ := a_height hw
  obtain rfl : m9 = mh := isMax_uniq (fun s hs => by have := (depthIn_ok hw.1 hs).2; omega) hm9 hm
  obtain ⟨O, hO, oT⟩ := a_writeTree hw
  obtain ⟨X, eX⟩ : ∃ X, X = trX T.1.1 t := ⟨_, rfl⟩
  rw [← eX] at hO oT
  have hX : X.length ≤ 168 := oT.2.1
  have J700 : ∀ (H : Heap) (locs : List Loc) (cells slots : Nat), lwM g a T E A s H locs → cells ≤ cells0 + 3 → slots ≤ slots0 + 18 → W p l e R s m #[.ref sb] below meth c H locs cells slots Q (F0 m 700 ls []) := by
    intro H locs cells slots M0 hc9 hs9
    refine lv_aload_n hx hb dL_law_700 rfl (lv_at hl 7 rfl) ?_
    refine mR C0 M0 (c_X6_isConsistent l g a T  (1) (a_isConsistent hd)) vv_L_227 (rest := []) rfl rfl hl.1 (Nat.le_of_ble_eq_true rfl) dL_law_701 ⟨by omega, by omega⟩ ⟨by omega, by omega⟩ ?_
    refine lv_if_eq (tgt := 746) hx hb dL_law_704 (by decide) (fun h9 => absurd h9 (by decide)) (fun _ => ?_)
    refine lv_aload_n hx hb dL_law_707 rfl (lv_at hl 7 rfl) ?_
    refine lv_iload_n hx hb dL_law_708 rfl (lv_at hl 5 rfl) ?_
    refine mH C0 M0 (c_L_keyAt l g a T (nI t.size) C0.2.2.2.2 (-30000) T (hh_keyAt_no hw)) vh_L_231 (rest := []) rfl rfl hl.1 (Nat.le_of_ble_eq_true rfl) dL_law_709 ⟨by omega, by omega⟩ ⟨by omega, by omega⟩ (fun H locs M0 => ?_)
    refine lv_sipush (v := (-30000)) hx hb dL_law_712 (by decide) ?_
    refine lv_icmp_ne (tgt := 746) hx hb dL_law_715 (by decide) (fun h9 => absurd rfl h9) (fun _ => ?_)
    refine lv_aload_n hx hb dL_law_718 rfl (lv_at hl 7 rfl) ?_
    refine lv_iload_n hx hb dL_law_719 rfl (lv_at hl 5 rfl) ?_
    refine mH C0 M0 (c_L_keyByPriority l g a T (nI t.size) C0.2.2.2.2 (-30000) T (hh_kbp_no hw)) vh_L_233 (rest := []) rfl rfl hl.1 (Nat.le_of_ble_eq_true rfl) dL_law_720 ⟨by omega, by omega⟩ ⟨by omega, by omega⟩ (fun H locs M0 => ?_)
    refine lv_sipush (v := (-30000)) hx hb dL_law_723 (by decide) ?_
    refine lv_icmp_ne (tgt := 746) hx hb dL_law_726 (by decide) (fun h9 => absurd rfl h9) (fun _ => ?_)
    refine lv_aload_n hx hb dL_law_729 rfl (lv_at hl 7 rfl) ?_
    refine lv_aload_n hx hb dL_law_730 rfl (lv_at hl 7 rfl) ?_
    refine mMi C0 M0 (c_X6_writeTree l g a T (nI X.length) (mo T O) hO) vv_L_235 (As := []) (rest := [.ref (a 0)]) rfl rfl hl.1 (Nat.le_of_ble_eq_true rfl) dL_law_731 ⟨by omega, by omega⟩ ⟨by omega, by omega⟩ (fun H locs M0 => ?_)
    have hw2 : WF (mo T O).1.1 t := hw
    have hW : lM l yL_written cL_written 2 (some (.object "java/lang/String")) (24 + 10) (16 * t.size) (16100 * t.size) g ad av [] sb L xs (mainW g a (mo T O)) [.ref (a 0), .int rt] (lw_wp g ad a (mo T O) X) := by
      rw [eX, hrt]
      unfold trX
      by_cases e : 0 < t.size
      · have := c_L_written l g ad av sb L xs a (mo T O) C0.2.2.2.2 hw2 24 t.rt0 (root_pl e).1 (by rw [sz_root e]; omega)
        rw [sz_root e] at this
        rw [if_pos e, if_pos e]
        exact this
      · have e2 : t.size = 0 := by omega
        rw [if_neg e, if_neg e, e2]
        exact c_L_written0 l g ad av sb L xs a (mo T O) 24
    refine lv_aload_n hx hb dL_law_734 rfl (lv_at hl 7 rfl) ?_
    refine lv_iload hx hb dL_law_735 (lv_at hl 1 rfl) ?_
    refine mS C0 M0 hW mS_no vs_L_151 (As := [.ref (a 0), .int rt]) (rest := [.int (nI X.length), .ref (a 0)]) rfl rfl hl.1 (Nat.le_of_ble_eq_true rfl) dL_law_737 ⟨by omega, by omega⟩ ⟨by omega, by omega⟩ (fun v H1 locs1 hv hz1 hF hS1 => ?_)
    obtain ⟨b, E1, rfl, hs1, hP1, hD1, hn1⟩ := hv
    replace M0 := lw_wM0 M0 hA hF hP1 hD1 hn1 hS1
    clear hF hP1 hD1 hn1 hS1 hz1
    show W _ _ _ _ _ _ _ _ _ _ _ _ _ _ _ (F0 _ _ _ [.ref b, .int (nI X.length), .ref (a 0)])
    obtain ⟨v, hT2⟩ := lw_strT C0 M0.2.2 hs1 (pq_P2 (pq_P2 M0.1)) (pq_Afree (pq_D1 M0.2.1) M0.2.2 hA) (lw_nB (pq_P2 (pq_P2 M0.1)) (fun p hp q hq e => pq_ap2 (pq_Dx M0.2.1) q hq p hp e.symm)) (by omega)
    refine mS C0 M0 (c_L_isLine l g ad av sb L xs a (mo T O) X b v C0.2.2.2.2 (by omega) (fun c hc => by have := oT.2.2.2 c hc; omega) (fun j hj => a_outputAt oT hj T)) (fun U hU hW q hq => by rw [List.mem_singleton.mp hq]; exact hT2 U hU hW) vs_L_238 (As := [.ref (a 0), .int (nI X.length), .ref b]) (rest := []) rfl rfl hl.1 (Nat.le_of_ble_eq_true rfl) dL_law_740 ⟨by omega, by omega⟩ ⟨by omega, by omega⟩ (fun r H1 locs1 hv hz1 hF hS1 => ?_)
    obtain ⟨rfl, hP1⟩ := hv
    show W _ _ _ _ _ _ _ _ _ _ _ _ _ _ _ (F0 _ _ _ [.int 1])
    refine lv_if_ne (tgt := 748) hx hb dL_law_743 (by decide) (fun _ => ?_) (fun h9 => absurd h9 (by decide))
    exact kk O X _ ls _ _ _ _ oT ⟨va_P.app hP1 hF, M0.2.1, hS1⟩ (by omega) (by omega) (lv_sub hl [5, 6, 7, 8] rfl)
  refine lv_aload_n hx hb dL_law_640 rfl (lv_at hl 7 rfl) ?_
  refine mR C0 M0 (c_X6_height l g a T  (m9) hh) vv_L_213 (rest := []) rfl rfl hl.1 (Nat.le_of_ble_eq_true rfl) dL_law_641 ⟨by omega, by omega⟩ ⟨by omega, by omega⟩ ?_
  refine lv_iload hx hb dL_law_644 (lv_at hl 4 rfl) ?_
  refine lv_icmp_ne (tgt := 746) hx hb dL_law_646 (by decide) (fun h9 => absurd rfl h9) (fun _ => ?_)
  refine lv_aload_n hx hb dL_law_649 rfl (lv_at hl 7 rfl) ?_
  refine mR C0 M0 (c_X6_leafCount l g a T  (nI (sumR (fun i => if t.sz i = 1 then 1 else 0) 0 t.size)) (a_leafCount hw)) vv_L_216 (rest := []) rfl rfl hl.1 (Nat.le_of_ble_eq_true rfl) dL_law_650 ⟨by omega, by omega⟩ ⟨by omega, by omega⟩ ?_
  refine lv_iload hx hb dL_law_653 (lv_at hl 3 rfl) ?_
  refine lv_icmp_ne (tgt := 746) hx hb dL_law_655 (by decide) (fun h9 => absurd rfl h9) (fun _ => ?_)
  refine lv_iload_n hx hb dL_law_658 rfl (lv_at hl 5 rfl) ?_
  by_cases h0 : 0 < t.size
  · refine lv_if_le (tgt := 700) hx hb dL_law_659 (by decide) (fun h9 => absurd h9 (nI_nle h0 (by omega))) (fun _ => ?_)
    have er : rt = nI (kN T.1.1 t t.rt0) := by rw [hrt, if_pos h0]
    have hn := nI_ne0 (n := t.size) (by omega) (by omega)
    refine lv_aload_n hx hb dL_law_662 rfl (lv_at hl 7 rfl) ?_
    refine lv_iload hx hb dL_law_663 (lv_at hl 1 rfl) ?_
    rw [show (rt : Int32) = (nI (kN T.1.1 t t.rt0)) from er]
    refine mX C0 M0 (c_X6_subtreeSize l g a T (nI (kN T.1.1 t t.rt0)) C0.2.2.2.2 (.inr (nI t.size)) T (by rw [a_subtreeSize hw (root_pl h0).1, sz_root h0])) vv_L_181 (rest := []) rfl rfl hl.1 (Nat.le_of_ble_eq_true rfl) dL_law_665 ⟨by omega, by omega⟩ ⟨by omega, by omega⟩ (fun H locs M0 => ?_)
    refine lv_iload_n hx hb dL_law_668 rfl (lv_at hl 5 rfl) ?_
    refine lv_icmp_ne (tgt := 746) hx hb dL_law_669 (by decide) (fun h9 => absurd rfl h9) (fun _ => ?_)
    refine lv_aload_n hx hb dL_law_672 rfl (lv_at hl 7 rfl) ?_
    refine mXv C0 M0 (c_X6_meanDepth l g a T C0.2.2.2.2 (.inr (FP.ddiv (FP.i2d (nI (sumR t.dep 0 t.size))) (FP.i2d (nI t.size)))) T (a_meanDepth hw h0)) vv_L_219 (r := .double (FP.ddiv (FP.i2d (nI (sumR t.dep 0 t.size))) (FP.i2d (nI t.size)))) (As := []) (rest := []) rfl rfl hl.1 (Nat.le_of_ble_eq_true rfl) dL_law_673 ⟨by omega, by omega⟩ ⟨by omega, by omega⟩ (fun H locs M0 => ?_)
    refine lv_iload hx hb dL_law_676 (lv_at hl 2 rfl) ?_
    refine lv_i2d hx hb dL_law_678 ?_
    refine lv_iload_n hx hb dL_law_679 rfl (lv_at hl 5 rfl) ?_
    refine lv_i2d hx hb dL_law_680 ?_
    refine lv_ddiv hx hb dL_law_681 (ddiv_num _ hn) ?_
    refine lv_dcmp hx hb dL_law_682 ?_
    have e9 : Op.cmpValue (FP.dcmp (FP.ddiv (FP.i2d (nI (sumR t.dep 0 t.size))) (FP.i2d (nI t.size))) (FP.ddiv (FP.i2d (nI (sumR t.dep 0 t.size))) (FP.i2d (nI t.size)))) .l = 0 := dcmp_num (ddiv_nn _ hn)
    rw [e9]
    refine lv_if_ne (tgt := 746) hx hb dL_law_683 (by decide) (fun h9 => absurd rfl h9) (fun _ => ?_)
    refine lv_aload_n hx hb dL_law_686 rfl (lv_at hl 7 rfl) ?_
    refine mXv C0 M0 (c_X6_leafShare l g a T C0.2.2.2.2 (.inr (FP.fdiv (FP.i2f (nI (sumR (fun i => if t.sz i = 1 then 1 else 0) 0 t.size))) (FP.i2f (nI t.size)))) T (a_leafShare hw h0)) vv_L_223 (r := .float (FP.fdiv (FP.i2f (nI (sumR (fun i => if t.sz i = 1 then 1 else 0) 0 t.size))) (FP.i2f (nI t.size)))) (As := []) (rest := []) rfl rfl hl.1 (Nat.le_of_ble_eq_true rfl) dL_law_687 ⟨by omega, by omega⟩ ⟨by omega, by omega⟩ (fun H locs M0 => ?_)
    refine lv_iload hx hb dL_law_690 (lv_at hl 3 rfl) ?_
    refine lv_i2f hx hb dL_law_692 ?_
    refine lv_iload_n hx hb dL_law_693 rfl (lv_at hl 5 rfl) ?_
    refine lv_i2f hx hb dL_law_694 ?_
    refine lv_fdiv hx hb dL_law_695 (fdiv_num _ hn) ?_
    refine lv_fcmp hx hb dL_law_696 ?_
    have e8 : Op.cmpValue (FP.fcmp (FP.fdiv (FP.i2f (nI (sumR (fun i => if t.sz i = 1 then 1 else 0) 0 t.size))) (FP.i2f (nI t.size))) (FP.fdiv (FP.i2f (nI (sumR (fun i => if t.sz i = 1 then 1 else 0) 0 t.size))) (FP.i2f (nI t.size)))) .l = 0 := fcmp_num (fdiv_nn _ hn)
    rw [e8]
    refine lv_if_ne (tgt := 746) hx hb dL_law_697 (by decide) (fun h9 => absurd rfl h9) (fun _ => ?_)
    exact J700 _ _ _ _ M0 (by omega) (by omega)
  · refine lv_if_le (tgt := 700) hx hb dL_law_659 (by decide) (fun _ => ?_) (fun h9 => absurd (by rw [show t.size = 0 by omega]; decide) h9)
    exact J700 _ _ _ _ M0 (by omega) (by omega)
