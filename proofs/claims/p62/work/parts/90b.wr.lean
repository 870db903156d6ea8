/-! ===== the law's 'written' ===== -/
/-- what a helper answers, of the law: NO where the class throws -/
def keyL (T : TreeS) (t : Tr) (i : Nat) : Int32 := if t.fi i < i then nI (kN T t (t.lp i)) else -30000
def keyR (T : TreeS) (t : Tr) (i : Nat) : Int32 := if i < t.la i then nI (kN T t (t.rp i)) else -30000
theorem hh_leftOf {T : MainS} {t : Tr} (h : WF T.1.1 t) {i : Nat} (hi : i < t.size) : h_leftOf T (nI (kN T.1.1 t i)) = some (keyL T.1.1 t i, T) := by
  unfold h_leftOf keyL
  rw [a_leftOf h hi]
  by_cases e : t.fi i < i
  · rw [if_pos e, if_pos e]; rfl
  · rw [if_neg e, if_neg e]; rfl
theorem hh_rightOf {T : MainS} {t : Tr} (h : WF T.1.1 t) {i : Nat} (hi : i < t.size) : h_rightOf T (nI (kN T.1.1 t i)) = some (keyR T.1.1 t i, T) := by
  unfold h_rightOf keyR
  rw [a_rightOf h hi]
  by_cases e : i < t.la i
  · rw [if_pos e, if_pos e]; rfl
  · rw [if_neg e, if_neg e]; rfl
/-- what 'written' leaves -/
def lw_wp (g : pq_g) (ad : Nat → Nat) (a : Nat → Nat) (T : MainS) (x : List Nat) (r : Option Value) (sz : Nat) (H : Heap) : Prop := ∃ (b : Nat) (E : va_W), r = some (.ref b) ∧ lw_str g ad x b E ∧ va_P g.1 pq_cl (mainW g a T ++ E) H ∧ va_D (fun _ => True) E ∧ ∀ q ∈ E, sz ≤ q.1
theorem lw_wM {g : pq_g} {a : Nat → Nat} {T : MainS} {F Y E1 : va_W} {A : Nat → Prop} {s : State} {H H1 : Heap} {locs locs1 : List Loc} (M0 : lwM g a T (F ++ Y) A s H locs) (hA : ∀ q : Nat, s.heap.size ≤ q → A q) (hF : va_P g.1 pq_cl (F ++ Y) H1) (hP1 : va_P g.1 pq_cl (mainW g a T ++ E1) H1) (hD1 : va_D (fun _ => True) E1) (hz : ∀ q ∈ E1, H.size ≤ q.1) (hS1 : va_S A s.heap H1 locs1) : lwM g a T ((F ++ E1) ++ Y) A s H1 locs1 := by
  obtain ⟨hP, hD, hS⟩ := M0
  have hE : va_D A E1 := ⟨hD1.1, fun k q hk => hA _ (Nat.le_trans hS.1 (hz q (List.mem_of_getElem? hk)))⟩
  have old : ∀ {Z : va_W}, va_P g.1 pq_cl Z H → pq_ap Z E1 := fun {Z} hZ p hp q hq e => by
    obtain ⟨i, hi⟩ := List.getElem?_of_mem hp
    have h1 : p.1 < H.size := (hZ i p hi).lt
    have h2 := hz q hq
    omega
  have aM := old (pq_P1 hP)
  have aF := old (pq_P1 (pq_P2 hP))
  have aY := old (pq_P2 (pq_P2 hP))
  refine ⟨va_P.app (pq_P1 hP1) (va_P.app (va_P.app (pq_P1 hF) (pq_P2 hP1)) (pq_P2 hF)), pq_Da (pq_D1 hD) (pq_Da (pq_Da (pq_D1 (pq_D2 hD)) hE aF) (pq_D2 (pq_D2 hD)) (fun p hp q hq e => ?_)) (fun p hp q hq e => ?_), hS1⟩
  · rcases List.mem_append.mp hp with h | h
    · exact pq_Dx (pq_D2 hD) p h q hq e
    · exact aY q hq p h e.symm
  · rcases List.mem_append.mp hq with h | h
    · rcases List.mem_append.mp h with h | h
      · exact pq_ap1 (pq_Dx hD) p hp q h e
      · exact aM p hp q h e
    · exact pq_ap2 (pq_Dx hD) p hp q h e
set_option maxHeartbeats 4000000 in
set_option maxRecDepth 100000 in
theorem c_L_written0 (l : Launch) (g : pq_g) (ad av : Nat → Nat) (sb L : Nat) (xs : Nat → Int32) (a : Nat → Nat) (T : MainS) (n : Nat) : lM l yL_written cL_written 2 (some (.object "java/lang/String")) (n + 10) 0 0 g ad av [] sb L xs (mainW g a T) [.ref (a 0), .int (-30000)] (lw_wp g ad a T []) := by
  refine lM.of (own := RL) (by decide) rfl (Nat.le_of_ble_eq_true rfl) rfl ?_
  intro p e s m below meth c ls Q A S hin hP hK hD hS hA hAw hI hl hend
  obtain ⟨hx, hb, hml, hown, hts⟩ := id S
  refine lv_iload_n hx hb dL_written_0 rfl (lv_at hl 1 rfl) ?_
  refine lv_sipush (v := (-30000)) hx hb dL_written_1 (by decide) ?_
  refine lv_icmp_ne (tgt := 12) hx hb dL_written_4 (by decide) (fun h9 => absurd rfl h9) (fun _ => ?_)
  refine va_ldcS hx hb hown (hI.2.1.1.2.1 0 (by decide)) dL_written_7 ?_
  refine lv_goto (tgt := 73) hx hb dL_written_9 (by decide) ?_
  exact hend _ _ _ _ _ _ _ _ (sRet.o dL_written_73) ⟨ad 0, [], rfl, Or.inl ⟨rfl, rfl, rfl⟩, va_P.app hP pq_P0, pq_D0, fun q hq => absurd hq List.not_mem_nil⟩ hS (Nat.le_refl _) (Nat.le_refl _)
set_option maxHeartbeats 4000000 in
set_option maxRecDepth 100000 in
theorem c_L_written (l : Launch) (g : pq_g) (ad av : Nat → Nat) (sb L : Nat) (xs : Nat → Int32) (a : Nat → Nat) (T : MainS) {t : Tr} (hst : l.stackTraces = false) (hw : WF T.1.1 t) : ∀ (n i : Nat), i < t.size → t.sz i ≤ n → lM l yL_written cL_written 2 (some (.object "java/lang/String")) (n + 10) (16 * t.sz i) (16100 * t.sz i) g ad av [] sb L xs (mainW g a T) [.ref (a 0), .int (nI (kN T.1.1 t i))] (lw_wp g ad a T (txP T.1.1 t n i))
  | 0, i, hi, hs => by have := sz_lr hi; omega
  | n + 1, i, hi, hs => by
    have h24 := hw.le
    have hz := sz_lr hi
    have hsz : t.sz i ≤ t.size := by
      have h1 := la_ge (t := t) i hi
      unfold Tr.sz
      omega
    have k1 := (kN_ok hw hi).2
    have q1 := (qN_ok hw hi).2
    have d1 := decL_len (kN T.1.1 t i)
    have d2 := decL_len (qN T.1.1 t i)
    obtain ⟨XL, eXL⟩ : ∃ X, X = (if t.fi i < i then txP T.1.1 t n (t.lp i) else []) := ⟨_, rfl⟩
    obtain ⟨XR, eXR⟩ : ∃ X, X = (if i < t.la i then txP T.1.1 t n (t.rp i) else []) := ⟨_, rfl⟩
    have hL : lM l yL_written cL_written 2 (some (.object "java/lang/String")) (n + 10) (16 * t.zl i) (16100 * t.zl i) g ad av [] sb L xs (mainW g a T) [.ref (a 0), .int (keyL T.1.1 t i)] (lw_wp g ad a T XL) ∧ XL.length ≤ 7 * t.zl i ∧ ∀ c ∈ XL, c ≤ 126 := by
      by_cases e : t.fi i < i
      · have hlp : t.lp i < t.size := by have := lp_lt hi e; omega
        have e9 := sz_l hi e
        have := c_L_written l g ad av sb L xs a T hst hw n (t.lp i) hlp (by omega)
        have h2 := txP_ok hw n (t.lp i) hlp (by omega)
        rw [e9] at this h2
        rw [eXL, keyL, if_pos e, if_pos e]
        exact ⟨this, h2⟩
      · have e9 : t.zl i = 0 := by
          have h1 := fi_le (t := t) i hi
          unfold Tr.zl
          omega
        rw [eXL, keyL, if_neg e, if_neg e, e9]
        exact ⟨c_L_written0 l g ad av sb L xs a T n, Nat.le_refl _, fun c hc => absurd hc List.not_mem_nil⟩
    have hR : lM l yL_written cL_written 2 (some (.object "java/lang/String")) (n + 10) (16 * t.zr i) (16100 * t.zr i) g ad av [] sb L xs (mainW g a T) [.ref (a 0), .int (keyR T.1.1 t i)] (lw_wp g ad a T XR) ∧ XR.length ≤ 7 * t.zr i ∧ ∀ c ∈ XR, c ≤ 126 := by
      by_cases e : i < t.la i
      · have hrp := (rp_lt hi e).1
        have e9 := sz_r hi e
        have := c_L_written l g ad av sb L xs a T hst hw n (t.rp i) hrp (by omega)
        have h2 := txP_ok hw n (t.rp i) hrp (by omega)
        rw [e9] at this h2
        rw [eXR, keyR, if_pos e, if_pos e]
        exact ⟨this, h2⟩
      · have e9 : t.zr i = 0 := by
          have h1 := la_ge (t := t) i hi
          unfold Tr.zr
          omega
        rw [eXR, keyR, if_neg e, if_neg e, e9]
        exact ⟨c_L_written0 l g ad av sb L xs a T n, Nat.le_refl _, fun c hc => absurd hc List.not_mem_nil⟩
    obtain ⟨hL, hL2, hL3⟩ := hL
    obtain ⟨hR, hR2, hR3⟩ := hR
    have ex : (((((([] ++ [40]) ++ XL) ++ decL (kN T.1.1 t i)) ++ [58]) ++ decL (qN T.1.1 t i)) ++ XR) ++ [41] = txP T.1.1 t (n + 1) i := by
      rw [txP, ← eXL, ← eXR]; rfl
    rw [← ex]
    clear ex
    refine lM.of (own := RL) (by decide) rfl (Nat.le_of_ble_eq_true rfl) rfl ?_
    intro p e s m below meth c ls Q A S hin hP hK hD hS hA hAw hI hl hend
    obtain ⟨hx, hb, hml, hown, hts⟩ := id S
    have C0 : lwC p l s m _ c cL_written 2 A g ad av [] sb L xs := ⟨S, hK, hA, hI, hst⟩
    have M0 : lwM g a T [] A s s.heap [] := ⟨va_P.app hP pq_P0, pq_Da hD pq_D0 (fun _ _ q hq => absurd hq List.not_mem_nil), hS⟩
    have r8 : 8 ≤ (pq_rm (n + 1 + 10) (16 * t.sz i) (16100 * t.sz i)).frames ∧ 600 ≤ (pq_rm (n + 1 + 10) (16 * t.sz i) (16100 * t.sz i)).locals := ⟨by show 8 ≤ n + 1 + 10; omega, by show 600 ≤ 64 * (n + 1 + 10); omega⟩
    have r9 : 8 + 1 ≤ (pq_rm (n + 1 + 10) (16 * t.sz i) (16100 * t.sz i)).frames ∧ 8 + (3 + 11) + 64 * 8 ≤ (pq_rm (n + 1 + 10) (16 * t.sz i) (16100 * t.sz i)).locals := ⟨by show 8 + 1 ≤ n + 1 + 10; omega, by show _ ≤ 64 * (n + 1 + 10); omega⟩
    have r7 : 7 + 1 ≤ (pq_rm (n + 1 + 10) (16 * t.sz i) (16100 * t.sz i)).frames ∧ 8 + (2 + 11) + 64 * 7 ≤ (pq_rm (n + 1 + 10) (16 * t.sz i) (16100 * t.sz i)).locals := ⟨by show 7 + 1 ≤ n + 1 + 10; omega, by show _ ≤ 64 * (n + 1 + 10); omega⟩
    have rn : n + 10 + 1 ≤ (pq_rm (n + 1 + 10) (16 * t.sz i) (16100 * t.sz i)).frames ∧ 8 + (2 + 11) + 64 * (n + 10) ≤ (pq_rm (n + 1 + 10) (16 * t.sz i) (16100 * t.sz i)).locals := ⟨by show n + 10 + 1 ≤ n + 1 + 10; omega, by show _ ≤ 64 * (n + 1 + 10); omega⟩
    refine lv_iload_n hx hb dL_written_0 rfl (lv_at hl 1 rfl) ?_
    refine lv_sipush (v := (-30000)) hx hb dL_written_1 (by decide) ?_
    refine lv_icmp_ne (tgt := 12) hx hb dL_written_4 (by decide) (fun _ => ?_) (fun h9 => absurd h9 (fun h8 => nI_pos (n := kN T.1.1 t i) (by omega) (by rw [h8]; decide)))
    refine mSBn C0 M0 hl.1 (Nat.le_of_ble_eq_true rfl) dL_written_12 dL_written_15 dL_written_16 r8 ⟨by show _ ≤ 16 * t.sz i; omega, by show _ ≤ 16100 * t.sz i; omega⟩ (fun b w f H locs M0 hx0 => ?_)
    refine mldc C0 1 (by decide) dL_written_19 ?_
    refine mSBs C0 M0 hx0 (by simp only [List.length_append, List.length_nil]; decide) (t := [40]) (by decide) (lw_cst C0 M0.2.2 1 (by decide) (pq_Afree (pq_D2 (pq_D2 M0.2.1)) M0.2.2 hA)) hl.1 (Nat.le_of_ble_eq_true rfl) dL_written_21 r8 ⟨by show _ ≤ 16 * t.sz i; omega, by show _ ≤ 16100 * t.sz i; omega⟩ (fun w mm f H locs M0 hx0 => ?_)
    refine lv_aload_n hx hb dL_written_24 rfl (lv_at hl 0 rfl) ?_
    refine lv_aload_n hx hb dL_written_25 rfl (lv_at hl 0 rfl) ?_
    refine lv_iload_n hx hb dL_written_26 rfl (lv_at hl 1 rfl) ?_
    refine mH C0 M0 (c_L_leftOf l g a T (nI (kN T.1.1 t i)) hst (keyL T.1.1 t i) T (hh_leftOf hw hi)) vh_L_149 (rest := [.ref (a 0), .ref b]) rfl rfl hl.1 (Nat.le_of_ble_eq_true rfl) dL_written_27 r9 ⟨by show _ ≤ 16 * t.sz i; omega, by show _ ≤ 16100 * t.sz i; omega⟩ (fun H locs M0 => ?_)
    refine mS C0 M0 hL mS_no vs_L_151 (rest := [.ref b]) rfl rfl hl.1 (Nat.le_of_ble_eq_true rfl) dL_written_30 rn ⟨by show _ ≤ 16 * t.sz i; omega, by show _ ≤ 16100 * t.sz i; omega⟩ (fun v H1 locs1 hv hz1 hF hS1 => ?_)
    obtain ⟨b2, E1, rfl, hs1, hP1, hD1, hn1⟩ := hv
    replace M0 := lw_wM M0 hA hF hP1 hD1 hn1 hS1
    clear hF hP1 hD1 hn1 hS1 hz1
    show W _ _ _ _ _ _ _ _ _ _ _ _ _ _ _ (F0 _ _ _ [.ref b2, .ref b])
    obtain ⟨v2, hT2⟩ := lw_strT C0 M0.2.2 hs1 (pq_P2 (pq_P1 (pq_P2 M0.1))) (pq_Afree (pq_D2 (pq_D2 M0.2.1)) M0.2.2 hA) (lw_nB (pq_P2 (pq_P1 (pq_P2 M0.1))) (fun p hp q hq => pq_Dx (pq_D2 M0.2.1) p (List.mem_append_right _ hp) q hq)) (by omega)
    refine mSBs C0 M0 hx0 (by simp only [List.length_append, List.length_nil, List.length_singleton]; omega) (fun c hc => by have := hL3 c hc; omega) hT2 hl.1 (Nat.le_of_ble_eq_true rfl) dL_written_33 r8 ⟨by show _ ≤ 16 * t.sz i; omega, by show _ ≤ 16100 * t.sz i; omega⟩ (fun w mm f H locs M0 hx0 => ?_)
    refine lv_iload_n hx hb dL_written_36 rfl (lv_at hl 1 rfl) ?_
    refine mSBi C0 M0 hx0 (by simp only [List.length_append, List.length_nil, List.length_singleton]; omega) (by omega) hl.1 (Nat.le_of_ble_eq_true rfl) dL_written_37 r8 ⟨by show _ ≤ 16 * t.sz i; omega, by show _ ≤ 16100 * t.sz i; omega⟩ (fun w mm f H locs M0 hx0 => ?_)
    refine mldc C0 2 (by decide) dL_written_40 ?_
    refine mSBs C0 M0 hx0 (by simp only [List.length_append, List.length_nil, List.length_singleton]; omega) (t := [58]) (by decide) (lw_cst C0 M0.2.2 2 (by decide) (pq_Afree (pq_D2 (pq_D2 M0.2.1)) M0.2.2 hA)) hl.1 (Nat.le_of_ble_eq_true rfl) dL_written_42 r8 ⟨by show _ ≤ 16 * t.sz i; omega, by show _ ≤ 16100 * t.sz i; omega⟩ (fun w mm f H locs M0 hx0 => ?_)
    refine lv_aload_n hx hb dL_written_45 rfl (lv_at hl 0 rfl) ?_
    refine lv_iload_n hx hb dL_written_46 rfl (lv_at hl 1 rfl) ?_
    refine mX C0 M0 (c_X6_priorityOf l g a T (nI (kN T.1.1 t i)) hst (.inr (nI (qN T.1.1 t i))) T (a_priorityOf hw hi)) vv_L_123 (rest := [.ref b]) rfl rfl hl.1 (Nat.le_of_ble_eq_true rfl) dL_written_47 r7 ⟨by show _ ≤ 16 * t.sz i; omega, by show _ ≤ 16100 * t.sz i; omega⟩ (fun H locs M0 => ?_)
    refine mSBi C0 M0 hx0 (by simp only [List.length_append, List.length_nil, List.length_singleton]; omega) (by omega) hl.1 (Nat.le_of_ble_eq_true rfl) dL_written_50 r8 ⟨by show _ ≤ 16 * t.sz i; omega, by show _ ≤ 16100 * t.sz i; omega⟩ (fun w mm f H locs M0 hx0 => ?_)
    refine lv_aload_n hx hb dL_written_53 rfl (lv_at hl 0 rfl) ?_
    refine lv_aload_n hx hb dL_written_54 rfl (lv_at hl 0 rfl) ?_
    refine lv_iload_n hx hb dL_written_55 rfl (lv_at hl 1 rfl) ?_
    refine mH C0 M0 (c_L_rightOf l g a T (nI (kN T.1.1 t i)) hst (keyR T.1.1 t i) T (hh_rightOf hw hi)) vh_L_160 (rest := [.ref (a 0), .ref b]) rfl rfl hl.1 (Nat.le_of_ble_eq_true rfl) dL_written_56 r9 ⟨by show _ ≤ 16 * t.sz i; omega, by show _ ≤ 16100 * t.sz i; omega⟩ (fun H locs M0 => ?_)
    refine mS C0 M0 hR mS_no vs_L_151 (rest := [.ref b]) rfl rfl hl.1 (Nat.le_of_ble_eq_true rfl) dL_written_59 rn ⟨by show _ ≤ 16 * t.sz i; omega, by show _ ≤ 16100 * t.sz i; omega⟩ (fun v H1 locs1 hv hz1 hF hS1 => ?_)
    obtain ⟨b3, E2, rfl, hs2, hP1, hD1, hn1⟩ := hv
    replace M0 := lw_wM M0 hA hF hP1 hD1 hn1 hS1
    clear hF hP1 hD1 hn1 hS1 hz1
    show W _ _ _ _ _ _ _ _ _ _ _ _ _ _ _ (F0 _ _ _ [.ref b3, .ref b])
    obtain ⟨v3, hT3⟩ := lw_strT C0 M0.2.2 hs2 (pq_P2 (pq_P1 (pq_P2 M0.1))) (pq_Afree (pq_D2 (pq_D2 M0.2.1)) M0.2.2 hA) (lw_nB (pq_P2 (pq_P1 (pq_P2 M0.1))) (fun p hp q hq => pq_Dx (pq_D2 M0.2.1) p (List.mem_append_right _ hp) q hq)) (by omega)
    refine mSBs C0 M0 hx0 (by simp only [List.length_append, List.length_nil, List.length_singleton]; omega) (fun c hc => by have := hR3 c hc; omega) hT3 hl.1 (Nat.le_of_ble_eq_true rfl) dL_written_62 r8 ⟨by show _ ≤ 16 * t.sz i; omega, by show _ ≤ 16100 * t.sz i; omega⟩ (fun w mm f H locs M0 hx0 => ?_)
    refine mldc C0 3 (by decide) dL_written_65 ?_
    refine mSBs C0 M0 hx0 (by simp only [List.length_append, List.length_nil, List.length_singleton]; omega) (t := [41]) (by decide) (lw_cst C0 M0.2.2 3 (by decide) (pq_Afree (pq_D2 (pq_D2 M0.2.1)) M0.2.2 hA)) hl.1 (Nat.le_of_ble_eq_true rfl) dL_written_67 r8 ⟨by show _ ≤ 16 * t.sz i; omega, by show _ ≤ 16100 * t.sz i; omega⟩ (fun w mm f H locs M0 hx0 => ?_)
    refine mSBt C0 M0 hx0 hl.1 (Nat.le_of_ble_eq_true rfl) dL_written_70 r8 ⟨by show _ ≤ 16 * t.sz i; omega, by show _ ≤ 16100 * t.sz i; omega⟩ (fun b4 v4 f4 H1 locs1 M1 hf4 hz4 => ?_)
    have hsz0 := M0.2.2.1
    have M2 := M1.snd
    refine hend _ _ _ _ _ _ _ _ (sRet.o dL_written_73) ⟨b4, _, rfl, Or.inr ⟨v4, f4, rfl, hf4⟩, M2.1, lw_D2 hz4.2.2 trivial trivial, fun q hq => ?_⟩ M2.2.2 (by omega) (by omega)
    rcases List.mem_append.mp hq with h | h
    · rw [List.mem_singleton] at h; rw [h]; exact Nat.le_trans hsz0 hz4.1
    · rw [List.mem_singleton] at h; rw [h]; exact Nat.le_trans hsz0 hz4.2.1
