def f_X6_execute_c133 (T : MainS) : Option ((String ⊕ Int32) × MainS) :=
    (f_X2_push T.2.2.2.2.1 T.1).bind fun q2 =>
    (f_X1_copyFrom T.1 T.2.1).bind fun q4 =>
    some (.inr T.2.2.2.2.2.1.2.2.2.2.2, (q4, T.2.1, T.2.2.1, T.2.2.2.1, q2, T.2.2.2.2.2.1, T.2.2.2.2.2.2.1, T.2.2.2.2.2.2.2.1, T.2.2.2.2.2.2.2.2.1, T.2.2.2.2.2.2.2.2.2.1, T.2.2.2.2.2.2.2.2.2.2))
def f_X6_execute_c54 : Nat → MainS → Int32 → Option ((String ⊕ Int32) × MainS)
  | 0, _, _ => none
  | n + 1, T, v2 =>
    if T.2.2.2.2.2.1.2.2.2.2.2 ≤ v2 then
      f_X6_execute_c133 T
    else
      if 20 ≤ v2 then
        f_X6_execute_c133 T
      else
        (f_X6_isFaulty T v2).bind fun q8 =>
        if q8 = 0 then
          (f_X6_reasonAgainstCommand T v2).bind fun q11 =>
          if q11 = 0 then
            (f_X6_carryOut T v2).bind fun q14 =>
            f_X6_execute_c54 n q14 (v2 + 1)
          else
            (f_X6_reject T 4 v2).bind fun q16 =>
            some (.inl "java/lang/UnsupportedOperationException", (q16.1, q16.2.1, q16.2.2.1, q16.2.2.2.1, q16.2.2.2.2.1, q16.2.2.2.2.2.1, q16.2.2.2.2.2.2.1, q16.2.2.2.2.2.2.2.1, q16.2.2.2.2.2.2.2.2.1, q16.2.2.2.2.2.2.2.2.2.1, q11))
        else
          some (.inl "java/lang/IllegalStateException", T)
def f_X6_execute (T : MainS) : Option ((String ⊕ Int32) × MainS) :=
    (f_X0_parse T.2.2.2.2.2.1).bind fun q18 =>
    (f_X0_clearInput q18.2).bind fun q20 =>
    if q18.1 = 0 then
      some (.inl "java/lang/IllegalArgumentException", (T.1, T.2.1, T.2.2.1, T.2.2.2.1, T.2.2.2.2.1, q20, T.2.2.2.2.2.2.1, q20.2.2.1, T.2.2.2.2.2.2.2.2.1, T.2.2.2.2.2.2.2.2.2.1, T.2.2.2.2.2.2.2.2.2.2))
    else
      (f_X1_copyFrom T.2.1 T.1).bind fun q23 =>
      f_X6_execute_c54 200 (T.1, q23, T.2.2.1, T.2.2.2.1, T.2.2.2.2.1, q20, T.2.2.2.2.2.2.1, T.2.2.2.2.2.2.2.1, T.2.2.2.2.2.2.2.2.1, T.2.2.2.2.2.2.2.2.2.1, T.2.2.2.2.2.2.2.2.2.2) 0
set_option maxHeartbeats 4000000 in
set_option maxRecDepth 100000 in
theorem c_X6_execute (l : Launch) (g : pq_g) (a : Nat → Nat) (T : MainS) (hst : l.stackTraces = false) (o : String ⊕ Int32) (T1 : MainS) (hf : f_X6_execute T = some (o, T1)) : pq_X l yX6_execute cX6_execute 4 (some .int) 8 3 g (mainW g a T) [.ref (a 0)] (pq_oi o) (mainW g a T1) := by
  rw [f_X6_execute] at hf
  refine pq_X.of hst (by decide) rfl (Nat.le_of_ble_eq_true rfl) rfl ?_
  intro p e s m below meth c ls Q A S hP hK hD hS hA hT hl hend hout hthr
  obtain ⟨hx, hb, hml, hown, hts⟩ := id S
  obtain ⟨ad, av, hE⟩ := hT.2.2.2.2
  have B133 : ∀ (T : MainS) (ls : Array Slot) (H : Heap) (locs : List Loc), va_P g.1 pq_cl (mainW g a T) H → va_D A (mainW g a T) → va_S A s.heap H locs → lv_has ls 4 [(0, .ref (a 0))] → f_X6_execute_c133 T = some (o, T1) → W p l e (pq_rm 8 3 (6 * 3)) s m ([.ref (a 0)] : List Value).toArray below meth c H locs 0 (6 * 0) Q (F0 m 133 ls []) := by
    intro T ls H locs hP hD hS hl hf
    rw [f_X6_execute_c133] at hf
    refine lv_aload_n hx hb dX6_execute_133 rfl (lv_at hl 0 rfl) ?_
    refine pq_get S hK hP inX6 0 rfl rfl 4 (by decide) fl_X6_25 rfl (v := .ref (a 40)) rfl dX6_execute_134 ?_
    refine lv_aload_n hx hb dX6_execute_137 rfl (lv_at hl 0 rfl) ?_
    refine pq_get S hK hP inX6 0 rfl rfl 0 (by decide) fl_X6_12 rfl (v := .ref (a 1)) rfl dX6_execute_138 ?_
    obtain ⟨q2, e1, hf⟩ := pq_bind hf
    refine pq_cVv S (c_X2_push l g (pq_sh a 40) (pq_sh a 1) T.2.2.2.2.1 T.1 q2 e1) vv_X6_76 hK (va_P.app (pq_P1 (pq_P2 (pq_P2 (pq_P2 (pq_P2 hP))))) (pq_P1 (pq_P2 hP))) (pq_Da (pq_D1 (pq_D2 (pq_D2 (pq_D2 (pq_D2 hD))))) (pq_D1 (pq_D2 hD)) (pq_aps (pq_ap1 (pq_ap2 (pq_ap2 (pq_Dx (pq_D2 hD))))))) hS hA rfl rfl rfl rfl rfl hl.1 (Nat.le_of_ble_eq_true rfl) dX6_execute_141 (by decide) (by decide) ⟨by decide, by decide⟩ (fun H9 locs hk hP1 hS => ?_)
    replace hP := (va_P.app (pq_kp (pq_P1 hP) (pq_apA (pq_ap1 (pq_ap2 (pq_ap2 (pq_ap2 (pq_Dx hD))))) (pq_ap1 (pq_Dx hD))) hk) (va_P.app (pq_P2 hP1) (va_P.app (pq_kp (pq_P1 (pq_P2 (pq_P2 hP))) (pq_apA (pq_ap1 (pq_ap2 (pq_Dx (pq_D2 (pq_D2 hD))))) (pq_aps (pq_ap1 (pq_Dx (pq_D2 hD))))) hk) (va_P.app (pq_kp (pq_P1 (pq_P2 (pq_P2 (pq_P2 hP)))) (pq_apA (pq_ap1 (pq_Dx (pq_D2 (pq_D2 (pq_D2 hD))))) (pq_aps (pq_ap1 (pq_ap2 (pq_Dx (pq_D2 hD)))))) hk) (va_P.app (pq_P1 hP1) (pq_kp (pq_P2 (pq_P2 (pq_P2 (pq_P2 (pq_P2 hP))))) (pq_apA (pq_aps (pq_Dx (pq_D2 (pq_D2 (pq_D2 (pq_D2 hD)))))) (pq_aps (pq_ap2 (pq_ap2 (pq_ap2 (pq_Dx (pq_D2 hD))))))) hk))))))
    replace hP : va_P g.1 pq_cl (mainW g a (T.1, T.2.1, T.2.2.1, T.2.2.2.1, q2, T.2.2.2.2.2.1, T.2.2.2.2.2.2.1, T.2.2.2.2.2.2.2.1, T.2.2.2.2.2.2.2.2.1, T.2.2.2.2.2.2.2.2.2.1, T.2.2.2.2.2.2.2.2.2.2)) H9 := hP
    replace hD : va_D A (mainW g a (T.1, T.2.1, T.2.2.1, T.2.2.2.1, q2, T.2.2.2.2.2.1, T.2.2.2.2.2.2.1, T.2.2.2.2.2.2.2.1, T.2.2.2.2.2.2.2.2.1, T.2.2.2.2.2.2.2.2.2.1, T.2.2.2.2.2.2.2.2.2.2)) := pq_adr hD (ad_X6 _ _)
    clear hk
    generalize H9 = H at hP hS ⊢
    refine lv_aload_n hx hb dX6_execute_144 rfl (lv_at hl 0 rfl) ?_
    refine pq_get S hK hP inX6 0 rfl rfl 0 (by decide) fl_X6_12 rfl (v := .ref (a 1)) rfl dX6_execute_145 ?_
    refine lv_aload_n hx hb dX6_execute_148 rfl (lv_at hl 0 rfl) ?_
    refine pq_get S hK hP inX6 0 rfl rfl 1 (by decide) fl_X6_16 rfl (v := .ref (a 14)) rfl dX6_execute_149 ?_
    obtain ⟨q4, e3, hf⟩ := pq_bind hf
    refine pq_cVv S (c_X1_copyFrom l g (pq_sh a 1) (pq_sh a 14) T.1 T.2.1 q4 e3) vv_X6_316 hK (va_P.app (pq_P1 (pq_P2 hP)) (pq_P1 (pq_P2 (pq_P2 hP)))) (pq_Da (pq_D1 (pq_D2 hD)) (pq_D1 (pq_D2 (pq_D2 hD))) (pq_ap1 (pq_Dx (pq_D2 hD)))) hS hA rfl rfl rfl rfl rfl hl.1 (Nat.le_of_ble_eq_true rfl) dX6_execute_152 (by decide) (by decide) ⟨by decide, by decide⟩ (fun H9 locs hk hP1 hS => ?_)
    replace hP := (va_P.app (pq_kp (pq_P1 hP) (pq_apA (pq_ap1 (pq_Dx hD)) (pq_ap1 (pq_ap2 (pq_Dx hD)))) hk) (va_P.app (pq_P1 hP1) (va_P.app (pq_P2 hP1) (pq_kp (pq_P2 (pq_P2 (pq_P2 hP))) (pq_apA (pq_aps (pq_ap2 (pq_Dx (pq_D2 hD)))) (pq_aps (pq_Dx (pq_D2 (pq_D2 hD))))) hk))))
    replace hP : va_P g.1 pq_cl (mainW g a (q4, T.2.1, T.2.2.1, T.2.2.2.1, q2, T.2.2.2.2.2.1, T.2.2.2.2.2.2.1, T.2.2.2.2.2.2.2.1, T.2.2.2.2.2.2.2.2.1, T.2.2.2.2.2.2.2.2.2.1, T.2.2.2.2.2.2.2.2.2.2)) H9 := hP
    replace hD : va_D A (mainW g a (q4, T.2.1, T.2.2.1, T.2.2.2.1, q2, T.2.2.2.2.2.1, T.2.2.2.2.2.2.1, T.2.2.2.2.2.2.2.1, T.2.2.2.2.2.2.2.2.1, T.2.2.2.2.2.2.2.2.2.1, T.2.2.2.2.2.2.2.2.2.2)) := pq_adr hD (ad_X6 _ _)
    clear hk
    generalize H9 = H at hP hS ⊢
    refine lv_aload_n hx hb dX6_execute_155 rfl (lv_at hl 0 rfl) ?_
    refine pq_get S hK hP inX6 0 rfl rfl 5 (by decide) fl_X6_32 rfl (v := .ref (a 146)) rfl dX6_execute_156 ?_
    refine pq_getN S hK (pq_P1 (pq_P2 (pq_P2 (pq_P2 (pq_P2 (pq_P2 hP)))))) inX0 0 rfl rfl 5 (by decide) (List.mem_of_getElem? (i := 8) rfl) rfl (v := .int T.2.2.2.2.2.1.2.2.2.2.2) rfl dX6_execute_159 ?_
    obtain ⟨h8, h9⟩ := pq_pair hf
    exact hend 162 ls _ _ _ _ _ _ (Or.inl ⟨_, .int, rfl, rfl, dX6_execute_162, rfl, rfl⟩) (by subst h8; rfl) (by subst h9; exact hP) hS (by decide) (by decide)
  have B54 : ∀ (n54 : Nat) (T : MainS) (v2 : Int32) (ls : Array Slot) (H : Heap) (locs : List Loc), va_P g.1 pq_cl (mainW g a T) H → va_D A (mainW g a T) → va_S A s.heap H locs → lv_has ls 4 [(0, .ref (a 0)), (2, .int v2)] → f_X6_execute_c54 n54 T v2 = some (o, T1) → W p l e (pq_rm 8 3 (6 * 3)) s m ([.ref (a 0)] : List Value).toArray below meth c H locs 0 (6 * 0) Q (F0 m 54 ls []) := by
    intro n54
    induction n54 with
    | zero =>
      intro T v2 ls H locs hP hD hS hl hf
      exact absurd hf (by simp [f_X6_execute_c54])
    | succ n54 ih54 =>
      intro T v2 ls H locs hP hD hS hl hf
      rw [f_X6_execute_c54] at hf
      refine lv_iload_n hx hb dX6_execute_54 rfl (lv_at hl 1 rfl) ?_
      refine lv_aload_n hx hb dX6_execute_55 rfl (lv_at hl 0 rfl) ?_
      refine pq_get S hK hP inX6 0 rfl rfl 5 (by decide) fl_X6_32 rfl (v := .ref (a 146)) rfl dX6_execute_56 ?_
      refine pq_getN S hK (pq_P1 (pq_P2 (pq_P2 (pq_P2 (pq_P2 (pq_P2 hP)))))) inX0 0 rfl rfl 5 (by decide) (List.mem_of_getElem? (i := 8) rfl) rfl (v := .int T.2.2.2.2.2.1.2.2.2.2.2) rfl dX6_execute_59 ?_
      refine lv_icmp_ge (tgt := 133) hx hb dX6_execute_62 (by decide) (fun h5 => ?_) (fun h5 => ?_)
      · replace hf := pq_ifp h5 hf
        exact W.widen (by decide) (by decide) (B133 T ls _ _ hP hD hS (lv_sub hl [0] rfl) hf)
      · replace hf := pq_ifn h5 hf
        refine lv_iload_n hx hb dX6_execute_65 rfl (lv_at hl 1 rfl) ?_
        refine lv_bipush (v := 20) hx hb dX6_execute_66 (by decide) ?_
        refine lv_icmp_ge (tgt := 133) hx hb dX6_execute_68 (by decide) (fun h6 => ?_) (fun h6 => ?_)
        · replace hf := pq_ifp h6 hf
          exact W.widen (by decide) (by decide) (B133 T ls _ _ hP hD hS (lv_sub hl [0] rfl) hf)
        · replace hf := pq_ifn h6 hf
          refine lv_aload_n hx hb dX6_execute_71 rfl (lv_at hl 0 rfl) ?_
          refine lv_iload_n hx hb dX6_execute_72 rfl (lv_at hl 1 rfl) ?_
          obtain ⟨q8, e7, hf⟩ := pq_bind hf
          refine pq_cV S (c_X6_isFaulty l g a T v2 q8 e7) vv_X6_322 hK hP rfl rfl rfl rfl rfl hl.1 (Nat.le_of_ble_eq_true rfl) dX6_execute_73 (by decide) (by decide) ⟨by decide, by decide⟩ ?_
          refine lv_if_eq (tgt := 90) hx hb dX6_execute_76 (by decide) (fun h9 => ?_) (fun h9 => ?_)
          · replace hf := pq_ifp h9 hf
            refine lv_aload_n hx hb dX6_execute_90 rfl (lv_at hl 0 rfl) ?_
            refine lv_iload_n hx hb dX6_execute_91 rfl (lv_at hl 1 rfl) ?_
            obtain ⟨q11, e10, hf⟩ := pq_bind hf
            refine pq_cV S (c_X6_reasonAgainstCommand l g a T v2 q11 e10) vv_X6_327 hK hP rfl rfl rfl rfl rfl hl.1 (Nat.le_of_ble_eq_true rfl) dX6_execute_92 (by decide) (by decide) ⟨by decide, by decide⟩ ?_
            refine lv_istore_n (lv' := [(3, .int q11), (0, .ref (a 0)), (2, .int v2)]) hx hb dX6_execute_95 rfl hl (by decide) rfl (fun ls hl => ?_)
            refine lv_iload_n hx hb dX6_execute_96 rfl (lv_at hl 0 rfl) ?_
            refine lv_if_eq (tgt := 122) hx hb dX6_execute_97 (by decide) (fun h12 => ?_) (fun h12 => ?_)
            · replace hf := pq_ifp h12 hf
              refine lv_aload_n hx hb dX6_execute_122 rfl (lv_at hl 1 rfl) ?_
              refine lv_iload_n hx hb dX6_execute_123 rfl (lv_at hl 2 rfl) ?_
              obtain ⟨q14, e13, hf⟩ := pq_bind hf
              refine pq_cVv S (c_X6_carryOut l g a T v2 q14 e13) vv_X6_332 hK hP hD hS hA rfl rfl rfl rfl rfl hl.1 (Nat.le_of_ble_eq_true rfl) dX6_execute_124 (by decide) (by decide) ⟨by decide, by decide⟩ (fun H9 locs hk hP1 hS => ?_)
              replace hP := hP1
              replace hP : va_P g.1 pq_cl (mainW g a q14) H9 := hP
              replace hD : va_D A (mainW g a q14) := pq_adr hD (ad_X6 _ _)
              clear hk
              generalize H9 = H at hP hS ⊢
              refine lv_iinc (v := (v2 + 1)) (lv' := [(2, .int (v2 + 1)), (3, .int q11), (0, .ref (a 0))]) hx hb dX6_execute_127 hl (k := 2) rfl rfl (by decide) rfl (fun ls hl => ?_)
              refine lv_goto (tgt := 54) hx hb dX6_execute_130 (by decide) ?_
              exact W.widen (by decide) (by decide) (ih54 q14 (v2 + 1) ls _ _ hP hD hS (lv_sub hl [2, 0] rfl) hf)
            · replace hf := pq_ifn h12 hf
              refine lv_aload_n hx hb dX6_execute_100 rfl (lv_at hl 1 rfl) ?_
              refine lv_iconst (v := 4) hx hb dX6_execute_101 (by decide) ?_
              refine lv_iload_n hx hb dX6_execute_102 rfl (lv_at hl 2 rfl) ?_
              obtain ⟨q16, e15, hf⟩ := pq_bind hf
              refine pq_cVv S (c_X6_reject l g a T 4 v2 q16 e15) vv_X6_65 hK hP hD hS hA rfl rfl rfl rfl rfl hl.1 (Nat.le_of_ble_eq_true rfl) dX6_execute_103 (by decide) (by decide) ⟨by decide, by decide⟩ (fun H9 locs hk hP1 hS => ?_)
              replace hP := hP1
              replace hP : va_P g.1 pq_cl (mainW g a q16) H9 := hP
              replace hD : va_D A (mainW g a q16) := pq_adr hD (ad_X6 _ _)
              clear hk
              generalize H9 = H at hP hS ⊢
              refine lv_aload_n hx hb dX6_execute_106 rfl (lv_at hl 1 rfl) ?_
              refine lv_iload_n hx hb dX6_execute_107 rfl (lv_at hl 0 rfl) ?_
              refine pq_putf S hK hP hD hS inX6 tyX6_ok nmX6 0 rfl rfl 10 (by decide) fl_X6_50 rfl rfl (ty := .int) rfl rfl rfl (Nat.le_of_ble_eq_true rfl) dX6_execute_108 (fun H locs hP hS => ?_)
              replace hP : va_P g.1 pq_cl (mainW g a (q16.1, q16.2.1, q16.2.2.1, q16.2.2.2.1, q16.2.2.2.2.1, q16.2.2.2.2.2.1, q16.2.2.2.2.2.2.1, q16.2.2.2.2.2.2.2.1, q16.2.2.2.2.2.2.2.2.1, q16.2.2.2.2.2.2.2.2.2.1, q11)) H := hP
              replace hD : va_D A (mainW g a (q16.1, q16.2.1, q16.2.2.1, q16.2.2.2.1, q16.2.2.2.2.1, q16.2.2.2.2.2.1, q16.2.2.2.2.2.2.1, q16.2.2.2.2.2.2.2.1, q16.2.2.2.2.2.2.2.2.1, q16.2.2.2.2.2.2.2.2.2.1, q11)) := pq_adr hD (ad_X6 _ _)
              obtain ⟨h8, h9⟩ := pq_pair hf
              exact hthr 111 ls _ _ _ _ "java/lang/UnsupportedOperationException" _ 69 330 73 vt_69_73 (List.mem_of_getElem? (i := 17) rfl) dX6_execute_111 dX6_execute_114 (Or.inr ⟨dX6_execute_115, dX6_execute_118, dX6_execute_121⟩) (by subst h8; rfl) (by subst h9; exact hP) hS hl.1 (by decide) (by decide) (by decide)
          · replace hf := pq_ifn h9 hf
            obtain ⟨h8, h9⟩ := pq_pair hf
            exact hthr 79 ls _ _ _ _ "java/lang/IllegalStateException" _ 296 325 300 vt_296_300 (List.mem_of_getElem? (i := 16) rfl) dX6_execute_79 dX6_execute_82 (Or.inr ⟨dX6_execute_83, dX6_execute_86, dX6_execute_89⟩) (by subst h8; rfl) (by subst h9; exact hP) hS hl.1 (by decide) (by decide) (by decide)
  refine lv_aload_n hx hb dX6_execute_0 rfl (lv_at hl 0 rfl) ?_
  refine pq_get S hK hP inX6 0 rfl rfl 5 (by decide) fl_X6_32 rfl (v := .ref (a 146)) rfl dX6_execute_1 ?_
  obtain ⟨q18, e17, hf⟩ := pq_bind hf
  refine pq_cViS S (c_X0_parse l g (pq_sh a 146) ad av T.2.2.2.2.2.1 q18.1 q18.2 e17) vv_X6_305 hK hE (pq_P1 (pq_P2 (pq_P2 (pq_P2 (pq_P2 (pq_P2 hP)))))) (pq_D1 (pq_D2 (pq_D2 (pq_D2 (pq_D2 (pq_D2 hD)))))) hS hA rfl rfl rfl rfl rfl hl.1 (Nat.le_of_ble_eq_true rfl) dX6_execute_4 (by decide) (by decide) ⟨by decide, by decide⟩ (fun H9 locs hk hP1 hS => ?_)
  replace hP := (va_P.app (pq_kp (pq_P1 hP) (pq_ap1 (pq_ap2 (pq_ap2 (pq_ap2 (pq_ap2 (pq_Dx hD)))))) hk) (va_P.app (pq_kp (pq_P1 (pq_P2 hP)) (pq_ap1 (pq_ap2 (pq_ap2 (pq_ap2 (pq_Dx (pq_D2 hD)))))) hk) (va_P.app (pq_kp (pq_P1 (pq_P2 (pq_P2 hP))) (pq_ap1 (pq_ap2 (pq_ap2 (pq_Dx (pq_D2 (pq_D2 hD)))))) hk) (va_P.app (pq_kp (pq_P1 (pq_P2 (pq_P2 (pq_P2 hP)))) (pq_ap1 (pq_ap2 (pq_Dx (pq_D2 (pq_D2 (pq_D2 hD)))))) hk) (va_P.app (pq_kp (pq_P1 (pq_P2 (pq_P2 (pq_P2 (pq_P2 hP))))) (pq_ap1 (pq_Dx (pq_D2 (pq_D2 (pq_D2 (pq_D2 hD)))))) hk) (va_P.app hP1 (pq_kp (pq_P2 (pq_P2 (pq_P2 (pq_P2 (pq_P2 (pq_P2 hP)))))) (pq_aps (pq_Dx (pq_D2 (pq_D2 (pq_D2 (pq_D2 (pq_D2 hD))))))) hk)))))))
  replace hP : va_P g.1 pq_cl (mainW g a (T.1, T.2.1, T.2.2.1, T.2.2.2.1, T.2.2.2.2.1, q18.2, T.2.2.2.2.2.2.1, T.2.2.2.2.2.2.2.1, T.2.2.2.2.2.2.2.2.1, T.2.2.2.2.2.2.2.2.2.1, T.2.2.2.2.2.2.2.2.2.2)) H9 := hP
  replace hD : va_D A (mainW g a (T.1, T.2.1, T.2.2.1, T.2.2.2.1, T.2.2.2.2.1, q18.2, T.2.2.2.2.2.2.1, T.2.2.2.2.2.2.2.1, T.2.2.2.2.2.2.2.2.1, T.2.2.2.2.2.2.2.2.2.1, T.2.2.2.2.2.2.2.2.2.2)) := pq_adr hD (ad_X6 _ _)
  clear hk
  generalize H9 = H at hP hS ⊢
  refine lv_istore_n (lv' := [(1, .int q18.1), (0, .ref (a 0))]) hx hb dX6_execute_7 rfl hl (by decide) rfl (fun ls hl => ?_)
  refine lv_aload_n hx hb dX6_execute_8 rfl (lv_at hl 1 rfl) ?_
  refine pq_get S hK hP inX6 0 rfl rfl 5 (by decide) fl_X6_32 rfl (v := .ref (a 146)) rfl dX6_execute_9 ?_
  obtain ⟨q20, e19, hf⟩ := pq_bind hf
  refine pq_cVv S (c_X0_clearInput l g (pq_sh a 146) q18.2 q20 e19) vv_X6_308 hK (pq_P1 (pq_P2 (pq_P2 (pq_P2 (pq_P2 (pq_P2 hP)))))) (pq_D1 (pq_D2 (pq_D2 (pq_D2 (pq_D2 (pq_D2 hD)))))) hS hA rfl rfl rfl rfl rfl hl.1 (Nat.le_of_ble_eq_true rfl) dX6_execute_12 (by decide) (by decide) ⟨by decide, by decide⟩ (fun H9 locs hk hP1 hS => ?_)
  replace hP := (va_P.app (pq_kp (pq_P1 hP) (pq_ap1 (pq_ap2 (pq_ap2 (pq_ap2 (pq_ap2 (pq_Dx hD)))))) hk) (va_P.app (pq_kp (pq_P1 (pq_P2 hP)) (pq_ap1 (pq_ap2 (pq_ap2 (pq_ap2 (pq_Dx (pq_D2 hD)))))) hk) (va_P.app (pq_kp (pq_P1 (pq_P2 (pq_P2 hP))) (pq_ap1 (pq_ap2 (pq_ap2 (pq_Dx (pq_D2 (pq_D2 hD)))))) hk) (va_P.app (pq_kp (pq_P1 (pq_P2 (pq_P2 (pq_P2 hP)))) (pq_ap1 (pq_ap2 (pq_Dx (pq_D2 (pq_D2 (pq_D2 hD)))))) hk) (va_P.app (pq_kp (pq_P1 (pq_P2 (pq_P2 (pq_P2 (pq_P2 hP))))) (pq_ap1 (pq_Dx (pq_D2 (pq_D2 (pq_D2 (pq_D2 hD)))))) hk) (va_P.app hP1 (pq_kp (pq_P2 (pq_P2 (pq_P2 (pq_P2 (pq_P2 (pq_P2 hP)))))) (pq_aps (pq_Dx (pq_D2 (pq_D2 (pq_D2 (pq_D2 (pq_D2 hD))))))) hk)))))))
  replace hP : va_P g.1 pq_cl (mainW g a (T.1, T.2.1, T.2.2.1, T.2.2.2.1, T.2.2.2.2.1, q20, T.2.2.2.2.2.2.1, T.2.2.2.2.2.2.2.1, T.2.2.2.2.2.2.2.2.1, T.2.2.2.2.2.2.2.2.2.1, T.2.2.2.2.2.2.2.2.2.2)) H9 := hP
  replace hD : va_D A (mainW g a (T.1, T.2.1, T.2.2.1, T.2.2.2.1, T.2.2.2.2.1, q20, T.2.2.2.2.2.2.1, T.2.2.2.2.2.2.2.1, T.2.2.2.2.2.2.2.2.1, T.2.2.2.2.2.2.2.2.2.1, T.2.2.2.2.2.2.2.2.2.2)) := pq_adr hD (ad_X6 _ _)
  clear hk
  generalize H9 = H at hP hS ⊢
  refine lv_iload_n hx hb dX6_execute_15 rfl (lv_at hl 0 rfl) ?_
  refine lv_if_ne (tgt := 41) hx hb dX6_execute_16 (by decide) (fun h21 => ?_) (fun h21 => ?_)
  · replace hf := pq_ifn h21 hf
    refine lv_aload_n hx hb dX6_execute_41 rfl (lv_at hl 1 rfl) ?_
    refine pq_get S hK hP inX6 0 rfl rfl 1 (by decide) fl_X6_16 rfl (v := .ref (a 14)) rfl dX6_execute_42 ?_
    refine lv_aload_n hx hb dX6_execute_45 rfl (lv_at hl 1 rfl) ?_
    refine pq_get S hK hP inX6 0 rfl rfl 0 (by decide) fl_X6_12 rfl (v := .ref (a 1)) rfl dX6_execute_46 ?_
    obtain ⟨q23, e22, hf⟩ := pq_bind hf
    refine pq_cVv S (c_X1_copyFrom l g (pq_sh a 14) (pq_sh a 1) T.2.1 T.1 q23 e22) vv_X6_316 hK (va_P.app (pq_P1 (pq_P2 (pq_P2 hP))) (pq_P1 (pq_P2 hP))) (pq_Da (pq_D1 (pq_D2 (pq_D2 hD))) (pq_D1 (pq_D2 hD)) (pq_aps (pq_ap1 (pq_Dx (pq_D2 hD))))) hS hA rfl rfl rfl rfl rfl hl.1 (Nat.le_of_ble_eq_true rfl) dX6_execute_49 (by decide) (by decide) ⟨by decide, by decide⟩ (fun H9 locs hk hP1 hS => ?_)
    replace hP := (va_P.app (pq_kp (pq_P1 hP) (pq_apA (pq_ap1 (pq_ap2 (pq_Dx hD))) (pq_ap1 (pq_Dx hD))) hk) (va_P.app (pq_P2 hP1) (va_P.app (pq_P1 hP1) (pq_kp (pq_P2 (pq_P2 (pq_P2 hP))) (pq_apA (pq_aps (pq_Dx (pq_D2 (pq_D2 hD)))) (pq_aps (pq_ap2 (pq_Dx (pq_D2 hD))))) hk))))
    replace hP : va_P g.1 pq_cl (mainW g a (T.1, q23, T.2.2.1, T.2.2.2.1, T.2.2.2.2.1, q20, T.2.2.2.2.2.2.1, T.2.2.2.2.2.2.2.1, T.2.2.2.2.2.2.2.2.1, T.2.2.2.2.2.2.2.2.2.1, T.2.2.2.2.2.2.2.2.2.2)) H9 := hP
    replace hD : va_D A (mainW g a (T.1, q23, T.2.2.1, T.2.2.2.1, T.2.2.2.2.1, q20, T.2.2.2.2.2.2.1, T.2.2.2.2.2.2.2.1, T.2.2.2.2.2.2.2.2.1, T.2.2.2.2.2.2.2.2.2.1, T.2.2.2.2.2.2.2.2.2.2)) := pq_adr hD (ad_X6 _ _)
    clear hk
    generalize H9 = H at hP hS ⊢
    refine lv_iconst (v := 0) hx hb dX6_execute_52 (by decide) ?_
    refine lv_istore_n (lv' := [(2, .int 0), (1, .int q18.1), (0, .ref (a 0))]) hx hb dX6_execute_53 rfl hl (by decide) rfl (fun ls hl => ?_)
    exact W.widen (by decide) (by decide) (B54 200 (T.1, q23, T.2.2.1, T.2.2.2.1, T.2.2.2.2.1, q20, T.2.2.2.2.2.2.1, T.2.2.2.2.2.2.2.1, T.2.2.2.2.2.2.2.2.1, T.2.2.2.2.2.2.2.2.2.1, T.2.2.2.2.2.2.2.2.2.2) 0 ls _ _ hP hD hS (lv_sub hl [2, 0] rfl) hf)
  · replace hf := pq_ifp h21 hf
    refine lv_aload_n hx hb dX6_execute_19 rfl (lv_at hl 1 rfl) ?_
    refine lv_aload_n hx hb dX6_execute_20 rfl (lv_at hl 1 rfl) ?_
    refine pq_get S hK hP inX6 0 rfl rfl 5 (by decide) fl_X6_32 rfl (v := .ref (a 146)) rfl dX6_execute_21 ?_
    refine pq_getN S hK (pq_P1 (pq_P2 (pq_P2 (pq_P2 (pq_P2 (pq_P2 hP)))))) inX0 0 rfl rfl 2 (by decide) (List.mem_of_getElem? (i := 7) rfl) rfl (v := .int q20.2.2.1) rfl dX6_execute_24 ?_
    refine pq_putf S hK hP hD hS inX6 tyX6_ok nmX6 0 rfl rfl 7 (by decide) fl_X6_43 rfl rfl (ty := .int) rfl rfl rfl (Nat.le_of_ble_eq_true rfl) dX6_execute_27 (fun H locs hP hS => ?_)
    replace hP : va_P g.1 pq_cl (mainW g a (T.1, T.2.1, T.2.2.1, T.2.2.2.1, T.2.2.2.2.1, q20, T.2.2.2.2.2.2.1, q20.2.2.1, T.2.2.2.2.2.2.2.2.1, T.2.2.2.2.2.2.2.2.2.1, T.2.2.2.2.2.2.2.2.2.2)) H := hP
    replace hD : va_D A (mainW g a (T.1, T.2.1, T.2.2.1, T.2.2.2.1, T.2.2.2.2.1, q20, T.2.2.2.2.2.2.1, q20.2.2.1, T.2.2.2.2.2.2.2.2.1, T.2.2.2.2.2.2.2.2.2.1, T.2.2.2.2.2.2.2.2.2.2)) := pq_adr hD (ad_X6 _ _)
    obtain ⟨h8, h9⟩ := pq_pair hf
    exact hthr 30 ls _ _ _ _ "java/lang/IllegalArgumentException" _ 208 314 212 vt_208_212 (List.mem_of_getElem? (i := 15) rfl) dX6_execute_30 dX6_execute_33 (Or.inr ⟨dX6_execute_34, dX6_execute_37, dX6_execute_40⟩) (by subst h8; rfl) (by subst h9; exact hP) hS hl.1 (by decide) (by decide) (by decide)
