theorem nI_gt6 (L i : Nat) (hL : L ≤ 3072) (hi : i ≤ 3078) : (nI L - 6 < nI i) ↔ L < i + 6 := by
  rw [Int32.lt_iff_toInt_lt, Int32.toInt_sub]
  have h1 : (nI L).toInt = L := Int32.toInt_ofNat_of_lt (by omega)
  have h2 : (nI i).toInt = i := Int32.toInt_ofNat_of_lt (by omega)
  rw [h1, h2]
  rw [show (6 : Int32).toInt = 6 from rfl]
  rw [Int.bmod_eq_of_le (by omega) (by omega)]
  omega
set_option maxHeartbeats 4000000 in
set_option maxRecDepth 100000 in
/-- the law's loop -/
theorem lw_loop {PR : MainS → ModS → Prop} (hM : pq_Ma PR) {p : Program} {l : Launch} {e : Env} {s : State} {m : MethodId} {below : List Frame} {meth : Method} {c : Code} {Q : State → Prop} {A : Nat → Prop} {b L : Nat} {xs : Nat → Int32} {g : pq_g} {a am : Nat → Nat} {b1 b2 : Nat} (hst : l.stackTraces = false) (S : CallFix p m c cL_law 9 s #[.ref b] pq_G RL) (hK : pq_K g s) (hT : pq_T A s s.heap) (hL9 : pq_L s) (hA : ∀ q : Nat, s.heap.size ≤ q → A q) (hX : va_X b L xs s s.heap) (hbl : b < s.heap.size) (hbA : ¬ A b) (hL : L ≤ 3072)
    (kend : ∀ (H : Heap) (locs : List Loc) (cells slots : Nat) (ls : Array Slot), va_S A s.heap H locs → cells ≤ 10000 → slots ≤ 100000 → W p l e room_1 s m #[.ref b] below meth c H locs cells slots Q (F0 m 3423 ls [])) :
    ∀ (n i : Nat) (f : Nat → Int64) (fd : Nat → UInt64) (T : MainS) (M : ModS) (H : Heap) (locs : List Loc) (ls : Array Slot), L ≤ i + 6 * n + 5 → i ≤ L → PR T M → va_P g.1 pq_cl ([(b1, .inl (g.2 3, 1, .inr (.inl (f))))] ++ ([(b2, .inl (g.2 4, 1, .inr (.inr (.inr (.inl (fd))))))] ++ (mainW g a T ++ modW g am M))) H → va_D A ([(b1, .inl (g.2 3, 1, .inr (.inl (f))))] ++ ([(b2, .inl (g.2 4, 1, .inr (.inr (.inr (.inl (fd))))))] ++ (mainW g a T ++ modW g am M))) → va_S A s.heap H locs → lv_has ls 9 [(5, .int (nI i)), (0, .ref b), (1, .ref (a 0)), (2, .ref (am 0)), (3, .ref b1), (4, .ref b2)] → W p l e room_1 s m #[.ref b] below meth c H locs (1000 + i) (10000 + 6 * i) Q (F0 m 28 ls []) := by
  obtain ⟨hx, hb, hml, hown, hts⟩ := id S
  intro n
  induction n with
  | zero =>
    intro i f fd T M H locs ls hn hiL hPR hP hD hS hl
    refine lv_iload hx hb dL_law_28 (lv_at hl 0 rfl) ?_
    refine lv_aload_n hx hb dL_law_30 rfl (lv_at hl 1 rfl) ?_
    refine va_slen hx hb hX hbl hbA hS dL_law_31 ?_
    refine lv_bipush (v := 6) hx hb dL_law_32 (by decide) ?_
    refine lv_isub hx hb dL_law_34 ?_
    refine lv_icmp_gt (tgt := 3423) hx hb dL_law_35 (by decide) (fun _ => ?_) (fun h9 => absurd ((nI_gt6 L i hL (by omega)).mpr (by omega)) h9)
    exact kend H locs _ _ ls hS (by omega) (by omega)
  | succ n ih =>
    intro i f fd T M H locs ls hn hiL hPR hP hD hS hl
    refine lv_iload hx hb dL_law_28 (lv_at hl 0 rfl) ?_
    refine lv_aload_n hx hb dL_law_30 rfl (lv_at hl 1 rfl) ?_
    refine va_slen hx hb hX hbl hbA hS dL_law_31 ?_
    refine lv_bipush (v := 6) hx hb dL_law_32 (by decide) ?_
    refine lv_isub hx hb dL_law_34 ?_
    refine lv_icmp_gt (tgt := 3423) hx hb dL_law_35 (by decide) (fun _ => kend H locs _ _ ls hS (by omega) (by omega)) (fun h9 => ?_)
    have hi6 : i + 6 ≤ L := by
      by_cases h8 : L < i + 6
      · exact absurd ((nI_gt6 L i hL (by omega)).mpr h8) h9
      · omega
    refine lv_aload_n hx hb dL_law_38 rfl (lv_at hl 1 rfl) ?_
    refine lv_iload hx hb dL_law_39 (lv_at hl 0 rfl) ?_
    refine va_sld hx hb hX hbl hbA hS (vp_in_nI (show i < L by omega) (by omega)) dL_law_41 ?_
    rw [nI_clamp (show i < 2 ^ 31 by omega)]
    refine lv_bipush (v := 63) hx hb dL_law_42 (by decide) ?_
    refine lv_iand hx hb dL_law_44 ?_
    have kk : ∀ (f1 : Nat → Int64) (fd1 : Nat → UInt64) (T1 : MainS) (M1 : ModS) (H1 : Heap) (locs1 : List Loc) (ls1 : Array Slot), PR T1 M1 → va_P g.1 pq_cl ([(b1, .inl (g.2 3, 1, .inr (.inl (f1))))] ++ ([(b2, .inl (g.2 4, 1, .inr (.inr (.inr (.inl (fd1))))))] ++ (mainW g a T1 ++ modW g am M1))) H1 → va_D A ([(b1, .inl (g.2 3, 1, .inr (.inl (f1))))] ++ ([(b2, .inl (g.2 4, 1, .inr (.inr (.inr (.inl (fd1))))))] ++ (mainW g a T1 ++ modW g am M1))) → va_S A s.heap H1 locs1 → lv_has ls1 9 [(5, .int (nI i)), (0, .ref b), (1, .ref (a 0)), (2, .ref (am 0)), (3, .ref b1), (4, .ref b2)] → W p l e room_1 s m #[.ref b] below meth c H1 locs1 ((1000 + i) + 6) ((10000 + 6 * i) + 36) Q (F0 m 3417 ls1 []) := by
      intro f1 fd1 T1 M1 H1 locs1 ls1 hPR1 hP1 hD1 hS1 hl1
      refine lv_iinc (v := nI (i + 6)) (lv' := [(5, .int (nI (i + 6))), (0, .ref b), (1, .ref (a 0)), (2, .ref (am 0)), (3, .ref b1), (4, .ref b2)]) hx hb dL_law_3417 hl1 (k := 0) rfl (pq_nIa i 6) (by decide) rfl (fun ls2 hl2 => ?_)
      refine lv_goto (tgt := 28) hx hb dL_law_3420 (by decide) ?_
      exact W.widen (by omega) (by omega) (ih (i + 6) f1 fd1 T1 M1 H1 locs1 ls2 (by omega) hi6 hPR1 hP1 hD1 hS1 hl2)
    obtain ⟨j, hj, ej⟩ := pk_andE (xs i) (m := 63) 6 (by decide)
    rw [ej]
    by_cases h59 : 59 ≤ j
    · refine lv_tableOut (tgt := 3417) hx hb dL_law_45 (Or.inr ?_) (by decide) ?_
      · rw [show (nI j).toInt = j from Int32.toInt_ofNat_of_lt (by omega)]
        omega
      · exact W.widen (by omega) (by omega) (kk f fd T M H locs ls hPR hP hD hS hl)
    rcases (show j = 0 ∨ j = 1 ∨ j = 2 ∨ j = 3 ∨ j = 4 ∨ j = 5 ∨ j = 6 ∨ j = 7 ∨ j = 8 ∨ j = 9 ∨ j = 10 ∨ j = 11 ∨ j = 12 ∨ j = 13 ∨ j = 14 ∨ j = 15 ∨ j = 16 ∨ j = 17 ∨ j = 18 ∨ j = 19 ∨ j = 20 ∨ j = 21 ∨ j = 22 ∨ j = 23 ∨ j = 24 ∨ j = 25 ∨ j = 26 ∨ j = 27 ∨ j = 28 ∨ j = 29 ∨ j = 30 ∨ j = 31 ∨ j = 32 ∨ j = 33 ∨ j = 34 ∨ j = 35 ∨ j = 36 ∨ j = 37 ∨ j = 38 ∨ j = 39 ∨ j = 40 ∨ j = 41 ∨ j = 42 ∨ j = 43 ∨ j = 44 ∨ j = 45 ∨ j = 46 ∨ j = 47 ∨ j = 48 ∨ j = 49 ∨ j = 50 ∨ j = 51 ∨ j = 52 ∨ j = 53 ∨ j = 54 ∨ j = 55 ∨ j = 56 ∨ j = 57 ∨ j = 58 by omega) with rfl | rfl | rfl | rfl | rfl | rfl | rfl | rfl | rfl | rfl | rfl | rfl | rfl | rfl | rfl | rfl | rfl | rfl | rfl | rfl | rfl | rfl | rfl | rfl | rfl | rfl | rfl | rfl | rfl | rfl | rfl | rfl | rfl | rfl | rfl | rfl | rfl | rfl | rfl | rfl | rfl | rfl | rfl | rfl | rfl | rfl | rfl | rfl | rfl | rfl | rfl | rfl | rfl | rfl | rfl | rfl | rfl | rfl | rfl
    · refine lv_tableIn (off := 251) (tgt := 296) hx hb dL_law_45 (by decide) (by decide) (by rfl) (by decide) ?_
      exact lw_case0 hM hst S hK hT hL9 hA hX hbl hbA hL hi6 hPR hP hD hS hl (by omega) (by omega) kk
    · refine lv_tableIn (off := 319) (tgt := 364) hx hb dL_law_45 (by decide) (by decide) (by rfl) (by decide) ?_
      exact lw_case1 hM hst S hK hT hL9 hA hX hbl hbA hL hi6 hPR hP hD hS hl (by omega) (by omega) kk
    · refine lv_tableIn (off := 375) (tgt := 420) hx hb dL_law_45 (by decide) (by decide) (by rfl) (by decide) ?_
      exact lw_case2 hM hst S hK hT hL9 hA hX hbl hbA hL hi6 hPR hP hD hS hl (by omega) (by omega) kk
    · refine lv_tableIn (off := 443) (tgt := 488) hx hb dL_law_45 (by decide) (by decide) (by rfl) (by decide) ?_
      exact lw_case3 hM hst S hK hT hL9 hA hX hbl hbA hL hi6 hPR hP hD hS hl (by omega) (by omega) kk
    · refine lv_tableIn (off := 511) (tgt := 556) hx hb dL_law_45 (by decide) (by decide) (by rfl) (by decide) ?_
      exact lw_case4 hM hst S hK hT hL9 hA hX hbl hbA hL hi6 hPR hP hD hS hl (by omega) (by omega) kk
    · refine lv_tableIn (off := 579) (tgt := 624) hx hb dL_law_45 (by decide) (by decide) (by rfl) (by decide) ?_
      exact lw_case5 hM hst S hK hT hL9 hA hX hbl hbA hL hi6 hPR hP hD hS hl (by omega) (by omega) kk
    · refine lv_tableIn (off := 592) (tgt := 637) hx hb dL_law_45 (by decide) (by decide) (by rfl) (by decide) ?_
      exact lw_case6 hM hst S hK hT hL9 hA hX hbl hbA hL hi6 hPR hP hD hS hl (by omega) (by omega) kk
    · refine lv_tableIn (off := 617) (tgt := 662) hx hb dL_law_45 (by decide) (by decide) (by rfl) (by decide) ?_
      exact lw_case7 hM hst S hK hT hL9 hA hX hbl hbA hL hi6 hPR hP hD hS hl (by omega) (by omega) kk
    · refine lv_tableIn (off := 673) (tgt := 718) hx hb dL_law_45 (by decide) (by decide) (by rfl) (by decide) ?_
      exact lw_case8 hM hst S hK hT hL9 hA hX hbl hbA hL hi6 hPR hP hD hS hl (by omega) (by omega) kk
    · refine lv_tableIn (off := 717) (tgt := 762) hx hb dL_law_45 (by decide) (by decide) (by rfl) (by decide) ?_
      exact lw_case9 hM hst S hK hT hL9 hA hX hbl hbA hL hi6 hPR hP hD hS hl (by omega) (by omega) kk
    · refine lv_tableIn (off := 761) (tgt := 806) hx hb dL_law_45 (by decide) (by decide) (by rfl) (by decide) ?_
      exact lw_case10 hM hst S hK hT hL9 hA hX hbl hbA hL hi6 hPR hP hD hS hl (by omega) (by omega) kk
    · refine lv_tableIn (off := 817) (tgt := 862) hx hb dL_law_45 (by decide) (by decide) (by rfl) (by decide) ?_
      exact lw_case11 hM hst S hK hT hL9 hA hX hbl hbA hL hi6 hPR hP hD hS hl (by omega) (by omega) kk
    · refine lv_tableIn (off := 873) (tgt := 918) hx hb dL_law_45 (by decide) (by decide) (by rfl) (by decide) ?_
      exact lw_case12 hM hst S hK hT hL9 hA hX hbl hbA hL hi6 hPR hP hD hS hl (by omega) (by omega) kk
    · refine lv_tableIn (off := 929) (tgt := 974) hx hb dL_law_45 (by decide) (by decide) (by rfl) (by decide) ?_
      exact lw_case13 hM hst S hK hT hL9 hA hX hbl hbA hL hi6 hPR hP hD hS hl (by omega) (by omega) kk
    · refine lv_tableIn (off := 954) (tgt := 999) hx hb dL_law_45 (by decide) (by decide) (by rfl) (by decide) ?_
      exact lw_case14 hM hst S hK hT hL9 hA hX hbl hbA hL hi6 hPR hP hD hS hl (by omega) (by omega) kk
    · refine lv_tableIn (off := 1010) (tgt := 1055) hx hb dL_law_45 (by decide) (by decide) (by rfl) (by decide) ?_
      exact lw_case15 hM hst S hK hT hL9 hA hX hbl hbA hL hi6 hPR hP hD hS hl (by omega) (by omega) kk
    · refine lv_tableIn (off := 1066) (tgt := 1111) hx hb dL_law_45 (by decide) (by decide) (by rfl) (by decide) ?_
      exact lw_case16 hM hst S hK hT hL9 hA hX hbl hbA hL hi6 hPR hP hD hS hl (by omega) (by omega) kk
    · refine lv_tableIn (off := 1110) (tgt := 1155) hx hb dL_law_45 (by decide) (by decide) (by rfl) (by decide) ?_
      exact lw_case17 hM hst S hK hT hL9 hA hX hbl hbA hL hi6 hPR hP hD hS hl (by omega) (by omega) kk
    · refine lv_tableIn (off := 1173) (tgt := 1218) hx hb dL_law_45 (by decide) (by decide) (by rfl) (by decide) ?_
      exact lw_case18 hM hst S hK hT hL9 hA hX hbl hbA hL hi6 hPR hP hD hS hl (by omega) (by omega) kk
    · refine lv_tableIn (off := 1236) (tgt := 1281) hx hb dL_law_45 (by decide) (by decide) (by rfl) (by decide) ?_
      exact lw_case19 hM hst S hK hT hL9 hA hX hbl hbA hL hi6 hPR hP hD hS hl (by omega) (by omega) kk
    · refine lv_tableIn (off := 1292) (tgt := 1337) hx hb dL_law_45 (by decide) (by decide) (by rfl) (by decide) ?_
      exact lw_case20 hM hst S hK hT hL9 hA hX hbl hbA hL hi6 hPR hP hD hS hl (by omega) (by omega) kk
    · refine lv_tableIn (off := 1348) (tgt := 1393) hx hb dL_law_45 (by decide) (by decide) (by rfl) (by decide) ?_
      exact lw_case21 hM hst S hK hT hL9 hA hX hbl hbA hL hi6 hPR hP hD hS hl (by omega) (by omega) kk
    · refine lv_tableIn (off := 1404) (tgt := 1449) hx hb dL_law_45 (by decide) (by decide) (by rfl) (by decide) ?_
      exact lw_case22 hM hst S hK hT hL9 hA hX hbl hbA hL hi6 hPR hP hD hS hl (by omega) (by omega) kk
    · refine lv_tableIn (off := 1460) (tgt := 1505) hx hb dL_law_45 (by decide) (by decide) (by rfl) (by decide) ?_
      exact lw_case23 hM hst S hK hT hL9 hA hX hbl hbA hL hi6 hPR hP hD hS hl (by omega) (by omega) kk
    · refine lv_tableIn (off := 1516) (tgt := 1561) hx hb dL_law_45 (by decide) (by decide) (by rfl) (by decide) ?_
      exact lw_case24 hM hst S hK hT hL9 hA hX hbl hbA hL hi6 hPR hP hD hS hl (by omega) (by omega) kk
    · refine lv_tableIn (off := 1572) (tgt := 1617) hx hb dL_law_45 (by decide) (by decide) (by rfl) (by decide) ?_
      exact lw_case25 hM hst S hK hT hL9 hA hX hbl hbA hL hi6 hPR hP hD hS hl (by omega) (by omega) kk
    · refine lv_tableIn (off := 1585) (tgt := 1630) hx hb dL_law_45 (by decide) (by decide) (by rfl) (by decide) ?_
      exact lw_case26 hM hst S hK hT hL9 hA hX hbl hbA hL hi6 hPR hP hD hS hl (by omega) (by omega) kk
    · refine lv_tableIn (off := 1598) (tgt := 1643) hx hb dL_law_45 (by decide) (by decide) (by rfl) (by decide) ?_
      exact lw_case27 hM hst S hK hT hL9 hA hX hbl hbA hL hi6 hPR hP hD hS hl (by omega) (by omega) kk
    · refine lv_tableIn (off := 1666) (tgt := 1711) hx hb dL_law_45 (by decide) (by decide) (by rfl) (by decide) ?_
      exact lw_case28 hM hst S hK hT hL9 hA hX hbl hbA hL hi6 hPR hP hD hS hl (by omega) (by omega) kk
    · refine lv_tableIn (off := 1734) (tgt := 1779) hx hb dL_law_45 (by decide) (by decide) (by rfl) (by decide) ?_
      exact lw_case29 hM hst S hK hT hL9 hA hX hbl hbA hL hi6 hPR hP hD hS hl (by omega) (by omega) kk
    · refine lv_tableIn (off := 1802) (tgt := 1847) hx hb dL_law_45 (by decide) (by decide) (by rfl) (by decide) ?_
      exact lw_case30 hM hst S hK hT hL9 hA hX hbl hbA hL hi6 hPR hP hD hS hl (by omega) (by omega) kk
    · refine lv_tableIn (off := 1870) (tgt := 1915) hx hb dL_law_45 (by decide) (by decide) (by rfl) (by decide) ?_
      exact lw_case31 hM hst S hK hT hL9 hA hX hbl hbA hL hi6 hPR hP hD hS hl (by omega) (by omega) kk
    · refine lv_tableIn (off := 1938) (tgt := 1983) hx hb dL_law_45 (by decide) (by decide) (by rfl) (by decide) ?_
      exact lw_case32 hM hst S hK hT hL9 hA hX hbl hbA hL hi6 hPR hP hD hS hl (by omega) (by omega) kk
    · refine lv_tableIn (off := 2006) (tgt := 2051) hx hb dL_law_45 (by decide) (by decide) (by rfl) (by decide) ?_
      exact lw_case33 hM hst S hK hT hL9 hA hX hbl hbA hL hi6 hPR hP hD hS hl (by omega) (by omega) kk
    · refine lv_tableIn (off := 2086) (tgt := 2131) hx hb dL_law_45 (by decide) (by decide) (by rfl) (by decide) ?_
      exact lw_case34 hM hst S hK hT hL9 hA hX hbl hbA hL hi6 hPR hP hD hS hl (by omega) (by omega) kk
    · refine lv_tableIn (off := 2166) (tgt := 2211) hx hb dL_law_45 (by decide) (by decide) (by rfl) (by decide) ?_
      exact lw_case35 hM hst S hK hT hL9 hA hX hbl hbA hL hi6 hPR hP hD hS hl (by omega) (by omega) kk
    · refine lv_tableIn (off := 2233) (tgt := 2278) hx hb dL_law_45 (by decide) (by decide) (by rfl) (by decide) ?_
      exact lw_case36 hM hst S hK hT hL9 hA hX hbl hbA hL hi6 hPR hP hD hS hl (by omega) (by omega) kk
    · refine lv_tableIn (off := 2337) (tgt := 2382) hx hb dL_law_45 (by decide) (by decide) (by rfl) (by decide) ?_
      exact lw_case37 hM hst S hK hT hL9 hA hX hbl hbA hL hi6 hPR hP hD hS hl (by omega) (by omega) kk
    · refine lv_tableIn (off := 2393) (tgt := 2438) hx hb dL_law_45 (by decide) (by decide) (by rfl) (by decide) ?_
      exact lw_case38 hM hst S hK hT hL9 hA hX hbl hbA hL hi6 hPR hP hD hS hl (by omega) (by omega) kk
    · refine lv_tableIn (off := 2456) (tgt := 2501) hx hb dL_law_45 (by decide) (by decide) (by rfl) (by decide) ?_
      exact lw_case39 hM hst S hK hT hL9 hA hX hbl hbA hL hi6 hPR hP hD hS hl (by omega) (by omega) kk
    · refine lv_tableIn (off := 2512) (tgt := 2557) hx hb dL_law_45 (by decide) (by decide) (by rfl) (by decide) ?_
      exact lw_case40 hM hst S hK hT hL9 hA hX hbl hbA hL hi6 hPR hP hD hS hl (by omega) (by omega) kk
    · refine lv_tableIn (off := 2568) (tgt := 2613) hx hb dL_law_45 (by decide) (by decide) (by rfl) (by decide) ?_
      exact lw_case41 hM hst S hK hT hL9 hA hX hbl hbA hL hi6 hPR hP hD hS hl (by omega) (by omega) kk
    · refine lv_tableIn (off := 2636) (tgt := 2681) hx hb dL_law_45 (by decide) (by decide) (by rfl) (by decide) ?_
      exact lw_case42 hM hst S hK hT hL9 hA hX hbl hbA hL hi6 hPR hP hD hS hl (by omega) (by omega) kk
    · refine lv_tableIn (off := 2711) (tgt := 2756) hx hb dL_law_45 (by decide) (by decide) (by rfl) (by decide) ?_
      exact lw_case43 hM hst S hK hT hL9 hA hX hbl hbA hL hi6 hPR hP hD hS hl (by omega) (by omega) kk
    · refine lv_tableIn (off := 2724) (tgt := 2769) hx hb dL_law_45 (by decide) (by decide) (by rfl) (by decide) ?_
      exact lw_case44 hM hst S hK hT hL9 hA hX hbl hbA hL hi6 hPR hP hD hS hl (by omega) (by omega) kk
    · refine lv_tableIn (off := 2789) (tgt := 2834) hx hb dL_law_45 (by decide) (by decide) (by rfl) (by decide) ?_
      exact lw_case45 hM hst S hK hT hL9 hA hX hbl hbA hL hi6 hPR hP hD hS hl (by omega) (by omega) kk
    · refine lv_tableIn (off := 2855) (tgt := 2900) hx hb dL_law_45 (by decide) (by decide) (by rfl) (by decide) ?_
      exact lw_case46 hM hst S hK hT hL9 hA hX hbl hbA hL hi6 hPR hP hD hS hl (by omega) (by omega) kk
    · refine lv_tableIn (off := 2868) (tgt := 2913) hx hb dL_law_45 (by decide) (by decide) (by rfl) (by decide) ?_
      exact lw_case47 hM hst S hK hT hL9 hA hX hbl hbA hL hi6 hPR hP hD hS hl (by omega) (by omega) kk
    · refine lv_tableIn (off := 2881) (tgt := 2926) hx hb dL_law_45 (by decide) (by decide) (by rfl) (by decide) ?_
      exact lw_case48 hM hst S hK hT hL9 hA hX hbl hbA hL hi6 hPR hP hD hS hl (by omega) (by omega) kk
    · refine lv_tableIn (off := 2937) (tgt := 2982) hx hb dL_law_45 (by decide) (by decide) (by rfl) (by decide) ?_
      exact lw_case49 hM hst S hK hT hL9 hA hX hbl hbA hL hi6 hPR hP hD hS hl (by omega) (by omega) kk
    · refine lv_tableIn (off := 2993) (tgt := 3038) hx hb dL_law_45 (by decide) (by decide) (by rfl) (by decide) ?_
      exact lw_case50 hM hst S hK hT hL9 hA hX hbl hbA hL hi6 hPR hP hD hS hl (by omega) (by omega) kk
    · refine lv_tableIn (off := 3051) (tgt := 3096) hx hb dL_law_45 (by decide) (by decide) (by rfl) (by decide) ?_
      exact lw_case51 hM hst S hK hT hL9 hA hX hbl hbA hL hi6 hPR hP hD hS hl (by omega) (by omega) kk
    · refine lv_tableIn (off := 3095) (tgt := 3140) hx hb dL_law_45 (by decide) (by decide) (by rfl) (by decide) ?_
      exact lw_case52 hM hst S hK hT hL9 hA hX hbl hbA hL hi6 hPR hP hD hS hl (by omega) (by omega) kk
    · refine lv_tableIn (off := 3139) (tgt := 3184) hx hb dL_law_45 (by decide) (by decide) (by rfl) (by decide) ?_
      exact lw_case53 hM hst S hK hT hL9 hA hX hbl hbA hL hi6 hPR hP hD hS hl (by omega) (by omega) kk
    · refine lv_tableIn (off := 3183) (tgt := 3228) hx hb dL_law_45 (by decide) (by decide) (by rfl) (by decide) ?_
      exact lw_case54 hM hst S hK hT hL9 hA hX hbl hbA hL hi6 hPR hP hD hS hl (by omega) (by omega) kk
    · refine lv_tableIn (off := 3227) (tgt := 3272) hx hb dL_law_45 (by decide) (by decide) (by rfl) (by decide) ?_
      exact lw_case55 hM hst S hK hT hL9 hA hX hbl hbA hL hi6 hPR hP hD hS hl (by omega) (by omega) kk
    · refine lv_tableIn (off := 3271) (tgt := 3316) hx hb dL_law_45 (by decide) (by decide) (by rfl) (by decide) ?_
      exact lw_case56 hM hst S hK hT hL9 hA hX hbl hbA hL hi6 hPR hP hD hS hl (by omega) (by omega) kk
    · refine lv_tableIn (off := 3315) (tgt := 3360) hx hb dL_law_45 (by decide) (by decide) (by rfl) (by decide) ?_
      exact lw_case57 hM hst S hK hT hL9 hA hX hbl hbA hL hi6 hPR hP hD hS hl (by omega) (by omega) kk
    · refine lv_tableIn (off := 3328) (tgt := 3373) hx hb dL_law_45 (by decide) (by decide) (by rfl) (by decide) ?_
      exact lw_case58 hM hst S hK hT hL9 hA hX hbl hbA hL hi6 hPR hP hD hS hl (by omega) (by omega) kk
theorem vi_L_183 : pq_Iq RL 183 yX6_init cX6_init 1 := ⟨⟨pq_in 101 (by decide +kernel) (by decide +kernel), pq_in 102 (by decide +kernel) (by decide +kernel), pq_in 76 (by decide +kernel) (by decide +kernel), pq_in 103 (by decide +kernel) (by decide +kernel)⟩, rfl, by decide +kernel, by decide +kernel, by decide +kernel⟩
theorem vi_L_186 : pq_Iq RL 186 yX7_init cX7_init 1 := ⟨⟨pq_in 1344 (by decide +kernel) (by decide +kernel), pq_in 1345 (by decide +kernel) (by decide +kernel), pq_in 83 (by decide +kernel) (by decide +kernel), pq_in 1346 (by decide +kernel) (by decide +kernel)⟩, rfl, by decide +kernel, by decide +kernel, by decide +kernel⟩
theorem vnL_8 : Cond.classLink RL 8 RX6 ∈ pq_G ∧ Cond.instantiable RX6 11 ∈ pq_G ∧ Cond.initialized RX6 ∈ pq_G := ⟨pq_in 99 (by decide +kernel) (by decide +kernel), pq_in 100 (by decide +kernel) (by decide +kernel), pq_in 76 (by decide +kernel) (by decide +kernel)⟩
theorem vnL_184 : Cond.classLink RL 184 RX7 ∈ pq_G ∧ Cond.instantiable RX7 17 ∈ pq_G ∧ Cond.initialized RX7 ∈ pq_G := ⟨pq_in 1342 (by decide +kernel) (by decide +kernel), pq_in 1343 (by decide +kernel) (by decide +kernel), pq_in 83 (by decide +kernel) (by decide +kernel)⟩
theorem vo_along : Cond.arrayClass (newarray.typeOf .long) ∈ pq_G := pq_in 1860 (by decide +kernel) (by decide +kernel)
theorem vo_adouble : Cond.arrayClass (newarray.typeOf .double) ∈ pq_G := pq_in 1861 (by decide +kernel) (by decide +kernel)
set_option maxHeartbeats 4000000 in
set_option maxRecDepth 100000 in
/-- the law's body, from its entry to its last two instructions -/
theorem lw_body {PR : MainS → ModS → Prop} (hM : pq_Ma PR) (hPR0 : PR mainZ modZ) {p : Program} {l : Launch} {e : Env} {s : State} {m : MethodId} {below : List Frame} {meth : Method} {c : Code} {Q : State → Prop} {b L : Nat} {xs : Nat → Int32} {ls : Array Slot} (hst : l.stackTraces = false) (S : CallFix p m c cL_law 9 s #[.ref b] pq_G RL) (hts0 : ∀ w ∈ lw_tbl, w.before #[Value.ref b] s = true) (hgv : (Jvm.Cond.and given_1 narrow_1).before #[Value.ref b] s = true) (hX : va_X b L xs s s.heap) (hbl : b < s.heap.size) (hL : L ≤ 3072) (hl : lv_has ls 9 [(0, .ref b)])
    (kend : ∀ (H : Heap) (locs : List Loc) (cells slots : Nat) (ls : Array Slot), va_S (fun q => s.heap.size ≤ q) s.heap H locs → cells ≤ 10000 → slots ≤ 100000 → W p l e room_1 s m #[.ref b] below meth c H locs cells slots Q (F0 m 3423 ls [])) : W p l e room_1 s m #[.ref b] below meth c s.heap [] 0 0 Q (F0 m 0 ls []) := by
  obtain ⟨hx, hb, hml, hown, hts⟩ := id S
  have hA : ∀ q : Nat, s.heap.size ≤ q → (fun q : Nat => s.heap.size ≤ q) q := fun _ h => h
  have hbA : ¬ (fun q : Nat => s.heap.size ≤ q) b := Nat.not_le.mpr hbl
  have hA2 : ∀ q : Nat, q < s.heap.size → ¬ (fun q : Nat => s.heap.size ≤ q) q := fun q h => Nat.not_le.mpr h
  obtain ⟨g, hK⟩ := pq_startK hts0
  have hs := flat_of_before _ hgv
  have hT := pq_startT hts0 hs (hK.1.1 6 _ rfl).2.1 hA2
  have hL9 := pq_startL hs
  have hO : va_AO "PrioritySearchTree$Data" s := va_AO.of (hts0 (.arrayOver (.object "PrioritySearchTree$Data")) (lw_mem 184 (by decide +kernel)))
  have hS : va_S (fun q : Nat => s.heap.size ≤ q) s.heap s.heap [] := va_S.rf
  have hP : va_P g.1 pq_cl [] s.heap := pq_P0
  have hD : va_D (fun q : Nat => s.heap.size ≤ q) [] := pq_D0
  refine pq_new S inX6 tyX6 tyX6_ok vnL_8.1 vnL_8.2.1 vnL_8.2.2 hK hP hD hS hA (ci := 6) rfl (fs := [.null, .null, .null, .int 0, .null, .null, .null, .int 0, .int 0, .int 0, .int 0]) (by decide +kernel) (Nat.le_of_ble_eq_true rfl) (Nat.le_of_ble_eq_true rfl) dL_law_0 (fun q1 H hP hD hS => ?_)
  refine lv_dup hx hb dL_law_3 rfl ?_
  refine pq_cIq S (c_X6_init l g) vi_L_183 hO hK hP hD hS hA hl.1 (Nat.le_of_ble_eq_true rfl) dL_law_4 ⟨by decide, by decide⟩ ⟨Nat.le_of_ble_eq_true rfl, Nat.le_of_ble_eq_true rfl⟩ (fun a H locs e1 hP9 hD9 hS9 => ?_)
  clear hP hD hS
  subst e1
  have hP := hP9
  have hD := hD9
  have hS := hS9
  clear hP9 hD9 hS9
  refine lv_astore_n (lv' := [(1, .ref (a 0)), (0, .ref b)]) hx hb dL_law_7 rfl hl (by decide) rfl (fun ls hl => ?_)
  refine pq_new S inX7 tyX7 tyX7_ok vnL_184.1 vnL_184.2.1 vnL_184.2.2 hK hP hD hS hA (ci := 7) rfl (fs := [.int 0, .null, .int 0, .int 0, .int 0, .int 0, .int 0, .int 0, .null, .int 0, .null, .int 0, .int 0, .int 0, .int 0, .null, .int 0]) (by decide +kernel) (Nat.le_of_ble_eq_true rfl) (Nat.le_of_ble_eq_true rfl) dL_law_8 (fun q1 H hP hD hS => ?_)
  refine lv_dup hx hb dL_law_11 rfl ?_
  refine pq_cIq S (c_X7_init l g) vi_L_186 hO hK hP hD hS hA hl.1 (Nat.le_of_ble_eq_true rfl) dL_law_12 ⟨by decide, by decide⟩ ⟨Nat.le_of_ble_eq_true rfl, Nat.le_of_ble_eq_true rfl⟩ (fun am H locs e1 hP9 hD9 hS9 => ?_)
  clear hP hD hS
  subst e1
  have hP := hP9
  have hD := hD9
  have hS := hS9
  clear hP9 hD9 hS9
  refine lv_astore_n (lv' := [(2, .ref (am 0)), (1, .ref (a 0)), (0, .ref b)]) hx hb dL_law_15 rfl hl (by decide) rfl (fun ls hl => ?_)
  refine lv_iconst (v := 1) hx hb dL_law_16 (by decide) ?_
  refine pq_newa S 3 (atype := .long) vo_along (ty := .long) rfl hK hP hD hS hA (cA := g.2 3) rfl (N' := 1) (a0 := (1, .inr (.inl (fun _ => 0)))) (fun _ => rfl) (by decide) (by decide) (Nat.le_of_ble_eq_true rfl) (Nat.le_of_ble_eq_true rfl) (Nat.le_of_ble_eq_true rfl) dL_law_17 (fun b1 H hP hD hS => ?_)
  refine lv_astore_n (lv' := [(3, .ref b1), (2, .ref (am 0)), (1, .ref (a 0)), (0, .ref b)]) hx hb dL_law_19 rfl hl (by decide) rfl (fun ls hl => ?_)
  refine lv_iconst (v := 1) hx hb dL_law_20 (by decide) ?_
  refine pq_newa S 4 (atype := .double) vo_adouble (ty := .double) rfl hK hP hD hS hA (cA := g.2 4) rfl (N' := 1) (a0 := (1, .inr (.inr (.inr (.inl (fun _ => 0)))))) (fun _ => rfl) (by decide) (by decide) (Nat.le_of_ble_eq_true rfl) (Nat.le_of_ble_eq_true rfl) (Nat.le_of_ble_eq_true rfl) dL_law_21 (fun b2 H hP hD hS => ?_)
  refine lv_astore (lv' := [(4, .ref b2), (3, .ref b1), (2, .ref (am 0)), (1, .ref (a 0)), (0, .ref b)]) hx hb dL_law_23 hl (by decide) rfl (fun ls hl => ?_)
  refine lv_iconst (v := 0) hx hb dL_law_25 (by decide) ?_
  refine lv_istore (lv' := [(5, .int 0), (4, .ref b2), (3, .ref b1), (2, .ref (am 0)), (1, .ref (a 0)), (0, .ref b)]) hx hb dL_law_26 hl (by decide) rfl (fun ls hl => ?_)
  refine W.widen (k := 1000 + 0) (n := 10000 + 6 * 0) (Nat.le_of_ble_eq_true rfl) (Nat.le_of_ble_eq_true rfl) ?_
  have x1 := pq_Dx hD
  have x2 := pq_Dx (pq_D1 hD)
  have x3 := pq_Dx (pq_D1 (pq_D1 hD))
  refine lw_loop hM hst S hK hT hL9 hA hX hbl hbA hL kend L 0 (fun _ => 0) (fun _ => 0) mainZ modZ H locs ls (by omega) (by omega) hPR0 ?_ ?_ hS (lv_sub hl [0, 5, 4, 3, 2, 1] rfl)
  · exact va_P.app (pq_P2 (pq_P1 hP)) (va_P.app (pq_P2 hP) (va_P.app (pq_P1 (pq_P1 (pq_P1 hP))) (pq_P2 (pq_P1 (pq_P1 hP)))))
  · have hDm : va_D (fun q : Nat => s.heap.size ≤ q) (mainW g a mainZ ++ modW g am modZ) := pq_D1 (pq_D1 hD)
    exact pq_Da (pq_D2 (pq_D1 hD)) (pq_Da (pq_D2 hD) hDm (pq_aps (pq_apl1 x1))) (pq_apA (pq_apl2 x1) (pq_aps x2))
