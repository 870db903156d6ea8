/-! ===== the law's look at one point, 2: its place by priorities; its lowest common ancestor with another ===== -/
set_option maxHeartbeats 8000000 in
set_option maxRecDepth 100000 in
theorem lK_b {p : Program} {l : Launch} {e : Env} {s : State} {m : MethodId} {below : List Frame} {meth : Method} {c : Code} {H : Heap} {locs : List Loc} {cells0 slots0 : Nat} {Q : State → Prop} {A : Nat → Prop} {g : pq_g} {ad av : Nat → Nat} {sb L : Nat} {xs : Nat → Int32} {E : va_W} {a : Nat → Nat} {T : MainS} {ls : Array Slot} {R : Room} (C0 : lwC p l s m #[.ref sb] c cL_law 21 A g ad av [] sb L xs) (hR : 64 ≤ R.frames ∧ 6000 ≤ R.locals) (hL : L < 2 ^ 31) {t : Tr} (hw : WF T.1.1 t) {k : Nat} (hk : k < t.size) {rt dp lf mh tn P : Int32} (M0 : lwM g a T E A s H locs) (hf : cells0 + 80 ≤ R.cells ∧ slots0 + 480 ≤ R.slots) (hl : lv_has ls 21 [(17, .int (nI (t.zr k))), (16, .int (nI (t.zl k))), (15, .int 0), (14, .int (nI (t.sz k))), (13, .int (nI (t.dep k))), (12, .int P), (11, .int (keyR T.1.1 t k)), (10, .int (keyL T.1.1 t k)), (9, .int (nI (kN T.1.1 t k))), (8, .int (nI k)), (7, .int rt), (6, .int dp), (5, .int lf), (4, .int mh), (3, .int (nI t.size)), (2, .int tn), (1, .ref (a 0)), (0, .ref sb)]) (kk : ∀ (ls : Array Slot) (H : Heap) (locs : List Loc) (cells slots : Nat), lwM g a T E A s H locs → cells ≤ cells0 + 80 → slots ≤ slots0 + 480 → lv_has ls 21 [(14, .int (nI (t.sz k))), (13, .int (nI (t.dep k))), (9, .int (nI (kN T.1.1 t k))), (8, .int (nI k)), (7, .int rt), (6, .int dp), (5, .int lf), (4, .int mh), (3, .int (nI t.size)), (2, .int tn), (1, .ref (a 0)), (0, .ref sb)] → W p l e R s m #[.ref sb] below meth c H locs cells slots Q (F0 m 490 ls [])) : W p l e R s m #[.ref sb] below meth c H locs cells0 slots0 Q (F0 m 430 ls []) := by
  obtain ⟨hx, hb, hml, hown, hts⟩ := id C0.1
  have h24 := hw.le
  have k99 := (kN_ok hw hk).2
  obtain ⟨G, hG⟩ : ∃ G : Nat → Nat, G = fun j => if abv T.1.1 (t.sl j) (t.sl k) then 1 else 0 := ⟨_, rfl⟩
  have hah : sumR G 0 t.size = ahead T.1.1 t.slots (t.sl k) := by rw [hG]; exact sum_pl (fun s => if abv T.1.1 s (t.sl k) then 1 else 0) t
  have hGk : G k = 0 := by rw [hG]; exact if_neg (fun h9 => abv_asymm h9 h9)
  have B : ∀ (z j : Nat) (ls : Array Slot) (H : Heap) (locs : List Loc) (cells slots : Nat), j + z = t.size → lwM g a T E A s H locs → cells ≤ cells0 + 3 * j → slots ≤ slots0 + 18 * j → lv_has ls 21 [(18, .int (nI j)), (15, .int (nI (sumR G 0 j))), (17, .int (nI (t.zr k))), (16, .int (nI (t.zl k))), (14, .int (nI (t.sz k))), (13, .int (nI (t.dep k))), (12, .int P), (11, .int (keyR T.1.1 t k)), (10, .int (keyL T.1.1 t k)), (9, .int (nI (kN T.1.1 t k))), (8, .int (nI k)), (7, .int rt), (6, .int dp), (5, .int lf), (4, .int mh), (3, .int (nI t.size)), (2, .int tn), (1, .ref (a 0)), (0, .ref sb)] → W p l e R s m #[.ref sb] below meth c H locs cells slots Q (F0 m 433 ls []) := by
    intro z
    induction z with
      | zero =>
        intro j ls H locs cells slots hj M0 hc1 hs1 hl
        obtain rfl : j = t.size := by omega
        refine lv_iload hx hb dL_law_433 (lv_at hl 0 rfl) ?_
        refine lv_iload_n hx hb dL_law_435 rfl (lv_at hl 15 rfl) ?_
        refine lv_icmp_ge (tgt := 477) hx hb dL_law_436 (by decide) (fun _ => ?_) (fun h9 => absurd (nI_le (Nat.le_refl _) (by omega)) h9)
        refine lv_aload_n hx hb dL_law_477 rfl (lv_at hl 17 rfl) ?_
        refine lv_iload hx hb dL_law_478 (lv_at hl 1 rfl) ?_
        rw [hah]
        refine mX C0 M0 (c_X6_keyByPriority l g a T (nI (ahead T.1.1 t.slots (t.sl k))) C0.2.2.2.2 (.inr (nI (kN T.1.1 t k))) T (a_keyByPriority hw hk)) vv_L_69 (rest := []) rfl rfl hl.1 (Nat.le_of_ble_eq_true rfl) dL_law_480 ⟨by omega, by omega⟩ ⟨by omega, by omega⟩ (fun H locs M0 => ?_)
        refine lv_iload hx hb dL_law_483 (lv_at hl 9 rfl) ?_
        refine lv_icmp_eq (tgt := 490) hx hb dL_law_485 (by decide) (fun _ => ?_) (fun h9 => absurd rfl h9)
        exact kk ls _ _ _ _ M0 (by omega) (by omega) (lv_sub hl [4, 5, 9, 10, 11, 12, 13, 14, 15, 16, 17, 18] rfl)
      | succ z ih =>
        intro j ls H locs cells slots hj M0 hc1 hs1 hl
        refine lv_iload hx hb dL_law_433 (lv_at hl 0 rfl) ?_
        refine lv_iload_n hx hb dL_law_435 rfl (lv_at hl 15 rfl) ?_
        refine lv_icmp_ge (tgt := 477) hx hb dL_law_436 (by decide) (fun h9 => absurd h9 (nI_ge (by omega) (by omega))) (fun _ => ?_)
        refine lv_iload hx hb dL_law_439 (lv_at hl 1 rfl) ?_
        refine lv_iload hx hb dL_law_441 (lv_at hl 0 rfl) ?_
        refine lv_iload hx hb dL_law_443 (lv_at hl 10 rfl) ?_
        have J468 : ∀ (H : Heap) (locs : List Loc) (cells slots : Nat), lwM g a T E A s H locs → cells ≤ cells0 + 3 * j + 3 → slots ≤ slots0 + 18 * j + 18 → W p l e R s m #[.ref sb] below meth c H locs cells slots Q (F0 m 468 ls [.int (nI (G j)), .int (nI (sumR G 0 j))]) := by
          intro H locs cells slots M0 hc1 hs1
          refine lv_iadd hx hb dL_law_468 ?_
          rw [show ((nI (sumR G 0 j) + nI (G j)) : Int32) = (nI (sumR G 0 (j + 1))) from by rw [nI_add, sumR_succ]]
          refine lv_istore (lv' := [(15, .int (nI (sumR G 0 (j + 1)))), (18, .int (nI j)), (17, .int (nI (t.zr k))), (16, .int (nI (t.zl k))), (14, .int (nI (t.sz k))), (13, .int (nI (t.dep k))), (12, .int P), (11, .int (keyR T.1.1 t k)), (10, .int (keyL T.1.1 t k)), (9, .int (nI (kN T.1.1 t k))), (8, .int (nI k)), (7, .int rt), (6, .int dp), (5, .int lf), (4, .int mh), (3, .int (nI t.size)), (2, .int tn), (1, .ref (a 0)), (0, .ref sb)]) hx hb dL_law_469 hl (by decide) rfl (fun ls hl => ?_)
          refine lv_iinc (v := (nI (j + 1))) (lv' := [(18, .int (nI (j + 1))), (15, .int (nI (sumR G 0 (j + 1)))), (17, .int (nI (t.zr k))), (16, .int (nI (t.zl k))), (14, .int (nI (t.sz k))), (13, .int (nI (t.dep k))), (12, .int P), (11, .int (keyR T.1.1 t k)), (10, .int (keyL T.1.1 t k)), (9, .int (nI (kN T.1.1 t k))), (8, .int (nI k)), (7, .int rt), (6, .int dp), (5, .int lf), (4, .int mh), (3, .int (nI t.size)), (2, .int tn), (1, .ref (a 0)), (0, .ref sb)]) hx hb dL_law_471 hl (k := 1) rfl (by rw [nI_succ]; rfl) (by decide) rfl (fun ls hl => ?_)
          refine lv_goto (tgt := 433) hx hb dL_law_474 (by decide) ?_
          exact ih (j + 1) ls _ _ _ _ (by omega) M0 (by omega) (by omega) hl
        by_cases e0 : j = k
        · refine lv_icmp_eq (tgt := 467) hx hb dL_law_445 (by decide) (fun _ => ?_) (fun h9 => absurd (by rw [e0]) h9)
          refine lv_iconst (v := 0) hx hb dL_law_467 (by decide) ?_
          have e1 : G j = 0 := by rw [e0]; exact hGk
          rw [e1] at J468
          exact J468 _ _ _ _ M0 (by omega) (by omega)
        · refine lv_icmp_eq (tgt := 467) hx hb dL_law_445 (by decide) (fun h9 => absurd ((nI_eq (by omega) (by omega)).mp h9) e0) (fun _ => ?_)
          refine lv_aload_n hx hb dL_law_448 rfl (lv_at hl 17 rfl) ?_
          refine lv_aload_n hx hb dL_law_449 rfl (lv_at hl 17 rfl) ?_
          refine lv_iload hx hb dL_law_450 (lv_at hl 0 rfl) ?_
          refine mX C0 M0 (c_X6_keyAt l g a T (nI j) C0.2.2.2.2 (.inr (nI (kN T.1.1 t j))) T (a_keyAt hw (by omega))) vv_L_66 (rest := [.ref (a 0), .int (nI (sumR G 0 j))]) rfl rfl hl.1 (Nat.le_of_ble_eq_true rfl) dL_law_452 ⟨by omega, by omega⟩ ⟨by omega, by omega⟩ (fun H locs M0 => ?_)
          refine lv_iload hx hb dL_law_455 (lv_at hl 9 rfl) ?_
          refine mAb C0 M0 hw (show j < t.size by omega) hk hl.1 (Nat.le_of_ble_eq_true rfl) dL_law_457 ⟨by omega, by omega⟩ ⟨by omega, by omega⟩ (fun H locs M0 => ?_)
          by_cases e1 : abv T.1.1 (t.sl j) (t.sl k)
          · rw [if_pos e1]
            have e2 : G j = 1 := by rw [hG]; exact if_pos e1
            rw [e2] at J468
            refine lv_if_eq (tgt := 467) hx hb dL_law_460 (by decide) (fun h9 => absurd h9 (by decide)) (fun _ => ?_)
            refine lv_iconst (v := 1) hx hb dL_law_463 (by decide) ?_
            refine lv_goto (tgt := 468) hx hb dL_law_464 (by decide) ?_
            exact J468 _ _ _ _ M0 (by omega) (by omega)
          · rw [if_neg e1]
            have e2 : G j = 0 := by rw [hG]; exact if_neg e1
            rw [e2] at J468
            refine lv_if_eq (tgt := 467) hx hb dL_law_460 (by decide) (fun _ => ?_) (fun h9 => absurd rfl h9)
            refine lv_iconst (v := 0) hx hb dL_law_467 (by decide) ?_
            exact J468 _ _ _ _ M0 (by omega) (by omega)
  refine lv_iconst (v := 0) hx hb dL_law_430 (by decide) ?_
  refine lv_istore (lv' := [(18, .int 0), (17, .int (nI (t.zr k))), (16, .int (nI (t.zl k))), (15, .int 0), (14, .int (nI (t.sz k))), (13, .int (nI (t.dep k))), (12, .int P), (11, .int (keyR T.1.1 t k)), (10, .int (keyL T.1.1 t k)), (9, .int (nI (kN T.1.1 t k))), (8, .int (nI k)), (7, .int rt), (6, .int dp), (5, .int lf), (4, .int mh), (3, .int (nI t.size)), (2, .int tn), (1, .ref (a 0)), (0, .ref sb)]) hx hb dL_law_431 hl (by decide) rfl (fun ls hl => ?_)
  exact B t.size 0 ls _ _ _ _ (by omega) M0 (Nat.le_refl _) (Nat.le_refl _) (lv_sub hl [0, 3, 1, 2, 4, 5, 6, 7, 8, 9, 10, 11, 12, 13, 14, 15, 16, 17, 18] rfl)
set_option maxHeartbeats 8000000 in
set_option maxRecDepth 100000 in
theorem lK_d {p : Program} {l : Launch} {e : Env} {s : State} {m : MethodId} {below : List Frame} {meth : Method} {c : Code} {H : Heap} {locs : List Loc} {cells0 slots0 : Nat} {Q : State → Prop} {A : Nat → Prop} {g : pq_g} {ad av : Nat → Nat} {sb L : Nat} {xs : Nat → Int32} {E : va_W} {a : Nat → Nat} {T : MainS} {ls : Array Slot} {R : Room} (C0 : lwC p l s m #[.ref sb] c cL_law 21 A g ad av [] sb L xs) (hR : 64 ≤ R.frames ∧ 6000 ≤ R.locals) (hL : L < 2 ^ 31) {t : Tr} (hw : WF T.1.1 t) {k : Nat} (hk : k < t.size) {rt mh tn : Int32} {dpn lfn : Nat} (M0 : lwM g a T E A s H locs) (hf : cells0 + 200 ≤ R.cells ∧ slots0 + 1200 ≤ R.slots) (hl : lv_has ls 21 [(14, .int (nI (t.sz k))), (13, .int (nI (t.dep k))), (9, .int (nI (kN T.1.1 t k))), (8, .int (nI k)), (7, .int rt), (6, .int (nI dpn)), (5, .int (nI lfn)), (4, .int mh), (3, .int (nI t.size)), (2, .int tn), (1, .ref (a 0)), (0, .ref sb)]) (kk : ∀ (ls : Array Slot) (H : Heap) (locs : List Loc) (cells slots : Nat), lwM g a T E A s H locs → cells ≤ cells0 + 200 → slots ≤ slots0 + 1200 → lv_has ls 21 [(8, .int (nI (k + 1))), (7, .int rt), (6, .int (nI (dpn + t.dep k))), (5, .int (nI (lfn + if t.sz k = 1 then 1 else 0))), (4, .int (if mh < nI (t.dep k) then nI (t.dep k) else mh)), (3, .int (nI t.size)), (2, .int tn), (1, .ref (a 0)), (0, .ref sb)] → W p l e R s m #[.ref sb] below meth c H locs cells slots Q (F0 m 43 ls [])) : W p l e R s m #[.ref sb] below meth c H locs cells0 slots0 Q (F0 m 490 ls []) := by
  obtain ⟨hx, hb, hml, hown, hts⟩ := id C0.1
  have h24 := hw.le
  have k99 := (kN_ok hw hk).2
  have hdk := (depthIn_ok hw.1 hk).2
  obtain ⟨o, eo⟩ : ∃ o, o = lsome xs L (90 + k) t.size := ⟨_, rfl⟩
  have ho : o < t.size := by rw [eo]; exact lsome_lt (by omega)
  have hdo := (depthIn_ok hw.1 ho).2
  have hc := lca_lt hk ho
  obtain ⟨ca, eca⟩ : ∃ ca, ca = t.lca k o := ⟨_, rfl⟩
  rw [← eca] at hc
  have J558 : ∀ (ls : Array Slot) (H : Heap) (locs : List Loc) (cells slots : Nat), lwM g a T E A s H locs → cells ≤ cells0 + 190 → slots ≤ slots0 + 1140 → lv_has ls 21 [(19, .int (nI (kN T.1.1 t ca))), (18, .int (nI (kN T.1.1 t o))), (14, .int (nI (t.sz k))), (13, .int (nI (t.dep k))), (9, .int (nI (kN T.1.1 t k))), (8, .int (nI k)), (7, .int rt), (6, .int (nI dpn)), (5, .int (nI lfn)), (4, .int mh), (3, .int (nI t.size)), (2, .int tn), (1, .ref (a 0)), (0, .ref sb)] → W p l e R s m #[.ref sb] below meth c H locs cells slots Q (F0 m 558 ls []) := by
    intro ls H locs cells slots M0 hc1 hs1 hl
    refine lv_aload_n hx hb dL_law_558 rfl (lv_at hl 12 rfl) ?_
    refine lv_iload hx hb dL_law_559 (lv_at hl 4 rfl) ?_
    refine lv_iload hx hb dL_law_561 (lv_at hl 1 rfl) ?_
    refine mX C0 M0 (c_X6_commonAncestor l g a T (nI (kN T.1.1 t k)) (nI (kN T.1.1 t o)) C0.2.2.2.2 (.inr (nI (kN T.1.1 t ca))) T (by rw [a_common hw hk ho, eca])) vv_L_204 (rest := []) rfl rfl hl.1 (Nat.le_of_ble_eq_true rfl) dL_law_563 ⟨by omega, by omega⟩ ⟨by omega, by omega⟩ (fun H locs M0 => ?_)
    refine lv_iload hx hb dL_law_566 (lv_at hl 0 rfl) ?_
    refine lv_icmp_ne (tgt := 600) hx hb dL_law_568 (by decide) (fun h9 => absurd rfl h9) (fun _ => ?_)
    refine lv_aload_n hx hb dL_law_571 rfl (lv_at hl 12 rfl) ?_
    refine lv_iload hx hb dL_law_572 (lv_at hl 4 rfl) ?_
    refine lv_iload hx hb dL_law_574 (lv_at hl 1 rfl) ?_
    refine mX C0 M0 (c_X6_distance l g a T (nI (kN T.1.1 t k)) (nI (kN T.1.1 t o)) C0.2.2.2.2 (.inr ((nI (t.dep k) + nI (t.dep o)) - (2 * nI (t.dep ca)))) T (by rw [a_distance hw hk ho, eca])) vv_L_207 (rest := []) rfl rfl hl.1 (Nat.le_of_ble_eq_true rfl) dL_law_576 ⟨by omega, by omega⟩ ⟨by omega, by omega⟩ (fun H locs M0 => ?_)
    refine lv_iload hx hb dL_law_579 (lv_at hl 3 rfl) ?_
    refine lv_aload_n hx hb dL_law_581 rfl (lv_at hl 12 rfl) ?_
    refine lv_iload hx hb dL_law_582 (lv_at hl 1 rfl) ?_
    refine mX C0 M0 (c_X6_depthOf l g a T (nI (kN T.1.1 t o)) C0.2.2.2.2 (.inr (nI (t.dep o))) T (a_depthOf hw ho)) vv_L_178 (rest := [.int (nI (t.dep k)), .int ((nI (t.dep k) + nI (t.dep o)) - (2 * nI (t.dep ca)))]) rfl rfl hl.1 (Nat.le_of_ble_eq_true rfl) dL_law_584 ⟨by omega, by omega⟩ ⟨by omega, by omega⟩ (fun H locs M0 => ?_)
    refine lv_iadd hx hb dL_law_587 ?_
    refine lv_iconst (v := 2) hx hb dL_law_588 (by decide) ?_
    refine lv_aload_n hx hb dL_law_589 rfl (lv_at hl 12 rfl) ?_
    refine lv_iload hx hb dL_law_590 (lv_at hl 0 rfl) ?_
    refine mX C0 M0 (c_X6_depthOf l g a T (nI (kN T.1.1 t ca)) C0.2.2.2.2 (.inr (nI (t.dep ca))) T (a_depthOf hw hc)) vv_L_178 (rest := [.int 2, .int ((nI (t.dep k)) + (nI (t.dep o))), .int ((nI (t.dep k) + nI (t.dep o)) - (2 * nI (t.dep ca)))]) rfl rfl hl.1 (Nat.le_of_ble_eq_true rfl) dL_law_592 ⟨by omega, by omega⟩ ⟨by omega, by omega⟩ (fun H locs M0 => ?_)
    refine lv_imul hx hb dL_law_595 ?_
    refine lv_isub hx hb dL_law_596 ?_
    refine lv_icmp_eq (tgt := 602) hx hb dL_law_597 (by decide) (fun _ => ?_) (fun h9 => absurd rfl h9)
    refine lv_iload hx hb dL_law_602 (lv_at hl 9 rfl) ?_
    refine lv_iload hx hb dL_law_604 (lv_at hl 3 rfl) ?_
    refine mmax C0 hl.1 (Nat.le_of_ble_eq_true rfl) vm_L_210 dL_law_606 ⟨by omega, by omega⟩ ⟨by omega, by omega⟩ ?_
    refine lv_istore (lv' := [(4, .int (if mh < nI (t.dep k) then nI (t.dep k) else mh)), (19, .int (nI (kN T.1.1 t ca))), (18, .int (nI (kN T.1.1 t o))), (14, .int (nI (t.sz k))), (13, .int (nI (t.dep k))), (9, .int (nI (kN T.1.1 t k))), (8, .int (nI k)), (7, .int rt), (6, .int (nI dpn)), (5, .int (nI lfn)), (3, .int (nI t.size)), (2, .int tn), (1, .ref (a 0)), (0, .ref sb)]) hx hb dL_law_609 hl (by decide) rfl (fun ls hl => ?_)
    refine lv_iload hx hb dL_law_611 (lv_at hl 9 rfl) ?_
    refine lv_iload hx hb dL_law_613 (lv_at hl 3 rfl) ?_
    refine lv_iconst (v := 1) hx hb dL_law_615 (by decide) ?_
    have J624 : ∀ x : Nat, (x = if t.sz k = 1 then 1 else 0) → W p l e R s m #[.ref sb] below meth c H locs (cells + 2 + 2 + 1 + 1) (slots + 6 * 2 + 6 * 2 + 6 * 1 + 6 * 1) Q (F0 m 624 ls [.int (nI x), .int (nI lfn)]) := by
      intro x hx9
      refine lv_iadd hx hb dL_law_624 ?_
      rw [show ((nI lfn + nI x) : Int32) = (nI (lfn + if t.sz k = 1 then 1 else 0)) from by rw [nI_add, hx9]]
      refine lv_istore (lv' := [(5, .int (nI (lfn + if t.sz k = 1 then 1 else 0))), (4, .int (if mh < nI (t.dep k) then nI (t.dep k) else mh)), (19, .int (nI (kN T.1.1 t ca))), (18, .int (nI (kN T.1.1 t o))), (14, .int (nI (t.sz k))), (13, .int (nI (t.dep k))), (9, .int (nI (kN T.1.1 t k))), (8, .int (nI k)), (7, .int rt), (6, .int (nI dpn)), (3, .int (nI t.size)), (2, .int tn), (1, .ref (a 0)), (0, .ref sb)]) hx hb dL_law_625 hl (by decide) rfl (fun ls hl => ?_)
      refine lv_iload hx hb dL_law_627 (lv_at hl 9 rfl) ?_
      refine lv_iload hx hb dL_law_629 (lv_at hl 5 rfl) ?_
      refine lv_iadd hx hb dL_law_631 ?_
      rw [show ((nI dpn + nI (t.dep k)) : Int32) = (nI (dpn + t.dep k)) from nI_add _ _]
      refine lv_istore (lv' := [(6, .int (nI (dpn + t.dep k))), (5, .int (nI (lfn + if t.sz k = 1 then 1 else 0))), (4, .int (if mh < nI (t.dep k) then nI (t.dep k) else mh)), (19, .int (nI (kN T.1.1 t ca))), (18, .int (nI (kN T.1.1 t o))), (14, .int (nI (t.sz k))), (13, .int (nI (t.dep k))), (9, .int (nI (kN T.1.1 t k))), (8, .int (nI k)), (7, .int rt), (3, .int (nI t.size)), (2, .int tn), (1, .ref (a 0)), (0, .ref sb)]) hx hb dL_law_632 hl (by decide) rfl (fun ls hl => ?_)
      refine lv_iinc (v := (nI (k + 1))) (lv' := [(8, .int (nI (k + 1))), (6, .int (nI (dpn + t.dep k))), (5, .int (nI (lfn + if t.sz k = 1 then 1 else 0))), (4, .int (if mh < nI (t.dep k) then nI (t.dep k) else mh)), (19, .int (nI (kN T.1.1 t ca))), (18, .int (nI (kN T.1.1 t o))), (14, .int (nI (t.sz k))), (13, .int (nI (t.dep k))), (9, .int (nI (kN T.1.1 t k))), (7, .int rt), (3, .int (nI t.size)), (2, .int tn), (1, .ref (a 0)), (0, .ref sb)]) hx hb dL_law_634 hl (k := 8) rfl (by rw [nI_succ]; rfl) (by decide) rfl (fun ls hl => ?_)
      refine lv_goto (tgt := 43) hx hb dL_law_637 (by decide) ?_
      exact kk ls _ _ _ _ M0 (by omega) (by omega) (lv_sub hl [0, 9, 1, 2, 3, 10, 11, 12, 13] rfl)
    have hz9 : t.sz k ≤ 24 := by have := la_ge (t := t) k hk; unfold Tr.sz; omega
    by_cases e1 : t.sz k = 1
    · refine lv_icmp_ne (tgt := 623) hx hb dL_law_616 (by decide) (fun h9 => absurd (by rw [e1]; rfl) h9) (fun _ => ?_)
      refine lv_iconst (v := 1) hx hb dL_law_619 (by decide) ?_
      refine lv_goto (tgt := 624) hx hb dL_law_620 (by decide) ?_
      exact J624 1 (by rw [if_pos e1])
    · refine lv_icmp_ne (tgt := 623) hx hb dL_law_616 (by decide) (fun _ => ?_) (fun h9 => absurd ((nI_eq (b := 1) (by omega) (by decide)).mp h9) e1)
      refine lv_iconst (v := 0) hx hb dL_law_623 (by decide) ?_
      exact J624 0 (by rw [if_neg e1])
  have B : ∀ (z x y : Nat) (ls : Array Slot) (H : Heap) (locs : List Loc) (cells slots : Nat), x < t.size → y < t.size → t.lca x y = ca → t.dep x + t.dep y ≤ z → z ≤ 46 → lwM g a T E A s H locs → cells + 4 * z ≤ cells0 + 186 → slots + 24 * z ≤ slots0 + 1116 → lv_has ls 21 [(20, .int (nI (kN T.1.1 t y))), (19, .int (nI (kN T.1.1 t x))), (18, .int (nI (kN T.1.1 t o))), (14, .int (nI (t.sz k))), (13, .int (nI (t.dep k))), (9, .int (nI (kN T.1.1 t k))), (8, .int (nI k)), (7, .int rt), (6, .int (nI dpn)), (5, .int (nI lfn)), (4, .int mh), (3, .int (nI t.size)), (2, .int tn), (1, .ref (a 0)), (0, .ref sb)] → W p l e R s m #[.ref sb] below meth c H locs cells slots Q (F0 m 514 ls []) := by
    intro z
    induction z with
      | zero =>
        intro x y ls H locs cells slots hx9 hy9 e4 hd hz M0 hc1 hs1 hl
        refine lv_iload hx hb dL_law_514 (lv_at hl 1 rfl) ?_
        refine lv_iload hx hb dL_law_516 (lv_at hl 0 rfl) ?_
        have kx := (kN_ok hw hx9).2
        have ky := (kN_ok hw hy9).2
        by_cases e0 : x = y
        · refine lv_icmp_eq (tgt := 558) hx hb dL_law_518 (by decide) (fun _ => ?_) (fun h9 => absurd (by rw [e0]) h9)
          have e5 : x = ca := by rw [← e4, ← e0]; exact (lca_self hx9).symm
          rw [e5] at hl
          exact J558 ls _ _ _ _ M0 (by omega) (by omega) (lv_sub hl [1, 2, 3, 4, 5, 6, 7, 8, 9, 10, 11, 12, 13, 14] rfl)
        · obtain ⟨q, -, -, -, h8⟩ := lca_step hw hx9 hy9 e0 (by omega)
          omega
      | succ z ih =>
        intro x y ls H locs cells slots hx9 hy9 e4 hd hz M0 hc1 hs1 hl
        refine lv_iload hx hb dL_law_514 (lv_at hl 1 rfl) ?_
        refine lv_iload hx hb dL_law_516 (lv_at hl 0 rfl) ?_
        have kx := (kN_ok hw hx9).2
        have ky := (kN_ok hw hy9).2
        by_cases e0 : x = y
        · refine lv_icmp_eq (tgt := 558) hx hb dL_law_518 (by decide) (fun _ => ?_) (fun h9 => absurd (by rw [e0]) h9)
          have e5 : x = ca := by rw [← e4, ← e0]; exact (lca_self hx9).symm
          rw [e5] at hl
          exact J558 ls _ _ _ _ M0 (by omega) (by omega) (lv_sub hl [1, 2, 3, 4, 5, 6, 7, 8, 9, 10, 11, 12, 13, 14] rfl)
        · refine lv_icmp_eq (tgt := 558) hx hb dL_law_518 (by decide) (fun h9 => absurd (kN_inj hw hx9 hy9 ((nI_eq (by omega) (by omega)).mp h9)) e0) (fun _ => ?_)
          refine lv_aload_n hx hb dL_law_521 rfl (lv_at hl 13 rfl) ?_
          refine lv_iload hx hb dL_law_522 (lv_at hl 1 rfl) ?_
          refine mX C0 M0 (c_X6_depthOf l g a T (nI (kN T.1.1 t x)) C0.2.2.2.2 (.inr (nI (t.dep x))) T (a_depthOf hw hx9)) vv_L_178 (rest := []) rfl rfl hl.1 (Nat.le_of_ble_eq_true rfl) dL_law_524 ⟨by omega, by omega⟩ ⟨by omega, by omega⟩ (fun H locs M0 => ?_)
          refine lv_aload_n hx hb dL_law_527 rfl (lv_at hl 13 rfl) ?_
          refine lv_iload hx hb dL_law_528 (lv_at hl 0 rfl) ?_
          refine mX C0 M0 (c_X6_depthOf l g a T (nI (kN T.1.1 t y)) C0.2.2.2.2 (.inr (nI (t.dep y))) T (a_depthOf hw hy9)) vv_L_178 (rest := [.int (nI (t.dep x))]) rfl rfl hl.1 (Nat.le_of_ble_eq_true rfl) dL_law_530 ⟨by omega, by omega⟩ ⟨by omega, by omega⟩ (fun H locs M0 => ?_)
          by_cases e1 : t.dep y ≤ t.dep x
          · refine lv_icmp_lt (tgt := 547) hx hb dL_law_533 (by decide) (fun h9 => absurd h9 (nI_nlt e1 (by have := (depthIn_ok hw.1 hx9).2; omega))) (fun _ => ?_)
            obtain ⟨q, hq, hch, hlc, h8⟩ := lca_step hw hx9 hy9 e0 e1
            refine lv_aload_n hx hb dL_law_536 rfl (lv_at hl 13 rfl) ?_
            refine lv_iload hx hb dL_law_537 (lv_at hl 1 rfl) ?_
            refine mX C0 M0 (c_X6_parentOf l g a T (nI (kN T.1.1 t x)) C0.2.2.2.2 (.inr (nI (kN T.1.1 t q))) T (a_parentOf hw hq hch)) vv_L_81 (rest := []) rfl rfl hl.1 (Nat.le_of_ble_eq_true rfl) dL_law_539 ⟨by omega, by omega⟩ ⟨by omega, by omega⟩ (fun H locs M0 => ?_)
            refine lv_istore (lv' := [(19, .int (nI (kN T.1.1 t q))), (20, .int (nI (kN T.1.1 t y))), (18, .int (nI (kN T.1.1 t o))), (14, .int (nI (t.sz k))), (13, .int (nI (t.dep k))), (9, .int (nI (kN T.1.1 t k))), (8, .int (nI k)), (7, .int rt), (6, .int (nI dpn)), (5, .int (nI lfn)), (4, .int mh), (3, .int (nI t.size)), (2, .int tn), (1, .ref (a 0)), (0, .ref sb)]) hx hb dL_law_542 hl (by decide) rfl (fun ls hl => ?_)
            refine lv_goto (tgt := 514) hx hb dL_law_544 (by decide) ?_
            exact ih q y ls _ _ _ _ hq hy9 (hlc.trans e4) (by omega) (by omega) M0 (by omega) (by omega) (lv_sub hl [1, 0, 2, 3, 4, 5, 6, 7, 8, 9, 10, 11, 12, 13, 14] rfl)
          · refine lv_icmp_lt (tgt := 547) hx hb dL_law_533 (by decide) (fun _ => ?_) (fun h9 => absurd (nI_lt (Nat.lt_of_not_le e1) (by have := (depthIn_ok hw.1 hy9).2; omega)) h9)
            obtain ⟨q, hq, hch, hlc, h8⟩ := lca_step hw hy9 hx9 (fun h => e0 h.symm) (by omega)
            refine lv_aload_n hx hb dL_law_547 rfl (lv_at hl 13 rfl) ?_
            refine lv_iload hx hb dL_law_548 (lv_at hl 0 rfl) ?_
            refine mX C0 M0 (c_X6_parentOf l g a T (nI (kN T.1.1 t y)) C0.2.2.2.2 (.inr (nI (kN T.1.1 t q))) T (a_parentOf hw hq hch)) vv_L_81 (rest := []) rfl rfl hl.1 (Nat.le_of_ble_eq_true rfl) dL_law_550 ⟨by omega, by omega⟩ ⟨by omega, by omega⟩ (fun H locs M0 => ?_)
            refine lv_istore (lv' := [(20, .int (nI (kN T.1.1 t q))), (19, .int (nI (kN T.1.1 t x))), (18, .int (nI (kN T.1.1 t o))), (14, .int (nI (t.sz k))), (13, .int (nI (t.dep k))), (9, .int (nI (kN T.1.1 t k))), (8, .int (nI k)), (7, .int rt), (6, .int (nI dpn)), (5, .int (nI lfn)), (4, .int mh), (3, .int (nI t.size)), (2, .int tn), (1, .ref (a 0)), (0, .ref sb)]) hx hb dL_law_553 hl (by decide) rfl (fun ls hl => ?_)
            refine lv_goto (tgt := 514) hx hb dL_law_555 (by decide) ?_
            exact ih x q ls _ _ _ _ hx9 hq (by rw [lca_comm, hlc, lca_comm]; exact e4) (by omega) (by omega) M0 (by omega) (by omega) (lv_sub hl [0, 1, 2, 3, 4, 5, 6, 7, 8, 9, 10, 11, 12, 13, 14] rfl)
  refine lv_aload_n hx hb dL_law_490 rfl (lv_at hl 10 rfl) ?_
  refine lv_aload_n hx hb dL_law_491 rfl (lv_at hl 11 rfl) ?_
  refine lv_bipush (v := 90) hx hb dL_law_492 (by decide) ?_
  refine lv_iload hx hb dL_law_494 (lv_at hl 3 rfl) ?_
  refine lv_iadd hx hb dL_law_496 ?_
  rw [show ((90 + nI k) : Int32) = (nI (90 + k)) from nI_add 90 k]
  refine lv_iload_n hx hb dL_law_497 rfl (lv_at hl 8 rfl) ?_
  refine mSo C0 M0 (j := 90 + k) (n := t.size) hL (by omega) (by omega) (by omega) hl.1 (Nat.le_of_ble_eq_true rfl) dL_law_498 ⟨by omega, by omega⟩ ⟨by omega, by omega⟩ (fun H locs M0 => ?_)
  rw [← eo]
  refine mX C0 M0 (c_X6_keyAt l g a T (nI o) C0.2.2.2.2 (.inr (nI (kN T.1.1 t o))) T (a_keyAt hw ho)) vv_L_66 (rest := []) rfl rfl hl.1 (Nat.le_of_ble_eq_true rfl) dL_law_501 ⟨by omega, by omega⟩ ⟨by omega, by omega⟩ (fun H locs M0 => ?_)
  refine lv_istore (lv' := [(18, .int (nI (kN T.1.1 t o))), (14, .int (nI (t.sz k))), (13, .int (nI (t.dep k))), (9, .int (nI (kN T.1.1 t k))), (8, .int (nI k)), (7, .int rt), (6, .int (nI dpn)), (5, .int (nI lfn)), (4, .int mh), (3, .int (nI t.size)), (2, .int tn), (1, .ref (a 0)), (0, .ref sb)]) hx hb dL_law_504 hl (by decide) rfl (fun ls hl => ?_)
  refine lv_iload hx hb dL_law_506 (lv_at hl 3 rfl) ?_
  refine lv_istore (lv' := [(19, .int (nI (kN T.1.1 t k))), (18, .int (nI (kN T.1.1 t o))), (14, .int (nI (t.sz k))), (13, .int (nI (t.dep k))), (9, .int (nI (kN T.1.1 t k))), (8, .int (nI k)), (7, .int rt), (6, .int (nI dpn)), (5, .int (nI lfn)), (4, .int mh), (3, .int (nI t.size)), (2, .int tn), (1, .ref (a 0)), (0, .ref sb)]) hx hb dL_law_508 hl (by decide) rfl (fun ls hl => ?_)
  refine lv_iload hx hb dL_law_510 (lv_at hl 1 rfl) ?_
  refine lv_istore (lv' := [(20, .int (nI (kN T.1.1 t o))), (19, .int (nI (kN T.1.1 t k))), (18, .int (nI (kN T.1.1 t o))), (14, .int (nI (t.sz k))), (13, .int (nI (t.dep k))), (9, .int (nI (kN T.1.1 t k))), (8, .int (nI k)), (7, .int rt), (6, .int (nI dpn)), (5, .int (nI lfn)), (4, .int mh), (3, .int (nI t.size)), (2, .int tn), (1, .ref (a 0)), (0, .ref sb)]) hx hb dL_law_512 hl (by decide) rfl (fun ls hl => ?_)
  exact B (t.dep k + t.dep o) k o ls _ _ _ _ hk ho eca.symm (Nat.le_refl _) (by omega) M0 (by omega) (by omega) (lv_sub hl [0, 1, 2, 3, 4, 5, 6, 7, 8, 9, 10, 11, 12, 13, 14] rfl)
set_option maxHeartbeats 8000000 in
set_option maxRecDepth 100000 in
theorem lK_all {p : Program} {l : Launch} {e : Env} {s : State} {m : MethodId} {below : List Frame} {meth : Method} {c : Code} {H : Heap} {locs : List Loc} {cells0 slots0 : Nat} {Q : State → Prop} {A : Nat → Prop} {g : pq_g} {ad av : Nat → Nat} {sb L : Nat} {xs : Nat → Int32} {E : va_W} {a : Nat → Nat} {T : MainS} {ls : Array Slot} {R : Room} (C0 : lwC p l s m #[.ref sb] c cL_law 21 A g ad av [] sb L xs) (hR : 64 ≤ R.frames ∧ 6000 ≤ R.locals) (hL : L < 2 ^ 31) {t : Tr} (hw : WF T.1.1 t) {rt tn : Int32} (hrt : 0 < t.size → rt = nI (kN T.1.1 t t.rt0)) (kk : ∀ (mh : Int32) (ls : Array Slot) (H : Heap) (locs : List Loc) (cells slots : Nat), isMax t.dep (fun j => j < t.size) mh → lwM g a T E A s H locs → cells ≤ cells0 + 8520 → slots ≤ slots0 + 51120 → lv_has ls 21 [(8, .int (nI t.size)), (7, .int rt), (6, .int (nI (sumR t.dep 0 t.size))), (5, .int (nI (sumR (fun i => if t.sz i = 1 then 1 else 0) 0 t.size))), (4, .int mh), (3, .int (nI t.size)), (2, .int tn), (1, .ref (a 0)), (0, .ref sb)] → W p l e R s m #[.ref sb] below meth c H locs cells slots Q (F0 m 640 ls [])) (hf : cells0 + 8520 ≤ R.cells ∧ slots0 + 51120 ≤ R.slots) : ∀ (z k : Nat) (mh : Int32) (ls : Array Slot) (H : Heap) (locs : List Loc) (cells slots : Nat), k + z = t.size → isMax t.dep (fun j => j < k) mh → lwM g a T E A s H locs → cells ≤ cells0 + 355 * k → slots ≤ slots0 + 2130 * k → lv_has ls 21 [(8, .int (nI k)), (7, .int rt), (6, .int (nI (sumR t.dep 0 k))), (5, .int (nI (sumR (fun i => if t.sz i = 1 then 1 else 0) 0 k))), (4, .int mh), (3, .int (nI t.size)), (2, .int tn), (1, .ref (a 0)), (0, .ref sb)] → W p l e R s m #[.ref sb] below meth c H locs cells slots Q (F0 m 43 ls []) := by
  obtain ⟨hx, hb, hml, hown, hts⟩ := id C0.1
  have h24 := hw.le
  intro z
  induction z with
    | zero =>
      intro k mh ls H locs cells slots hj hm M0 hc1 hs1 hl
      obtain rfl : k = t.size := by omega
      refine lv_iload hx hb dL_law_43 (lv_at hl 0 rfl) ?_
      refine lv_iload_n hx hb dL_law_45 rfl (lv_at hl 5 rfl) ?_
      refine lv_icmp_ge (tgt := 640) hx hb dL_law_46 (by decide) (fun _ => ?_) (fun h9 => absurd (nI_le (Nat.le_refl _) (by omega)) h9)
      exact kk mh ls _ _ _ _ hm M0 (by omega) (by omega) hl
    | succ z ih =>
      intro k mh ls H locs cells slots hj hm M0 hc1 hs1 hl
      have hk : k < t.size := by omega
      refine lK_a C0 hR hL hw hk (hrt (by omega)) M0 (by omega) hl (fun P ls H locs cells1 slots1 M0 hc2 hs2 hl => ?_)
      refine lK_b C0 hR hL hw hk M0 (by omega) hl (fun ls H locs cells2 slots2 M0 hc3 hs3 hl => ?_)
      refine lK_d C0 hR hL hw hk M0 (by omega) hl (fun ls H locs cells3 slots3 M0 hc4 hs4 hl => ?_)
      refine ih (k + 1) _ ls _ _ _ _ (by omega) (isMax_step hm ?_ ?_) M0 (by omega) (by omega) ?_
      · have := (depthIn_ok hw.1 hk).2
        omega
      · intro j hj9
        have := (depthIn_ok hw.1 (i := j) (by omega)).2
        omega
      · rw [sumR_succ, sumR_succ]
        exact hl
