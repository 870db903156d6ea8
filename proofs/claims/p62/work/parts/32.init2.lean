theorem vo_X2 : Cond.methodLink RX2 3 Lib.objectInit ∈ pq_G := pq_in 128 (by decide +kernel) (by decide +kernel)
theorem vi_X2_17 : pq_Iw RX2 17 yX1_init "PrioritySearchTree" cX1_init 1 := ⟨⟨List.mem_of_getElem? (i := 3) rfl, pq_in 57 (by decide +kernel) (by decide +kernel), pq_in 19 (by decide +kernel) (by decide +kernel), pq_in 58 (by decide +kernel) (by decide +kernel)⟩, rfl, by decide +kernel, by decide +kernel, by decide +kernel⟩
theorem vnX2_9 : Cond.classLink RX2 9 RX1 ∈ pq_G ∧ Cond.instantiable RX1 3 ∈ pq_G ∧ Cond.initialized RX1 ∈ pq_G := ⟨pq_in 129 (by decide +kernel) (by decide +kernel), pq_in 55 (by decide +kernel) (by decide +kernel), pq_in 19 (by decide +kernel) (by decide +kernel)⟩
theorem vl_X2_9 : Cond.classLink RX2 9 "PrioritySearchTree$Data" ∈ pq_G := vnX2_9.1
theorem arrV_congr {c : ClassId} {n : Nat} {f g : Nat → Value} (h : ∀ j, j < n → f j = g j) : arrV c n f = arrV c n g := by
  unfold arrV
  have e : (fun j : Fin n => f j) = fun j : Fin n => g j := funext fun j => h j j.2
  rw [e]
theorem pq_fam_congr {F G : Nat → va_W} : ∀ {n : Nat}, (∀ k, k < n → F k = G k) → pq_fam F n = pq_fam G n
  | 0, _ => rfl
  | n + 1, h => by rw [pq_fam, pq_fam, h n (Nat.lt_succ_self n), pq_fam_congr (fun k hk => h k (Nat.lt_succ_of_lt hk))]
theorem dataW_congr {g : pq_g} {a b : Nat → Nat} {T : DataS} (h : ∀ j, j < 13 → a j = b j) : dataW g a T = dataW g b T := by
  have h' : ∀ j : Nat, j + 1 ≤ 13 → a j = b j := fun j hj => h j hj
  simp only [dataW, treeW, winW, pq_sh]
  rw [h' 0 (by decide), h' (0 + 1) (by decide), h' (1 + 1) (by decide), h' (2 + 1) (by decide), h' (3 + 1) (by decide), h' (4 + 1) (by decide), h' (5 + 1) (by decide), h' (6 + 1) (by decide), h' (0 + 8) (by decide), h' (1 + 8) (by decide), h' (2 + 8) (by decide), h' (3 + 8) (by decide), h' (4 + 8) (by decide)]
theorem pq_fam_len {g : pq_g} {F : Nat → Nat → Nat} : ∀ n : Nat, (pq_fam (fun k => dataW g (F k) dataZ) n).length = 13 * n
  | 0 => rfl
  | n + 1 => by
    rw [pq_fam, List.length_append, pq_fam_len n]
    show 13 * n + 13 = 13 * (n + 1)
    omega
def pq_hV (g : pq_g) (b q : Nat) (F : Nat → Nat → Nat) (i : Nat) : va_W := ([(b, .inr (2, [.ref q, .int 0, .int 0]))] ++ [(q, .inl (g.2 2, 8, .inr (.inr (.inr (.inr (fun j => if j < i then some (F j 0) else none))))))]) ++ pq_fam (fun k => dataW g (F k) dataZ) i
theorem pq_hV_succ (g : pq_g) (b q : Nat) (F : Nat → Nat → Nat) (i : Nat) (a : Nat → Nat) : pq_hV g b q (va_up F i a) (i + 1) = (pq_hV g b q F i ++ dataW g a dataZ).set 1 (q, .inl (g.2 2, 8, .inr (.inr (.inr (.inr (va_up (fun j => if j < i then some (F j 0) else none) i (some (a 0)))))))) := by
  have e1 : pq_fam (fun k => dataW g (va_up F i a k) dataZ) (i + 1) = pq_fam (fun k => dataW g (F k) dataZ) i ++ dataW g a dataZ := by
    rw [pq_fam, pq_upf]
    exact congrArg (· ++ dataW g a dataZ) (pq_fam_congr (fun k hk => by show dataW g (va_up F i a k) dataZ = _; rw [pq_upn F a (Nat.ne_of_lt hk)]))
  have e2 : (fun j => if j < i + 1 then some (va_up F i a j 0) else none) = va_up (fun j => if j < i then some (F j 0) else none) i (some (a 0)) := by
    funext j
    by_cases h : j = i
    · subst h
      rw [if_pos (Nat.lt_succ_self _), pq_upf, pq_upf]
    · rw [pq_upn _ _ h, pq_upn _ _ h]
      by_cases h2 : j < i
      · rw [if_pos h2, if_pos (by omega)]
      · rw [if_neg h2, if_neg (by omega)]
  unfold pq_hV
  rw [e1, e2, List.append_assoc, List.append_assoc]
  rfl
set_option maxHeartbeats 4000000 in
set_option maxRecDepth 100000 in
theorem c_X2_init (l : Launch) (g : pq_g) : pq_C l yX2_init cX2_init 2 3 105 1448 g 2 [.null, .int 0, .int 0] (fun a => histW g a histZ) := by
  refine pq_C.of (own := RX2) (by decide) rfl rfl (by decide) ?_
  intro p e s m below meth c ls Q A b S hin hO hP hK hD hS hA hl hend
  obtain ⟨hx, hb, hml, hown, hts⟩ := id S
  refine lv_aload_n hx hb dX2_init_0 rfl (lv_at hl 0 rfl) ?_
  refine pq_obj S vo_X2 vo_m vo_c hl.1 dX2_init_1 (by decide) ?_
  refine lv_aload_n hx hb dX2_init_4 rfl (lv_at hl 0 rfl) ?_
  refine lv_bipush (v := 8) hx hb dX2_init_5 (by decide) ?_
  refine pq_newq S 2 vl_X2_9 hO hK hP hD hS hA (cA := g.2 2) rfl (N' := 8) (by decide) (by decide) (Nat.le_of_ble_eq_true rfl) (Nat.le_of_ble_eq_true rfl) (Nat.le_of_ble_eq_true rfl) dX2_init_7 (fun q H hP hD hS => ?_)
  refine pq_putF S hin hK hP hD hS inX2 tyX2_ok nmX2 0 rfl rfl 0 (by decide) fl_X2_11 rfl rfl (ty := .array (.object "PrioritySearchTree$Data")) (v := .ref q) rfl rfl rfl (Nat.le_of_ble_eq_true rfl) dX2_init_10 (fun H locs hP hD hS => ?_)
  refine lv_iconst (v := 0) hx hb dX2_init_13 (by decide) ?_
  refine lv_istore_n (lv' := [(1, .int 0), (0, .ref b)]) hx hb dX2_init_14 rfl hl (by decide) rfl (fun ls hl => ?_)
  have loop : ∀ (n i : Nat) (F : Nat → Nat → Nat) (H : Heap) (locs : List Loc) (ls : Array Slot), i + n = 8 → va_P g.1 pq_cl (pq_hV g b q F i) H → va_D A (pq_hV g b q F i) → va_S A s.heap H locs → lv_has ls 2 [(1, .int (nI i)), (0, .ref b)] → W p l e (pq_rm 3 105 1448) s m ([.ref b] : List Value).toArray below meth c H locs (1 + 13 * i) (8 + 180 * i) Q (F0 m 15 ls []) := by
    intro n
    induction n with
    | zero =>
      intro i F H locs ls hi hP hD hS hl
      have hi : i = 8 := hi
      subst hi
      refine lv_iload_n hx hb dX2_init_15 rfl (lv_at hl 0 rfl) ?_
      refine lv_aload_n hx hb dX2_init_16 rfl (lv_at hl 1 rfl) ?_
      refine pq_get S hK hP inX2 0 rfl rfl 0 (by decide) fl_X2_11 rfl (v := .ref q) rfl dX2_init_17 ?_
      refine va_alen (v := 8) hx hb hK.1 hP 1 2 rfl rfl rfl dX2_init_20 ?_
      refine lv_icmp_ge (tgt := 43) hx hb dX2_init_21 (by decide) (fun _ => ?_) (fun h9 => absurd (by decide) h9)
      refine hend _ ls _ _ _ _ (fun k => if k = 0 then b else if k = 1 then q else F ((k - 2) / 13) ((k - 2) % 13)) dX2_init_43 rfl ?_ ?_ hS (Nat.le_of_ble_eq_true rfl) (Nat.le_of_ble_eq_true rfl)
      · have ef : pq_fam (fun k => dataW g (F k) dataZ) 8 = pq_fam (fun k => dataW g (pq_sh (fun k => if k = 0 then b else if k = 1 then q else F ((k - 2) / 13) ((k - 2) % 13)) (13 * k + 2)) (histZ.1 k)) 8 := pq_fam_congr (fun k hk => dataW_congr (fun j hj => by
          show _ = if j + (13 * k + 2) = 0 then b else if j + (13 * k + 2) = 1 then q else F ((j + (13 * k + 2) - 2) / 13) ((j + (13 * k + 2) - 2) % 13)
          rw [if_neg (by omega), if_neg (by omega), show (j + (13 * k + 2) - 2) / 13 = k by omega, show (j + (13 * k + 2) - 2) % 13 = j by omega]))
        refine va_P.app (pq_P1 (pq_P1 hP)) (va_P.app ?_ (by rw [← ef]; exact pq_P2 hP))
        have h1 := pq_P2 (pq_P1 hP)
        intro k x hx9
        have hk : k = 0 := by
          have := (List.getElem?_eq_some_iff.mp hx9).1
          simpa using this
        subst hk
        cases hx9
        have h2 : H[q]? = some (vp_cell (g.2 2) (8, .inr (.inr (.inr (.inr (fun j => if j < 8 then some (F j 0) else none)))))) := h1 0 _ rfl
        show H[q]? = some (vp_cell (g.2 2) (8, .inr (.inr (.inr (.inr _)))))
        rw [h2, vp_cell_q, vp_cell_q]
        refine congrArg some (arrV_congr (fun j hj => ?_))
        rw [if_pos hj]
        show va_rf _ = va_rf (some (if 13 * j + 2 = 0 then b else if 13 * j + 2 = 1 then q else F ((13 * j + 2 - 2) / 13) ((13 * j + 2 - 2) % 13)))
        rw [if_neg (by omega), if_neg (by omega), show (13 * j + 2 - 2) / 13 = j by omega, show (13 * j + 2 - 2) % 13 = 0 by omega]
      · refine pq_adr hD ?_
        have ef : pq_fam (fun k => dataW g (F k) dataZ) 8 = pq_fam (fun k => dataW g (pq_sh (fun k => if k = 0 then b else if k = 1 then q else F ((k - 2) / 13) ((k - 2) % 13)) (13 * k + 2)) (histZ.1 k)) 8 := pq_fam_congr (fun k hk => dataW_congr (fun j hj => by
          show _ = if j + (13 * k + 2) = 0 then b else if j + (13 * k + 2) = 1 then q else F ((j + (13 * k + 2) - 2) / 13) ((j + (13 * k + 2) - 2) % 13)
          rw [if_neg (by omega), if_neg (by omega), show (j + (13 * k + 2) - 2) / 13 = k by omega, show (j + (13 * k + 2) - 2) % 13 = j by omega]))
        unfold histW pq_hV
        rw [← ef]
        rfl
    | succ n ih =>
      intro i F H locs ls hi hP hD hS hl
      refine lv_iload_n hx hb dX2_init_15 rfl (lv_at hl 0 rfl) ?_
      refine lv_aload_n hx hb dX2_init_16 rfl (lv_at hl 1 rfl) ?_
      refine pq_get S hK hP inX2 0 rfl rfl 0 (by decide) fl_X2_11 rfl (v := .ref q) rfl dX2_init_17 ?_
      refine va_alen (v := nI 8) hx hb hK.1 hP 1 2 rfl rfl rfl dX2_init_20 ?_
      refine lv_icmp_ge (tgt := 43) hx hb dX2_init_21 (by decide) (fun h9 => absurd h9 (nI_ge (show i < 8 by omega) (show 8 < 2 ^ 31 by decide))) (fun _ => ?_)
      refine lv_aload_n hx hb dX2_init_24 rfl (lv_at hl 1 rfl) ?_
      refine pq_get S hK hP inX2 0 rfl rfl 0 (by decide) fl_X2_11 rfl (v := .ref q) rfl dX2_init_25 ?_
      refine lv_iload_n hx hb dX2_init_28 rfl (lv_at hl 0 rfl) ?_
      refine pq_new S inX1 tyX1 tyX1_ok vnX2_9.1 vnX2_9.2.1 vnX2_9.2.2 hK hP hD hS hA (ci := 1) rfl (fs := [.null, .null, .int 0]) (by decide +kernel) (by show 1 + 13 * i + 1 ≤ 105; omega) (by show 8 + 180 * i + 3 ≤ 1448; omega) dX2_init_29 (fun q1 H hP hD hS => ?_)
      refine lv_dup hx hb dX2_init_32 rfl ?_
      refine pq_cI S (c_X1_init l g) vi_X2_17 hO hK hP hD hS hA hl.1 (Nat.le_of_ble_eq_true rfl) dX2_init_33 (by decide) (by decide) (by constructor <;> omega) (fun a1 H locs e1 hP9 hD9 hS9 => ?_)
      clear hP hD hS
      subst e1
      refine va_astq hx hb hK.1 hP9 hD9 hS9 1 2 (2 + 13 * i) 1 (r := (RX1, TX1, 3)) (vs := [.ref (a1 1), .ref (a1 8), .int 0]) rfl rfl ?_ rfl (vp_in_nI (show i < 8 by omega) (by decide)) dX2_init_36 (fun H locs hP hD hS => ?_)
      · rw [List.getElem?_append_right (by unfold pq_hV; rw [List.length_append, pq_fam_len]; exact Nat.le_refl _)]
        rw [show 2 + 13 * i - (pq_hV g b q F i).length = 0 by unfold pq_hV; rw [List.length_append, pq_fam_len]; exact Nat.sub_self _]
        rfl
      clear hP9 hD9 hS9
      rw [nI_clamp (show i < 2 ^ 31 by omega)] at hP hD
      rw [← pq_hV_succ] at hP hD
      refine lv_iinc (v := nI (i + 1)) (lv' := [(1, .int (nI (i + 1))), (0, .ref b)]) hx hb dX2_init_37 hl (k := 0) rfl (nI_succ i).symm (by decide) rfl (fun ls hl => ?_)
      refine lv_goto (tgt := 15) hx hb dX2_init_40 (by decide) ?_
      exact W.widen (by omega) (by omega) (ih (i + 1) (va_up F i a1) H locs ls (by omega) hP hD hS hl)
  refine loop 8 0 (fun _ _ => 0) H locs ls rfl ?_ ?_ hS hl
  · exact hP
  · exact hD
theorem pq_hfam {g : pq_g} {a b : Nat → Nat} {T : HistS} (h : ∀ j, j < 106 → a j = b j) : pq_fam (fun k => dataW g (pq_sh a (13 * k + 2)) (T.1 k)) 8 = pq_fam (fun k => dataW g (pq_sh b (13 * k + 2)) (T.1 k)) 8 := pq_fam_congr (fun k hk => dataW_congr (fun j hj => h _ (by omega)))
theorem histA_congr {g : pq_g} {a b : Nat → Nat} {T : HistS} (h : ∀ j, j < 106 → a j = b j) : (histW g b T).map (fun q => q.1) = (histW g a T).map (fun q => q.1) := by
  unfold histW
  rw [← pq_hfam h, h 0 (by decide), h 1 (by decide)]
  rfl
theorem histP_congr {D : va_G} {cl : List vw_C} {H : Heap} {g : pq_g} {a b : Nat → Nat} {T : HistS} (h : ∀ j, j < 106 → a j = b j) (hP : va_P D cl (histW g a T) H) : va_P D cl (histW g b T) H := by
  unfold histW at hP ⊢
  rw [← pq_hfam h, ← h 0 (by decide), ← h 1 (by decide)]
  refine va_P.app (pq_P1 hP) (va_P.app ?_ (pq_P2 (pq_P2 hP)))
  have h1 := pq_P1 (pq_P2 hP)
  intro k x hx9
  have hk : k = 0 := by
    have := (List.getElem?_eq_some_iff.mp hx9).1
    simpa using this
  subst hk
  cases hx9
  have h2 : H[a 1]? = some (vp_cell (g.2 2) (8, .inr (.inr (.inr (.inr (fun i => some (a (13 * i + 2)))))))) := h1 0 _ rfl
  show H[a 1]? = some (vp_cell (g.2 2) (8, .inr (.inr (.inr (.inr _)))))
  rw [h2, vp_cell_q, vp_cell_q]
  exact congrArg some (arrV_congr (fun j hj => by rw [h _ (by omega)]))
theorem cmdW_congr {g : pq_g} {a b : Nat → Nat} {T : CmdS} (h : ∀ j, j < 4 → a j = b j) : cmdW g a T = cmdW g b T := by
  unfold cmdW
  rw [h 0 (by decide), h 1 (by decide), h 2 (by decide), h 3 (by decide)]
theorem outW_congr {g : pq_g} {a b : Nat → Nat} {T : OutS} (h : ∀ j, j < 2 → a j = b j) : outW g a T = outW g b T := by
  unfold outW
  rw [h 0 (by decide), h 1 (by decide)]
def pq_mA (b : Nat) (a1 a14 a27 a40 a146 a150 : Nat → Nat) : Nat → Nat := fun k => if k = 0 then b else if k < 14 then a1 (k - 1) else if k < 27 then a14 (k - 14) else if k < 40 then a27 (k - 27) else if k < 146 then a40 (k - 40) else if k < 150 then a146 (k - 146) else a150 (k - 150)
theorem vo_X6 : Cond.methodLink RX6 3 Lib.objectInit ∈ pq_G := pq_in 51 (by decide +kernel) (by decide +kernel)
theorem vi_X6_11 : pq_Iw RX6 11 yX1_init "PrioritySearchTree" cX1_init 1 := ⟨⟨List.mem_of_getElem? (i := 0) rfl, pq_in 57 (by decide +kernel) (by decide +kernel), pq_in 19 (by decide +kernel) (by decide +kernel), pq_in 58 (by decide +kernel) (by decide +kernel)⟩, rfl, by decide +kernel, by decide +kernel, by decide +kernel⟩
theorem vi_X6_24 : pq_Iq RX6 24 yX2_init cX2_init 2 := ⟨⟨pq_in 125 (by decide +kernel) (by decide +kernel), pq_in 126 (by decide +kernel) (by decide +kernel), pq_in 22 (by decide +kernel) (by decide +kernel), pq_in 127 (by decide +kernel) (by decide +kernel)⟩, rfl, by decide +kernel, by decide +kernel, by decide +kernel⟩
theorem vi_X6_31 : pq_Iw RX6 31 yX0_init "PrioritySearchTree" cX0_init 1 := ⟨⟨List.mem_of_getElem? (i := 4) rfl, pq_in 145 (by decide +kernel) (by decide +kernel), pq_in 23 (by decide +kernel) (by decide +kernel), pq_in 146 (by decide +kernel) (by decide +kernel)⟩, rfl, by decide +kernel, by decide +kernel, by decide +kernel⟩
theorem vi_X6_38 : pq_Iw RX6 38 yX3_init "PrioritySearchTree" cX3_init 1 := ⟨⟨List.mem_of_getElem? (i := 5) rfl, pq_in 167 (by decide +kernel) (by decide +kernel), pq_in 24 (by decide +kernel) (by decide +kernel), pq_in 168 (by decide +kernel) (by decide +kernel)⟩, rfl, by decide +kernel, by decide +kernel, by decide +kernel⟩
theorem vnX6_9 : Cond.classLink RX6 9 RX1 ∈ pq_G ∧ Cond.instantiable RX1 3 ∈ pq_G ∧ Cond.initialized RX1 ∈ pq_G := ⟨pq_in 54 (by decide +kernel) (by decide +kernel), pq_in 55 (by decide +kernel) (by decide +kernel), pq_in 19 (by decide +kernel) (by decide +kernel)⟩
theorem vnX6_22 : Cond.classLink RX6 22 RX2 ∈ pq_G ∧ Cond.instantiable RX2 3 ∈ pq_G ∧ Cond.initialized RX2 ∈ pq_G := ⟨pq_in 123 (by decide +kernel) (by decide +kernel), pq_in 124 (by decide +kernel) (by decide +kernel), pq_in 22 (by decide +kernel) (by decide +kernel)⟩
theorem vnX6_29 : Cond.classLink RX6 29 RX0 ∈ pq_G ∧ Cond.instantiable RX0 6 ∈ pq_G ∧ Cond.initialized RX0 ∈ pq_G := ⟨pq_in 142 (by decide +kernel) (by decide +kernel), pq_in 143 (by decide +kernel) (by decide +kernel), pq_in 23 (by decide +kernel) (by decide +kernel)⟩
theorem vnX6_36 : Cond.classLink RX6 36 RX3 ∈ pq_G ∧ Cond.instantiable RX3 2 ∈ pq_G ∧ Cond.initialized RX3 ∈ pq_G := ⟨pq_in 164 (by decide +kernel) (by decide +kernel), pq_in 165 (by decide +kernel) (by decide +kernel), pq_in 24 (by decide +kernel) (by decide +kernel)⟩
set_option maxHeartbeats 4000000 in
set_option maxRecDepth 100000 in
theorem c_X6_init (l : Launch) (g : pq_g) : pq_C l yX6_init cX6_init 1 4 151 2347 g 6 [.null, .null, .null, .int 0, .null, .null, .null, .int 0, .int 0, .int 0, .int 0] (fun a => mainW g a mainZ) := by
  refine pq_C.of (own := RX6) (by decide) rfl rfl (by decide) ?_
  intro p e s m below meth c ls Q A b S hin hO hP hK hD hS hA hl hend
  obtain ⟨hx, hb, hml, hown, hts⟩ := id S
  refine lv_aload_n hx hb dX6_init_0 rfl (lv_at hl 0 rfl) ?_
  refine pq_obj S vo_X6 vo_m vo_c hl.1 dX6_init_1 (by decide) ?_
  refine lv_aload_n hx hb dX6_init_4 rfl (lv_at hl 0 rfl) ?_
  refine pq_new S inX1 tyX1 tyX1_ok vnX6_9.1 vnX6_9.2.1 vnX6_9.2.2 hK hP hD hS hA (ci := 1) rfl (fs := [.null, .null, .int 0]) (by decide +kernel) (Nat.le_of_ble_eq_true rfl) (Nat.le_of_ble_eq_true rfl) dX6_init_5 (fun q1 H hP hD hS => ?_)
  refine lv_dup hx hb dX6_init_8 rfl ?_
  refine pq_cI S (c_X1_init l g) vi_X6_11 hO hK hP hD hS hA hl.1 (Nat.le_of_ble_eq_true rfl) dX6_init_9 (by decide) (by decide) ⟨Nat.le_of_ble_eq_true rfl, Nat.le_of_ble_eq_true rfl⟩ (fun a1 H locs e1 hP9 hD9 hS9 => ?_)
  clear hP hD hS
  subst e1
  have hP := hP9
  have hD := hD9
  have hS := hS9
  clear hP9 hD9 hS9
  refine pq_putF S hin hK hP hD hS inX6 tyX6_ok nmX6 0 rfl rfl 0 (by decide) fl_X6_12 rfl rfl (ty := .object "PrioritySearchTree$Data") (v := .ref (a1 0)) rfl rfl rfl (Nat.le_of_ble_eq_true rfl) dX6_init_12 (fun H locs hP hD hS => ?_)
  replace hP : va_P g.1 pq_cl (([(b, .inr (6, [.ref (a1 0), .null, .null, .int 0, .null, .null, .null, .int 0, .int 0, .int 0, .int 0]))] : va_W) ++ dataW g a1 dataZ) H := hP
  replace hD : va_D A (([(b, .inr (6, [.ref (a1 0), .null, .null, .int 0, .null, .null, .null, .int 0, .int 0, .int 0, .int 0]))] : va_W) ++ dataW g a1 dataZ) := hD
  refine lv_aload_n hx hb dX6_init_15 rfl (lv_at hl 0 rfl) ?_
  refine pq_new S inX1 tyX1 tyX1_ok vnX6_9.1 vnX6_9.2.1 vnX6_9.2.2 hK hP hD hS hA (ci := 1) rfl (fs := [.null, .null, .int 0]) (by decide +kernel) (Nat.le_of_ble_eq_true rfl) (Nat.le_of_ble_eq_true rfl) dX6_init_16 (fun q2 H hP hD hS => ?_)
  refine lv_dup hx hb dX6_init_19 rfl ?_
  refine pq_cI S (c_X1_init l g) vi_X6_11 hO hK hP hD hS hA hl.1 (Nat.le_of_ble_eq_true rfl) dX6_init_20 (by decide) (by decide) ⟨Nat.le_of_ble_eq_true rfl, Nat.le_of_ble_eq_true rfl⟩ (fun a14 H locs e14 hP9 hD9 hS9 => ?_)
  clear hP hD hS
  subst e14
  have hP := hP9
  have hD := hD9
  have hS := hS9
  clear hP9 hD9 hS9
  refine pq_putF S hin hK hP hD hS inX6 tyX6_ok nmX6 0 rfl rfl 1 (by decide) fl_X6_16 rfl rfl (ty := .object "PrioritySearchTree$Data") (v := .ref (a14 0)) rfl rfl rfl (Nat.le_of_ble_eq_true rfl) dX6_init_23 (fun H locs hP hD hS => ?_)
  replace hP : va_P g.1 pq_cl ((([(b, .inr (6, [.ref (a1 0), .ref (a14 0), .null, .int 0, .null, .null, .null, .int 0, .int 0, .int 0, .int 0]))] : va_W) ++ dataW g a1 dataZ) ++ dataW g a14 dataZ) H := hP
  replace hD : va_D A ((([(b, .inr (6, [.ref (a1 0), .ref (a14 0), .null, .int 0, .null, .null, .null, .int 0, .int 0, .int 0, .int 0]))] : va_W) ++ dataW g a1 dataZ) ++ dataW g a14 dataZ) := hD
  refine lv_aload_n hx hb dX6_init_26 rfl (lv_at hl 0 rfl) ?_
  refine pq_new S inX1 tyX1 tyX1_ok vnX6_9.1 vnX6_9.2.1 vnX6_9.2.2 hK hP hD hS hA (ci := 1) rfl (fs := [.null, .null, .int 0]) (by decide +kernel) (Nat.le_of_ble_eq_true rfl) (Nat.le_of_ble_eq_true rfl) dX6_init_27 (fun q3 H hP hD hS => ?_)
  refine lv_dup hx hb dX6_init_30 rfl ?_
  refine pq_cI S (c_X1_init l g) vi_X6_11 hO hK hP hD hS hA hl.1 (Nat.le_of_ble_eq_true rfl) dX6_init_31 (by decide) (by decide) ⟨Nat.le_of_ble_eq_true rfl, Nat.le_of_ble_eq_true rfl⟩ (fun a27 H locs e27 hP9 hD9 hS9 => ?_)
  clear hP hD hS
  subst e27
  have hP := hP9
  have hD := hD9
  have hS := hS9
  clear hP9 hD9 hS9
  refine pq_putF S hin hK hP hD hS inX6 tyX6_ok nmX6 0 rfl rfl 2 (by decide) fl_X6_19 rfl rfl (ty := .object "PrioritySearchTree$Data") (v := .ref (a27 0)) rfl rfl rfl (Nat.le_of_ble_eq_true rfl) dX6_init_34 (fun H locs hP hD hS => ?_)
  replace hP : va_P g.1 pq_cl (((([(b, .inr (6, [.ref (a1 0), .ref (a14 0), .ref (a27 0), .int 0, .null, .null, .null, .int 0, .int 0, .int 0, .int 0]))] : va_W) ++ dataW g a1 dataZ) ++ dataW g a14 dataZ) ++ dataW g a27 dataZ) H := hP
  replace hD : va_D A (((([(b, .inr (6, [.ref (a1 0), .ref (a14 0), .ref (a27 0), .int 0, .null, .null, .null, .int 0, .int 0, .int 0, .int 0]))] : va_W) ++ dataW g a1 dataZ) ++ dataW g a14 dataZ) ++ dataW g a27 dataZ) := hD
  refine lv_aload_n hx hb dX6_init_37 rfl (lv_at hl 0 rfl) ?_
  refine pq_new S inX2 tyX2 tyX2_ok vnX6_22.1 vnX6_22.2.1 vnX6_22.2.2 hK hP hD hS hA (ci := 2) rfl (fs := [.null, .int 0, .int 0]) (by decide +kernel) (Nat.le_of_ble_eq_true rfl) (Nat.le_of_ble_eq_true rfl) dX6_init_38 (fun q4 H hP hD hS => ?_)
  refine lv_dup hx hb dX6_init_41 rfl ?_
  refine pq_cIq S (c_X2_init l g) vi_X6_24 hO hK hP hD hS hA hl.1 (Nat.le_of_ble_eq_true rfl) dX6_init_42 ⟨by decide, by decide⟩ ⟨Nat.le_of_ble_eq_true rfl, Nat.le_of_ble_eq_true rfl⟩ (fun a40 H locs e40 hP9 hD9 hS9 => ?_)
  clear hP hD hS
  subst e40
  have hP := hP9
  have hD := hD9
  have hS := hS9
  clear hP9 hD9 hS9
  refine pq_putF S hin hK hP hD hS inX6 tyX6_ok nmX6 0 rfl rfl 4 (by decide) fl_X6_25 rfl rfl (ty := .object "PrioritySearchTree$History") (v := .ref (a40 0)) rfl rfl rfl (Nat.le_of_ble_eq_true rfl) dX6_init_45 (fun H locs hP hD hS => ?_)
  replace hP : va_P g.1 pq_cl ((((([(b, .inr (6, [.ref (a1 0), .ref (a14 0), .ref (a27 0), .int 0, .ref (a40 0), .null, .null, .int 0, .int 0, .int 0, .int 0]))] : va_W) ++ dataW g a1 dataZ) ++ dataW g a14 dataZ) ++ dataW g a27 dataZ) ++ histW g a40 histZ) H := hP
  replace hD : va_D A ((((([(b, .inr (6, [.ref (a1 0), .ref (a14 0), .ref (a27 0), .int 0, .ref (a40 0), .null, .null, .int 0, .int 0, .int 0, .int 0]))] : va_W) ++ dataW g a1 dataZ) ++ dataW g a14 dataZ) ++ dataW g a27 dataZ) ++ histW g a40 histZ) := hD
  refine lv_aload_n hx hb dX6_init_48 rfl (lv_at hl 0 rfl) ?_
  refine pq_new S inX0 tyX0 tyX0_ok vnX6_29.1 vnX6_29.2.1 vnX6_29.2.2 hK hP hD hS hA (ci := 0) rfl (fs := [.null, .int 0, .int 0, .null, .null, .int 0]) (by decide +kernel) (Nat.le_of_ble_eq_true rfl) (Nat.le_of_ble_eq_true rfl) dX6_init_49 (fun q5 H hP hD hS => ?_)
  refine lv_dup hx hb dX6_init_52 rfl ?_
  refine pq_cI S (c_X0_init l g) vi_X6_31 hO hK hP hD hS hA hl.1 (Nat.le_of_ble_eq_true rfl) dX6_init_53 (by decide) (by decide) ⟨Nat.le_of_ble_eq_true rfl, Nat.le_of_ble_eq_true rfl⟩ (fun a146 H locs e146 hP9 hD9 hS9 => ?_)
  clear hP hD hS
  subst e146
  have hP := hP9
  have hD := hD9
  have hS := hS9
  clear hP9 hD9 hS9
  refine pq_putF S hin hK hP hD hS inX6 tyX6_ok nmX6 0 rfl rfl 5 (by decide) fl_X6_32 rfl rfl (ty := .object "PrioritySearchTree$Commands") (v := .ref (a146 0)) rfl rfl rfl (Nat.le_of_ble_eq_true rfl) dX6_init_56 (fun H locs hP hD hS => ?_)
  replace hP : va_P g.1 pq_cl (((((([(b, .inr (6, [.ref (a1 0), .ref (a14 0), .ref (a27 0), .int 0, .ref (a40 0), .ref (a146 0), .null, .int 0, .int 0, .int 0, .int 0]))] : va_W) ++ dataW g a1 dataZ) ++ dataW g a14 dataZ) ++ dataW g a27 dataZ) ++ histW g a40 histZ) ++ cmdW g a146 cmdZ) H := hP
  replace hD : va_D A (((((([(b, .inr (6, [.ref (a1 0), .ref (a14 0), .ref (a27 0), .int 0, .ref (a40 0), .ref (a146 0), .null, .int 0, .int 0, .int 0, .int 0]))] : va_W) ++ dataW g a1 dataZ) ++ dataW g a14 dataZ) ++ dataW g a27 dataZ) ++ histW g a40 histZ) ++ cmdW g a146 cmdZ) := hD
  refine lv_aload_n hx hb dX6_init_59 rfl (lv_at hl 0 rfl) ?_
  refine pq_new S inX3 tyX3 tyX3_ok vnX6_36.1 vnX6_36.2.1 vnX6_36.2.2 hK hP hD hS hA (ci := 3) rfl (fs := [.null, .int 0]) (by decide +kernel) (Nat.le_of_ble_eq_true rfl) (Nat.le_of_ble_eq_true rfl) dX6_init_60 (fun q6 H hP hD hS => ?_)
  refine lv_dup hx hb dX6_init_63 rfl ?_
  refine pq_cI S (c_X3_init l g) vi_X6_38 hO hK hP hD hS hA hl.1 (Nat.le_of_ble_eq_true rfl) dX6_init_64 (by decide) (by decide) ⟨Nat.le_of_ble_eq_true rfl, Nat.le_of_ble_eq_true rfl⟩ (fun a150 H locs e150 hP9 hD9 hS9 => ?_)
  clear hP hD hS
  subst e150
  have hP := hP9
  have hD := hD9
  have hS := hS9
  clear hP9 hD9 hS9
  refine pq_putF S hin hK hP hD hS inX6 tyX6_ok nmX6 0 rfl rfl 6 (by decide) fl_X6_39 rfl rfl (ty := .object "PrioritySearchTree$Output") (v := .ref (a150 0)) rfl rfl rfl (Nat.le_of_ble_eq_true rfl) dX6_init_67 (fun H locs hP hD hS => ?_)
  replace hP : va_P g.1 pq_cl ((((((([(b, .inr (6, [.ref (a1 0), .ref (a14 0), .ref (a27 0), .int 0, .ref (a40 0), .ref (a146 0), .ref (a150 0), .int 0, .int 0, .int 0, .int 0]))] : va_W) ++ dataW g a1 dataZ) ++ dataW g a14 dataZ) ++ dataW g a27 dataZ) ++ histW g a40 histZ) ++ cmdW g a146 cmdZ) ++ outW g a150 outZ) H := hP
  replace hD : va_D A ((((((([(b, .inr (6, [.ref (a1 0), .ref (a14 0), .ref (a27 0), .int 0, .ref (a40 0), .ref (a146 0), .ref (a150 0), .int 0, .int 0, .int 0, .int 0]))] : va_W) ++ dataW g a1 dataZ) ++ dataW g a14 dataZ) ++ dataW g a27 dataZ) ++ histW g a40 histZ) ++ cmdW g a146 cmdZ) ++ outW g a150 outZ) := hD
  refine lv_aload_n hx hb dX6_init_70 rfl (lv_at hl 0 rfl) ?_
  refine lv_iconst (v := (-1)) hx hb dX6_init_71 (by decide) ?_
  refine pq_putf S hK hP hD hS inX6 tyX6_ok nmX6 0 rfl rfl 7 (by decide) fl_X6_43 rfl rfl (ty := .int) rfl rfl rfl (Nat.le_of_ble_eq_true rfl) dX6_init_72 (fun H locs hP hS => ?_)
  replace hD := pq_adr (ws' := ((((((([(b, .inr (6, [.ref (a1 0), .ref (a14 0), .ref (a27 0), .int 0, .ref (a40 0), .ref (a146 0), .ref (a150 0), .int (-1), .int 0, .int 0, .int 0]))] : va_W) ++ dataW g a1 dataZ) ++ dataW g a14 dataZ) ++ dataW g a27 dataZ) ++ histW g a40 histZ) ++ cmdW g a146 cmdZ) ++ outW g a150 outZ)) hD rfl
  replace hP : va_P g.1 pq_cl ((((((([(b, .inr (6, [.ref (a1 0), .ref (a14 0), .ref (a27 0), .int 0, .ref (a40 0), .ref (a146 0), .ref (a150 0), .int (-1), .int 0, .int 0, .int 0]))] : va_W) ++ dataW g a1 dataZ) ++ dataW g a14 dataZ) ++ dataW g a27 dataZ) ++ histW g a40 histZ) ++ cmdW g a146 cmdZ) ++ outW g a150 outZ) H := hP
  replace hD : va_D A ((((((([(b, .inr (6, [.ref (a1 0), .ref (a14 0), .ref (a27 0), .int 0, .ref (a40 0), .ref (a146 0), .ref (a150 0), .int (-1), .int 0, .int 0, .int 0]))] : va_W) ++ dataW g a1 dataZ) ++ dataW g a14 dataZ) ++ dataW g a27 dataZ) ++ histW g a40 histZ) ++ cmdW g a146 cmdZ) ++ outW g a150 outZ) := hD
  refine lv_aload_n hx hb dX6_init_75 rfl (lv_at hl 0 rfl) ?_
  refine lv_iconst (v := 0) hx hb dX6_init_76 (by decide) ?_
  refine pq_putf S hK hP hD hS inX6 tyX6_ok nmX6 0 rfl rfl 8 (by decide) fl_X6_47 rfl rfl (ty := .int) rfl rfl rfl (Nat.le_of_ble_eq_true rfl) dX6_init_77 (fun H locs hP hS => ?_)
  replace hD := pq_adr (ws' := ((((((([(b, .inr (6, [.ref (a1 0), .ref (a14 0), .ref (a27 0), .int 0, .ref (a40 0), .ref (a146 0), .ref (a150 0), .int (-1), .int 0, .int 0, .int 0]))] : va_W) ++ dataW g a1 dataZ) ++ dataW g a14 dataZ) ++ dataW g a27 dataZ) ++ histW g a40 histZ) ++ cmdW g a146 cmdZ) ++ outW g a150 outZ)) hD rfl
  replace hP : va_P g.1 pq_cl ((((((([(b, .inr (6, [.ref (a1 0), .ref (a14 0), .ref (a27 0), .int 0, .ref (a40 0), .ref (a146 0), .ref (a150 0), .int (-1), .int 0, .int 0, .int 0]))] : va_W) ++ dataW g a1 dataZ) ++ dataW g a14 dataZ) ++ dataW g a27 dataZ) ++ histW g a40 histZ) ++ cmdW g a146 cmdZ) ++ outW g a150 outZ) H := hP
  replace hD : va_D A ((((((([(b, .inr (6, [.ref (a1 0), .ref (a14 0), .ref (a27 0), .int 0, .ref (a40 0), .ref (a146 0), .ref (a150 0), .int (-1), .int 0, .int 0, .int 0]))] : va_W) ++ dataW g a1 dataZ) ++ dataW g a14 dataZ) ++ dataW g a27 dataZ) ++ histW g a40 histZ) ++ cmdW g a146 cmdZ) ++ outW g a150 outZ) := hD
  refine lv_aload_n hx hb dX6_init_80 rfl (lv_at hl 0 rfl) ?_
  refine lv_iconst (v := 0) hx hb dX6_init_81 (by decide) ?_
  refine pq_putf S hK hP hD hS inX6 tyX6_ok nmX6 0 rfl rfl 10 (by decide) fl_X6_50 rfl rfl (ty := .int) rfl rfl rfl (Nat.le_of_ble_eq_true rfl) dX6_init_82 (fun H locs hP hS => ?_)
  replace hD := pq_adr (ws' := ((((((([(b, .inr (6, [.ref (a1 0), .ref (a14 0), .ref (a27 0), .int 0, .ref (a40 0), .ref (a146 0), .ref (a150 0), .int (-1), .int 0, .int 0, .int 0]))] : va_W) ++ dataW g a1 dataZ) ++ dataW g a14 dataZ) ++ dataW g a27 dataZ) ++ histW g a40 histZ) ++ cmdW g a146 cmdZ) ++ outW g a150 outZ)) hD rfl
  replace hP : va_P g.1 pq_cl ((((((([(b, .inr (6, [.ref (a1 0), .ref (a14 0), .ref (a27 0), .int 0, .ref (a40 0), .ref (a146 0), .ref (a150 0), .int (-1), .int 0, .int 0, .int 0]))] : va_W) ++ dataW g a1 dataZ) ++ dataW g a14 dataZ) ++ dataW g a27 dataZ) ++ histW g a40 histZ) ++ cmdW g a146 cmdZ) ++ outW g a150 outZ) H := hP
  replace hD : va_D A ((((((([(b, .inr (6, [.ref (a1 0), .ref (a14 0), .ref (a27 0), .int 0, .ref (a40 0), .ref (a146 0), .ref (a150 0), .int (-1), .int 0, .int 0, .int 0]))] : va_W) ++ dataW g a1 dataZ) ++ dataW g a14 dataZ) ++ dataW g a27 dataZ) ++ histW g a40 histZ) ++ cmdW g a146 cmdZ) ++ outW g a150 outZ) := hD
  have eW : mainW g (pq_mA b a1 a14 a27 a40 a146 a150) mainZ = [(b, .inr (6, [.ref (a1 0), .ref (a14 0), .ref (a27 0), .int 0, .ref (a40 0), .ref (a146 0), .ref (a150 0), .int (-1), .int 0, .int 0, .int 0]))] ++ (dataW g a1 dataZ ++ (dataW g a14 dataZ ++ (dataW g a27 dataZ ++ (histW g (pq_sh (pq_mA b a1 a14 a27 a40 a146 a150) 40) histZ ++ (cmdW g a146 cmdZ ++ outW g a150 outZ))))) := by
    unfold mainW
    rw [dataW_congr (a := pq_sh _ 1) (b := a1) (fun j hj => by simp only [pq_sh, pq_mA]; rw [if_neg (by omega), if_pos (by omega), Nat.add_sub_cancel])]
    rw [dataW_congr (a := pq_sh _ 14) (b := a14) (fun j hj => by simp only [pq_sh, pq_mA]; rw [if_neg (by omega), if_neg (by omega), if_pos (by omega), Nat.add_sub_cancel])]
    rw [dataW_congr (a := pq_sh _ 27) (b := a27) (fun j hj => by simp only [pq_sh, pq_mA]; rw [if_neg (by omega), if_neg (by omega), if_neg (by omega), if_pos (by omega), Nat.add_sub_cancel])]
    rw [cmdW_congr (a := pq_sh _ 146) (b := a146) (fun j hj => by simp only [pq_sh, pq_mA]; rw [if_neg (by omega), if_neg (by omega), if_neg (by omega), if_neg (by omega), if_neg (by omega), if_pos (by omega), Nat.add_sub_cancel])]
    rw [outW_congr (a := pq_sh _ 150) (b := a150) (fun j hj => by simp only [pq_sh, pq_mA]; rw [if_neg (by omega), if_neg (by omega), if_neg (by omega), if_neg (by omega), if_neg (by omega), if_neg (by omega), Nat.add_sub_cancel])]
    rfl
  have eH : ∀ j, j < 106 → a40 j = pq_sh (pq_mA b a1 a14 a27 a40 a146 a150) 40 j := fun j hj => by simp only [pq_sh, pq_mA]; rw [if_neg (by omega), if_neg (by omega), if_neg (by omega), if_neg (by omega), if_pos (by omega), Nat.add_sub_cancel]
  refine hend _ ls _ _ _ _ (pq_mA b a1 a14 a27 a40 a146 a150) dX6_init_85 rfl ?_ ?_ hS (Nat.le_of_ble_eq_true rfl) (Nat.le_of_ble_eq_true rfl)
  · rw [eW]
    exact va_P.app (pq_P1 (pq_P1 (pq_P1 (pq_P1 (pq_P1 (pq_P1 hP)))))) (va_P.app (pq_P2 (pq_P1 (pq_P1 (pq_P1 (pq_P1 (pq_P1 hP)))))) (va_P.app (pq_P2 (pq_P1 (pq_P1 (pq_P1 (pq_P1 hP))))) (va_P.app (pq_P2 (pq_P1 (pq_P1 (pq_P1 hP)))) (va_P.app (histP_congr eH (pq_P2 (pq_P1 (pq_P1 hP)))) (va_P.app (pq_P2 (pq_P1 hP)) (pq_P2 hP))))))
  · rw [eW]
    refine pq_adr hD ?_
    simp only [List.map_append, List.append_assoc]
    rw [histA_congr (T := histZ) eH]
