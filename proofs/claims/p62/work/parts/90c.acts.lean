/-! ===== the law's acts: what a helper makes of a call ===== -/
abbrev rsn (T : MainS) : Int32 := T.2.2.2.2.2.2.2.2.1
theorem a_rejection {T : MainS} (h : rsn T ≠ 0) : f_X6_rejectionReason T = some (.inr (rsn T), T) := by
  unfold f_X6_rejectionReason f_X6_requireRejection
  rw [if_neg h]; rfl
theorem pz_hE_ok {E : String} {T1 : MainS} (hu : E = UOE → rsn T1 ≠ 0) : ∀ (hs : List (String × Option Int32)) (k x : Int32), pq_cdF (hs.map (fun q => q.1)) k E = some x → (∀ q ∈ hs, q.2 = none → q.1 = UOE) → ∃ r, pz_hE hs E T1 = some (r, T1)
  | [], _, _, h, _ => by cases h
  | (c, some v) :: cs, k, x, h, hn => by
    rw [pz_hE]
    by_cases e : E = c
    · exact ⟨v, if_pos e⟩
    · rw [if_neg e]
      rw [List.map_cons, pq_cdF, if_neg e] at h
      exact pz_hE_ok hu cs (k + 1) x h (fun q hq => hn q (List.mem_cons_of_mem _ hq))
  | (c, none) :: cs, k, x, h, hn => by
    rw [pz_hE]
    by_cases e : E = c
    · have hc : c = UOE := hn (c, none) List.mem_cons_self rfl
      rw [if_pos e, a_rejection (hu (e.trans hc))]
      exact ⟨_, rfl⟩
    · rw [if_neg e]
      rw [List.map_cons, pq_cdF, if_neg e] at h
      exact pz_hE_ok hu cs (k + 1) x h (fun q hq => hn q (List.mem_cons_of_mem _ hq))
theorem pz_h_ok {o : String ⊕ Int32} {T1 : MainS} {x : Int32} (hs : List (String × Option Int32)) (hc : pq_cd (hs.map (fun q => q.1)) o = some x) (hn : ∀ q ∈ hs, q.2 = none → q.1 = UOE) (hu : o = .inl UOE → rsn T1 ≠ 0) : ∃ r, pz_h hs (some (o, T1)) = some (r, T1) := by
  rcases o with E | v
  · exact pz_hE_ok (fun h => hu (by rw [h])) hs 1 x hc hn
  · exact ⟨v, rfl⟩
theorem uo_tu {α : Type} {T T1 : MainS} {o : Option ((String ⊕ α) × Unit)} {k : α → Option ((String ⊕ Int32) × MainS)} (h : pq_tu T o k = some (.inl UOE, T1)) (ho : ∀ t, o ≠ some (.inl UOE, t)) : ∃ a t, o = some (.inr a, t) ∧ k a = some (.inl UOE, T1) := by
  rcases pq_tuE h with ⟨E, t, e, hz⟩ | h9
  · obtain ⟨h1, -⟩ := Prod.mk.inj hz
    obtain rfl := Sum.inl.inj h1
    exact absurd e (ho t)
  · exact h9
theorem uo_tr {α : Type} {T1 : MainS} {o : Option ((String ⊕ α) × MainS)} {k : α → MainS → Option ((String ⊕ Int32) × MainS)} (h : pq_tr o k = some (.inl UOE, T1)) (ho : ∀ t, o ≠ some (.inl UOE, t)) : ∃ a t, o = some (.inr a, t) ∧ k a t = some (.inl UOE, T1) := by
  rcases pq_trE h with ⟨E, t, e, hz⟩ | h9
  · obtain ⟨h1, -⟩ := Prod.mk.inj hz
    obtain rfl := Sum.inl.inj h1
    exact absurd e (ho t)
  · exact h9
theorem uo_no {α σ : Type} {E : String} (hE : E ≠ UOE) {s t : σ} : (some (.inl E, s) : Option ((String ⊕ α) × σ)) ≠ some (.inl UOE, t) := fun h => hE (Sum.inl.inj (Prod.mk.inj (Option.some.inj h)).1)
theorem uo_num (x : Int32) : ∀ t, f_X6_requireNumber x ≠ some (.inl UOE, t) := fun t => by
  rcases num_cases x with ⟨k, k1, rfl⟩ | hn
  · rw [reqN_ok k1]; intro h; cases h
  · rw [reqN_no hn]; exact uo_no (by decide)
theorem uo_win (x : Int32) : ∀ t, f_X6_requireWindow x ≠ some (.inl UOE, t) := fun t => by
  rcases win_cases x with ⟨k, k1, rfl⟩ | hn
  · rw [reqW_ok k1]; intro h; cases h
  · rw [reqW_no hn]; exact uo_no (by decide)
theorem uo_rng (x y : Int32) : ∀ t, f_X6_requireRange x y ≠ some (.inl UOE, t) := fun t => by
  rcases range_cases x y with ⟨lo, hi, l1, l2, rfl, rfl, c1, -⟩ | ⟨c1, -⟩
  · rw [c1]; intro h; cases h
  · rw [c1]; exact uo_no (by decide)
theorem uo_pt {T : MainS} {t : Tr} (h : WF T.1.1 t) (K : Int32) : ∀ t1, f_X6_requirePoint T K ≠ some (.inl UOE, t1) := fun t1 => by
  rcases key_cases (T := T.1.1) t K with ⟨i, hi, e⟩ | hm
  · rw [reqP_hit h hi e]; intro h; cases h
  · rw [reqP_miss h hm]; exact uo_no (by decide)
theorem uo_rej {T T1 : MainS} {q d : Int32} (hq : ¬ q = 0) (h : (f_X6_reject T q d).bind (fun q15 => (some (.inl UOE, q15) : Option ((String ⊕ Int32) × MainS))) = some (.inl UOE, T1)) : rsn T1 ≠ 0 := by
  obtain rfl : (T.1, T.2.1, T.2.2.1, T.2.2.2.1, T.2.2.2.2.1, T.2.2.2.2.2.1, T.2.2.2.2.2.2.1, T.2.2.2.2.2.2.2.1, q, d, (0 : Int32)) = T1 := (Prod.mk.inj (Option.some.inj h)).2
  exact hq
theorem uo_inr {α β : Type} {o : Option α} {f : α → β} {v : α → Int32} {T1 : MainS} {g : α → MainS} (h : o.bind (fun q => (some (.inr (v q), g q) : Option ((String ⊕ Int32) × MainS))) = some (.inl UOE, T1)) : False := by
  obtain ⟨a, -, h2⟩ := pq_bind h
  cases h2
theorem uo_insert {T T1 : MainS} {p1 p2 : Int32} (h : f_X6_insert T p1 p2 = some (.inl UOE, T1)) : rsn T1 ≠ 0 := by
  unfold f_X6_insert at h
  obtain ⟨_, _, _, h⟩ := uo_tu h (uo_num p1)
  obtain ⟨_, _, _, h⟩ := uo_tu h (uo_num p2)
  obtain ⟨q, _, h⟩ := pq_bind h
  by_cases e : q = 0
  · rw [if_pos e] at h
    obtain ⟨_, _, h⟩ := pq_bind h
    obtain ⟨_, _, h⟩ := pq_bind h
    cases h
  · rw [if_neg e] at h
    obtain ⟨d, _, h⟩ := pq_bind h
    exact uo_rej e h
theorem uo_changePriority {T T1 : MainS} {t : Tr} (hw : WF T.1.1 t) {p1 p2 : Int32} (h : f_X6_changePriority T p1 p2 = some (.inl UOE, T1)) : rsn T1 ≠ 0 := by
  unfold f_X6_changePriority at h
  obtain ⟨_, T3, _, h⟩ := uo_tr h (uo_pt hw p1)
  obtain ⟨_, _, _, h⟩ := uo_tu h (uo_num p2)
  obtain ⟨q, _, h⟩ := pq_bind h
  by_cases e : q = 0
  · rw [if_pos e] at h
    obtain ⟨_, _, h⟩ := pq_bind h
    obtain ⟨_, _, h⟩ := pq_bind h
    cases h
  · rw [if_neg e] at h
    obtain ⟨d, _, h⟩ := pq_bind h
    exact uo_rej e h
theorem uo_moveKey {T T1 : MainS} {t : Tr} (hw : WF T.1.1 t) {p1 p2 : Int32} (h : f_X6_moveKey T p1 p2 = some (.inl UOE, T1)) : rsn T1 ≠ 0 := by
  unfold f_X6_moveKey at h
  obtain ⟨_, T3, _, h⟩ := uo_tr h (uo_pt hw p1)
  obtain ⟨_, _, _, h⟩ := uo_tu h (uo_num p2)
  obtain ⟨q, _, h⟩ := pq_bind h
  by_cases e : q = 0
  · rw [if_pos e] at h
    obtain ⟨_, _, h⟩ := pq_bind h
    obtain ⟨_, _, h⟩ := pq_bind h
    cases h
  · rw [if_neg e] at h
    obtain ⟨_, _, h⟩ := pq_bind h
    obtain ⟨d, _, h⟩ := pq_bind h
    exact uo_rej e h
theorem uo_setWindow {T T1 : MainS} {p1 p2 p3 p4 p5 : Int32} (h : f_X6_setWindow T p1 p2 p3 p4 p5 = some (.inl UOE, T1)) : rsn T1 ≠ 0 := by
  unfold f_X6_setWindow at h
  obtain ⟨_, _, _, h⟩ := uo_tu h (uo_win p1)
  obtain ⟨_, _, _, h⟩ := uo_tu h (uo_rng p2 p3)
  obtain ⟨_, _, _, h⟩ := uo_tu h (uo_num p4)
  obtain ⟨q, _, h⟩ := pq_bind h
  by_cases e : q = 0
  · rw [if_pos e] at h
    exact absurd h (uo_no (by decide))
  · rw [if_neg e] at h
    obtain ⟨q2, _, h⟩ := pq_bind h
    by_cases e2 : q2 = 0
    · rw [if_pos e2] at h
      obtain ⟨_, _, h⟩ := pq_bind h
      obtain ⟨_, _, h⟩ := pq_bind h
      obtain ⟨_, _, h⟩ := pq_bind h
      cases h
    · rw [if_neg e2] at h
      exact uo_rej e2 h
theorem hA_insert {T : MainS} {M : ModS} (h : PR T M) (p1 p2 : Int32) : ∃ (r : Int32) (T1 : MainS) (M1 : ModS), h_insert T p1 p2 = some (r, T1) ∧ PR T1 M1 := by
  obtain ⟨t, hw, -, -⟩ := h.now
  obtain ⟨o, T1, b, M1, h1, -, h3, h4, -⟩ := ma_insert T M p1 p2 h
  unfold h_insert
  rw [h1]
  obtain ⟨r, hr⟩ := pz_h_ok (o := o) (T1 := T1) [("java/lang/IllegalArgumentException", some (-20000)), ("java/lang/UnsupportedOperationException", none)] h4 (by intro q hq; simp only [List.mem_cons, List.not_mem_nil, or_false] at hq; rcases hq with rfl | rfl <;> intro h9 <;> first | rfl | cases h9) (fun e => uo_insert (by rw [h1, e]))
  exact ⟨r, T1, M1, hr, h3⟩
theorem hA_delete {T : MainS} {M : ModS} (h : PR T M) (p1 : Int32) : ∃ (r : Int32) (T1 : MainS) (M1 : ModS), h_delete T p1 = some (r, T1) ∧ PR T1 M1 := by
  obtain ⟨t, hw, -, -⟩ := h.now
  obtain ⟨o, T1, b, M1, h1, -, h3, h4, -⟩ := ma_delete T M p1 h
  unfold h_delete
  rw [h1]
  obtain ⟨r, hr⟩ := pz_h_ok (o := o) (T1 := T1) [("java/util/NoSuchElementException", some (-30000))] h4 (by intro q hq; rw [List.mem_singleton] at hq; subst hq; intro h9; cases h9) (fun e => by rw [e, show pq_cd (α := Int32) ["java/util/NoSuchElementException"] (.inl UOE) = none by decide +kernel] at h4; cases h4)
  exact ⟨r, T1, M1, hr, h3⟩
theorem hA_changePriority {T : MainS} {M : ModS} (h : PR T M) (p1 p2 : Int32) : ∃ (r : Int32) (T1 : MainS) (M1 : ModS), h_changePriority T p1 p2 = some (r, T1) ∧ PR T1 M1 := by
  obtain ⟨t, hw, -, -⟩ := h.now
  obtain ⟨o, T1, b, M1, h1, -, h3, h4, -⟩ := ma_changePriority T M p1 p2 h
  unfold h_changePriority
  rw [h1]
  obtain ⟨r, hr⟩ := pz_h_ok (o := o) (T1 := T1) [("java/util/NoSuchElementException", some (-30000)), ("java/lang/IllegalArgumentException", some (-20000)), ("java/lang/UnsupportedOperationException", none)] h4 (by intro q hq; simp only [List.mem_cons, List.not_mem_nil, or_false] at hq; rcases hq with rfl | rfl | rfl <;> intro h9 <;> first | rfl | cases h9) (fun e => uo_changePriority hw (by rw [h1, e]))
  exact ⟨r, T1, M1, hr, h3⟩
theorem hA_moveKey {T : MainS} {M : ModS} (h : PR T M) (p1 p2 : Int32) : ∃ (r : Int32) (T1 : MainS) (M1 : ModS), h_moveKey T p1 p2 = some (r, T1) ∧ PR T1 M1 := by
  obtain ⟨t, hw, -, -⟩ := h.now
  obtain ⟨o, T1, b, M1, h1, -, h3, h4, -⟩ := ma_moveKey T M p1 p2 h
  unfold h_moveKey
  rw [h1]
  obtain ⟨r, hr⟩ := pz_h_ok (o := o) (T1 := T1) [("java/util/NoSuchElementException", some (-30000)), ("java/lang/IllegalArgumentException", some (-20000)), ("java/lang/UnsupportedOperationException", none)] h4 (by intro q hq; simp only [List.mem_cons, List.not_mem_nil, or_false] at hq; rcases hq with rfl | rfl | rfl <;> intro h9 <;> first | rfl | cases h9) (fun e => uo_moveKey hw (by rw [h1, e]))
  exact ⟨r, T1, M1, hr, h3⟩
theorem hA_deleteRange {T : MainS} {M : ModS} (h : PR T M) (p1 p2 : Int32) : ∃ (r : Int32) (T1 : MainS) (M1 : ModS), h_deleteRange T p1 p2 = some (r, T1) ∧ PR T1 M1 := by
  obtain ⟨t, hw, -, -⟩ := h.now
  obtain ⟨o, T1, b, M1, h1, -, h3, h4, -⟩ := ma_deleteRange T M p1 p2 h
  unfold h_deleteRange
  rw [h1]
  obtain ⟨r, hr⟩ := pz_h_ok (o := o) (T1 := T1) [("java/lang/IllegalArgumentException", some (-20000))] h4 (by intro q hq; rw [List.mem_singleton] at hq; subst hq; intro h9; cases h9) (fun e => by rw [e, show pq_cd (α := Int32) ["java/lang/IllegalArgumentException"] (.inl UOE) = none by decide +kernel] at h4; cases h4)
  exact ⟨r, T1, M1, hr, h3⟩
theorem hA_setWindow {T : MainS} {M : ModS} (h : PR T M) (p1 p2 p3 p4 p5 : Int32) : ∃ (r : Int32) (T1 : MainS) (M1 : ModS), h_setWindow T p1 p2 p3 p4 p5 = some (r, T1) ∧ PR T1 M1 := by
  obtain ⟨t, hw, -, -⟩ := h.now
  obtain ⟨o, T1, b, M1, h1, -, h3, h4, -⟩ := ma_setWindow T M p1 p2 p3 p4 p5 h
  unfold h_setWindow
  rw [h1]
  obtain ⟨r, hr⟩ := pz_h_ok (o := o) (T1 := T1) [("java/lang/IndexOutOfBoundsException", some (-25000)), ("java/lang/IllegalArgumentException", some (-20000)), ("java/lang/UnsupportedOperationException", none)] h4 (by intro q hq; simp only [List.mem_cons, List.not_mem_nil, or_false] at hq; rcases hq with rfl | rfl | rfl <;> intro h9 <;> first | rfl | cases h9) (fun e => uo_setWindow (by rw [h1, e]))
  exact ⟨r, T1, M1, hr, h3⟩
theorem hA_removeWindow {T : MainS} {M : ModS} (h : PR T M) (p1 : Int32) : ∃ (r : Int32) (T1 : MainS) (M1 : ModS), h_removeWindow T p1 = some (r, T1) ∧ PR T1 M1 := by
  obtain ⟨t, hw, -, -⟩ := h.now
  obtain ⟨o, T1, b, M1, h1, -, h3, h4, -⟩ := ma_removeWindow T M p1 h
  unfold h_removeWindow
  rw [h1]
  obtain ⟨r, hr⟩ := pz_h_ok (o := o) (T1 := T1) [("java/lang/IndexOutOfBoundsException", some (-25000)), ("java/util/NoSuchElementException", some (-30000))] h4 (by intro q hq; simp only [List.mem_cons, List.not_mem_nil, or_false] at hq; rcases hq with rfl | rfl <;> intro h9 <;> first | rfl | cases h9) (fun e => by rw [e, show pq_cd (α := Int32) ["java/lang/IndexOutOfBoundsException", "java/util/NoSuchElementException"] (.inl UOE) = none by decide +kernel] at h4; cases h4)
  exact ⟨r, T1, M1, hr, h3⟩
set_option maxHeartbeats 4000000 in
set_option maxRecDepth 100000 in
theorem c_L_acts (l : Launch) (g : pq_g) (ad av : Nat → Nat) (sb L : Nat) (xs : Nat → Int32) (a : Nat → Nat) (T : MainS) (M : ModS) (hst : l.stackTraces = false) (hL9 : L < 2 ^ 31) (hPR : PR T M) (k : Nat) (hk : k < 1000) : lM l yL_acts cL_acts 8 none 10 8 48 g ad av [] sb L xs (mainW g a T) [.ref (a 0), .ref sb, .int (nI k)] (fun r _ H => r = none ∧ ∃ (T1 : MainS) (M1 : ModS), PR T1 M1 ∧ va_P g.1 pq_cl (mainW g a T1) H) := by
  obtain ⟨t, hw, -, -⟩ := id hPR.now
  have h24 := hw.le
  refine lM.of (own := RL) (by decide) rfl (Nat.le_of_ble_eq_true rfl) rfl ?_
  intro p e s m below meth c ls Q A S hin hP hK hD hS hA hAw hI hl hend
  obtain ⟨hx, hb, hml, hown, hts⟩ := id S
  have C0 : lwC p l s m _ c cL_acts 8 A g ad av [] sb L xs := ⟨S, hK, hA, hI, hst⟩
  have M0 : lwM g a T [] A s s.heap [] := ⟨va_P.app hP pq_P0, pq_Da hD pq_D0 (fun _ _ q hq => absurd hq List.not_mem_nil), hS⟩
  have hE : ∀ (T1 : MainS) (M1 : ModS) (ls : Array Slot) (H : Heap) (locs : List Loc) (cells slots : Nat), PR T1 M1 → lwM g a T1 [] A s H locs → cells ≤ 8 → slots ≤ 48 → W p l e (pq_rm 10 8 48) s m [.ref (a 0), .ref sb, .int (nI k)].toArray below meth c H locs cells slots Q (F0 m 271 ls []) := fun T1 M1 ls H locs cells slots h1 h2 h3 h4 => hend _ _ _ _ _ _ _ _ (sRet.v dL_acts_271) ⟨rfl, T1, M1, h1, h2.P⟩ h2.2.2 h3 h4
  generalize hv : lsome xs L (k + 1) 100 = v
  generalize hp : lsome xs L (k + 2) 100 = q
  generalize hc : lsome xs L k 14 = d
  have hd14 : d < 14 := by rw [← hc]; exact Nat.mod_lt _ (by decide)
  refine lv_aload_n hx hb dL_acts_0 rfl (lv_at hl 1 rfl) ?_
  refine lv_iload_n hx hb dL_acts_1 rfl (lv_at hl 2 rfl) ?_
  refine lv_iconst (v := 1) hx hb dL_acts_2 (by decide) ?_
  refine lv_iadd hx hb dL_acts_3 ?_
  rw [show ((nI k + 1) : Int32) = (nI (k + 1)) from nI_1 k]
  refine lv_bipush (v := 100) hx hb dL_acts_4 (by decide) ?_
  refine mS0 C0 M0 (c_L_some l g ad av [] sb L xs (k + 1) 100 hL9 (by omega) (by omega) (by omega)) vs_L_90 rfl rfl hl.1 (Nat.le_of_ble_eq_true rfl) dL_acts_6 ⟨Nat.le_of_ble_eq_true rfl, Nat.le_of_ble_eq_true rfl⟩ ⟨by show _ ≤ 8; omega, by show _ ≤ 48; omega⟩ (fun H locs M0 => ?_)
  rw [hv]
  refine lv_istore_n (lv' := [(3, .int (nI v)), (0, .ref (a 0)), (1, .ref sb), (2, .int (nI k))]) hx hb dL_acts_9 rfl hl (by decide) rfl (fun ls hl => ?_)
  refine lv_aload_n hx hb dL_acts_10 rfl (lv_at hl 2 rfl) ?_
  refine lv_iload_n hx hb dL_acts_11 rfl (lv_at hl 3 rfl) ?_
  refine lv_iconst (v := 2) hx hb dL_acts_12 (by decide) ?_
  refine lv_iadd hx hb dL_acts_13 ?_
  rw [show ((nI k + 2) : Int32) = (nI (k + 2)) from nI_a2 k]
  refine lv_bipush (v := 100) hx hb dL_acts_14 (by decide) ?_
  refine mS0 C0 M0 (c_L_some l g ad av [] sb L xs (k + 2) 100 hL9 (by omega) (by omega) (by omega)) vs_L_90 rfl rfl hl.1 (Nat.le_of_ble_eq_true rfl) dL_acts_16 ⟨Nat.le_of_ble_eq_true rfl, Nat.le_of_ble_eq_true rfl⟩ ⟨by show _ ≤ 8; omega, by show _ ≤ 48; omega⟩ (fun H locs M0 => ?_)
  rw [hp]
  refine lv_istore (lv' := [(4, .int (nI q)), (3, .int (nI v)), (0, .ref (a 0)), (1, .ref sb), (2, .int (nI k))]) hx hb dL_acts_19 hl (by decide) rfl (fun ls hl => ?_)
  refine lv_aload_n hx hb dL_acts_21 rfl (lv_at hl 2 rfl) ?_
  refine mR C0 M0 (c_X6_size l g a T (nI t.size) (a_size hw)) vv_L_101 (As := []) rfl rfl hl.1 (Nat.le_of_ble_eq_true rfl) dL_acts_22 ⟨Nat.le_of_ble_eq_true rfl, Nat.le_of_ble_eq_true rfl⟩ ⟨by show _ ≤ 8; omega, by show _ ≤ 48; omega⟩ ?_
  refine lv_istore (lv' := [(5, .int (nI t.size)), (4, .int (nI q)), (3, .int (nI v)), (0, .ref (a 0)), (1, .ref sb), (2, .int (nI k))]) hx hb dL_acts_25 hl (by decide) rfl (fun ls hl => ?_)
  refine lv_iload hx hb dL_acts_27 (lv_at hl 0 rfl) ?_
  have J49 : ∀ (K : Int32) (ls : Array Slot) (H : Heap) (locs : List Loc) (cells slots : Nat), lwM g a T [] A s H locs → cells ≤ 1 → slots ≤ 6 → lv_has ls 8 [(5, .int (nI t.size)), (4, .int (nI q)), (3, .int (nI v)), (0, .ref (a 0)), (1, .ref sb), (2, .int (nI k))] → W p l e (pq_rm 10 8 48) s m [.ref (a 0), .ref sb, .int (nI k)].toArray below meth c H locs cells slots Q (F0 m 49 ls [.int K]) := by
    intro K ls H locs cells slots M0 hc1 hs1 hl
    refine lv_istore (lv' := [(6, .int K), (5, .int (nI t.size)), (4, .int (nI q)), (3, .int (nI v)), (0, .ref (a 0)), (1, .ref sb), (2, .int (nI k))]) hx hb dL_acts_49 hl (by decide) rfl (fun ls hl => ?_)
    refine lv_aload_n hx hb dL_acts_51 rfl (lv_at hl 5 rfl) ?_
    refine lv_iload_n hx hb dL_acts_52 rfl (lv_at hl 6 rfl) ?_
    refine lv_bipush (v := 14) hx hb dL_acts_53 (by decide) ?_
    refine mS0 C0 M0 (c_L_some l g ad av [] sb L xs (k) 14 hL9 (by omega) (by omega) (by omega)) vs_L_90 rfl rfl hl.1 (Nat.le_of_ble_eq_true rfl) dL_acts_55 ⟨Nat.le_of_ble_eq_true rfl, Nat.le_of_ble_eq_true rfl⟩ ⟨by show _ ≤ 8; omega, by show _ ≤ 48; omega⟩ (fun H locs M0 => ?_)
    rw [hc]
    have k124 : W p l e (pq_rm 10 8 48) s m [.ref (a 0), .ref sb, .int (nI k)].toArray below meth c H locs cells slots Q (F0 m 124 ls []) := by
      refine lv_iload hx hb dL_acts_124 (lv_at hl 1 rfl) ?_
      refine lv_bipush (v := 18) hx hb dL_acts_126 (by decide) ?_
      by_cases h18 : t.size < 18
      · refine lv_icmp_ge (tgt := 144) hx hb dL_acts_128 (by decide) (fun h9 => absurd h9 (nI_ge (b := 18) h18 (by decide))) (fun _ => ?_)
        refine lv_aload_n hx hb dL_acts_131 rfl (lv_at hl 4 rfl) ?_
        refine lv_iload_n hx hb dL_acts_132 rfl (lv_at hl 3 rfl) ?_
        refine lv_iload hx hb dL_acts_133 (lv_at hl 2 rfl) ?_
        refine lv_bipush (v := 20) hx hb dL_acts_135 (by decide) ?_
        refine lv_irem hx hb dL_acts_137 (by decide) ?_
        obtain ⟨r, T1, M1, e1, e2⟩ := hA_insert hPR (nI v) (nI q - nI q / 20 * 20)
        refine mH C0 M0 (c_L_insert l g a T (nI v) (nI q - nI q / 20 * 20) hst r T1 e1) vh_L_94 rfl rfl hl.1 (Nat.le_of_ble_eq_true rfl) dL_acts_138 ⟨Nat.le_of_ble_eq_true rfl, Nat.le_of_ble_eq_true rfl⟩ ⟨by show _ ≤ 8; omega, by show _ ≤ 48; omega⟩ (fun H locs M0 => ?_)
        refine lv_goto (tgt := 145) hx hb dL_acts_141 (by decide) ?_
        refine lv_istore (lv' := [(7, .int r), (6, .int K), (5, .int (nI t.size)), (4, .int (nI q)), (3, .int (nI v)), (0, .ref (a 0)), (1, .ref sb), (2, .int (nI k))]) hx hb dL_acts_145 hl (by decide) rfl (fun ls hl => ?_)
        refine lv_goto (tgt := 271) hx hb dL_acts_147 (by decide) ?_
        exact hE T1 M1 ls _ _ _ _ e2 M0 (by omega) (by omega)
      · refine lv_icmp_ge (tgt := 144) hx hb dL_acts_128 (by decide) (fun _ => ?_) (fun h9 => absurd (nI_le (a := 18) (Nat.le_of_not_lt h18) (by omega)) h9)
        refine lv_iconst (v := 0) hx hb dL_acts_144 (by decide) ?_
        refine lv_istore (lv' := [(7, .int 0), (6, .int K), (5, .int (nI t.size)), (4, .int (nI q)), (3, .int (nI v)), (0, .ref (a 0)), (1, .ref sb), (2, .int (nI k))]) hx hb dL_acts_145 hl (by decide) rfl (fun ls hl => ?_)
        refine lv_goto (tgt := 271) hx hb dL_acts_147 (by decide) ?_
        exact hE T M ls _ _ _ _ hPR M0 (by omega) (by omega)
    have k150 : W p l e (pq_rm 10 8 48) s m [.ref (a 0), .ref sb, .int (nI k)].toArray below meth c H locs cells slots Q (F0 m 150 ls []) := by
      refine lv_iload hx hb dL_acts_150 (lv_at hl 1 rfl) ?_
      refine lv_iconst (v := 4) hx hb dL_acts_152 (by decide) ?_
      by_cases h18 : t.size ≤ 4
      · refine lv_icmp_le (tgt := 165) hx hb dL_acts_153 (by decide) (fun _ => ?_) (fun h9 => absurd (nI_le (b := 4) h18 (by decide)) h9)
        refine lv_iconst (v := 0) hx hb dL_acts_165 (by decide) ?_
        refine lv_istore (lv' := [(7, .int 0), (6, .int K), (5, .int (nI t.size)), (4, .int (nI q)), (3, .int (nI v)), (0, .ref (a 0)), (1, .ref sb), (2, .int (nI k))]) hx hb dL_acts_166 hl (by decide) rfl (fun ls hl => ?_)
        refine lv_goto (tgt := 271) hx hb dL_acts_168 (by decide) ?_
        exact hE T M ls _ _ _ _ hPR M0 (by omega) (by omega)
      · refine lv_icmp_le (tgt := 165) hx hb dL_acts_153 (by decide) (fun h9 => absurd h9 (nI_ge (a := 4) (Nat.lt_of_not_le h18) (by omega))) (fun _ => ?_)
        refine lv_aload_n hx hb dL_acts_156 rfl (lv_at hl 4 rfl) ?_
        refine lv_iload hx hb dL_acts_157 (lv_at hl 0 rfl) ?_
        obtain ⟨r, T1, M1, e1, e2⟩ := hA_delete hPR K
        refine mH C0 M0 (c_L_delete l g a T K hst r T1 e1) vh_L_104 rfl rfl hl.1 (Nat.le_of_ble_eq_true rfl) dL_acts_159 ⟨Nat.le_of_ble_eq_true rfl, Nat.le_of_ble_eq_true rfl⟩ ⟨by show _ ≤ 8; omega, by show _ ≤ 48; omega⟩ (fun H locs M0 => ?_)
        refine lv_goto (tgt := 166) hx hb dL_acts_162 (by decide) ?_
        refine lv_istore (lv' := [(7, .int r), (6, .int K), (5, .int (nI t.size)), (4, .int (nI q)), (3, .int (nI v)), (0, .ref (a 0)), (1, .ref sb), (2, .int (nI k))]) hx hb dL_acts_166 hl (by decide) rfl (fun ls hl => ?_)
        refine lv_goto (tgt := 271) hx hb dL_acts_168 (by decide) ?_
        exact hE T1 M1 ls _ _ _ _ e2 M0 (by omega) (by omega)
    have k171 : W p l e (pq_rm 10 8 48) s m [.ref (a 0), .ref sb, .int (nI k)].toArray below meth c H locs cells slots Q (F0 m 171 ls []) := by
      refine lv_aload_n hx hb dL_acts_171 rfl (lv_at hl 4 rfl) ?_
      refine lv_iload hx hb dL_acts_172 (lv_at hl 0 rfl) ?_
      refine lv_iload hx hb dL_acts_174 (lv_at hl 2 rfl) ?_
      obtain ⟨r, T1, M1, e1, e2⟩ := hA_changePriority hPR K (nI q)
      refine mH C0 M0 (c_L_changePriority l g a T K (nI q) hst r T1 e1) vh_L_107 rfl rfl hl.1 (Nat.le_of_ble_eq_true rfl) dL_acts_176 ⟨Nat.le_of_ble_eq_true rfl, Nat.le_of_ble_eq_true rfl⟩ ⟨by show _ ≤ 8; omega, by show _ ≤ 48; omega⟩ (fun H locs M0 => ?_)
      refine lv_istore (lv' := [(7, .int r), (6, .int K), (5, .int (nI t.size)), (4, .int (nI q)), (3, .int (nI v)), (0, .ref (a 0)), (1, .ref sb), (2, .int (nI k))]) hx hb dL_acts_179 hl (by decide) rfl (fun ls hl => ?_)
      refine lv_goto (tgt := 271) hx hb dL_acts_181 (by decide) ?_
      exact hE T1 M1 ls _ _ _ _ e2 M0 (by omega) (by omega)
    have k184 : W p l e (pq_rm 10 8 48) s m [.ref (a 0), .ref sb, .int (nI k)].toArray below meth c H locs cells slots Q (F0 m 184 ls []) := by
      refine lv_aload_n hx hb dL_acts_184 rfl (lv_at hl 4 rfl) ?_
      refine lv_iload hx hb dL_acts_185 (lv_at hl 0 rfl) ?_
      refine lv_iload_n hx hb dL_acts_187 rfl (lv_at hl 3 rfl) ?_
      obtain ⟨r, T1, M1, e1, e2⟩ := hA_moveKey hPR K (nI v)
      refine mH C0 M0 (c_L_moveKey l g a T K (nI v) hst r T1 e1) vh_L_109 rfl rfl hl.1 (Nat.le_of_ble_eq_true rfl) dL_acts_188 ⟨Nat.le_of_ble_eq_true rfl, Nat.le_of_ble_eq_true rfl⟩ ⟨by show _ ≤ 8; omega, by show _ ≤ 48; omega⟩ (fun H locs M0 => ?_)
      refine lv_istore (lv' := [(7, .int r), (6, .int K), (5, .int (nI t.size)), (4, .int (nI q)), (3, .int (nI v)), (0, .ref (a 0)), (1, .ref sb), (2, .int (nI k))]) hx hb dL_acts_191 hl (by decide) rfl (fun ls hl => ?_)
      refine lv_goto (tgt := 271) hx hb dL_acts_193 (by decide) ?_
      exact hE T1 M1 ls _ _ _ _ e2 M0 (by omega) (by omega)
    have k196 : W p l e (pq_rm 10 8 48) s m [.ref (a 0), .ref sb, .int (nI k)].toArray below meth c H locs cells slots Q (F0 m 196 ls []) := by
      refine lv_iload hx hb dL_acts_196 (lv_at hl 1 rfl) ?_
      refine lv_bipush (v := 6) hx hb dL_acts_198 (by decide) ?_
      by_cases h18 : t.size ≤ 6
      · refine lv_icmp_le (tgt := 220) hx hb dL_acts_200 (by decide) (fun _ => ?_) (fun h9 => absurd (nI_le (b := 6) h18 (by decide)) h9)
        refine lv_iconst (v := 0) hx hb dL_acts_220 (by decide) ?_
        refine lv_istore (lv' := [(7, .int 0), (6, .int K), (5, .int (nI t.size)), (4, .int (nI q)), (3, .int (nI v)), (0, .ref (a 0)), (1, .ref sb), (2, .int (nI k))]) hx hb dL_acts_221 hl (by decide) rfl (fun ls hl => ?_)
        refine lv_goto (tgt := 271) hx hb dL_acts_223 (by decide) ?_
        exact hE T M ls _ _ _ _ hPR M0 (by omega) (by omega)
      · refine lv_icmp_le (tgt := 220) hx hb dL_acts_200 (by decide) (fun h9 => absurd h9 (nI_ge (a := 6) (Nat.lt_of_not_le h18) (by omega))) (fun _ => ?_)
        refine lv_aload_n hx hb dL_acts_203 rfl (lv_at hl 4 rfl) ?_
        refine lv_iload_n hx hb dL_acts_204 rfl (lv_at hl 3 rfl) ?_
        refine lv_bipush (v := 99) hx hb dL_acts_205 (by decide) ?_
        refine lv_iload_n hx hb dL_acts_207 rfl (lv_at hl 3 rfl) ?_
        refine lv_bipush (v := 7) hx hb dL_acts_208 (by decide) ?_
        refine lv_iadd hx hb dL_acts_210 ?_
        refine mmin C0 hl.1 (Nat.le_of_ble_eq_true rfl) vm_L_111 dL_acts_211 ⟨Nat.le_of_ble_eq_true rfl, Nat.le_of_ble_eq_true rfl⟩ ⟨by show _ ≤ 8; omega, by show _ ≤ 48; omega⟩ ?_
        obtain ⟨r, T1, M1, e1, e2⟩ := hA_deleteRange hPR (nI v) (if (nI v + 7) < 99 then (nI v + 7) else 99)
        refine mH C0 M0 (c_L_deleteRange l g a T (nI v) (if (nI v + 7) < 99 then (nI v + 7) else 99) hst r T1 e1) vh_L_116 rfl rfl hl.1 (Nat.le_of_ble_eq_true rfl) dL_acts_214 ⟨Nat.le_of_ble_eq_true rfl, Nat.le_of_ble_eq_true rfl⟩ ⟨by show _ ≤ 8; omega, by show _ ≤ 48; omega⟩ (fun H locs M0 => ?_)
        refine lv_goto (tgt := 221) hx hb dL_acts_217 (by decide) ?_
        refine lv_istore (lv' := [(7, .int r), (6, .int K), (5, .int (nI t.size)), (4, .int (nI q)), (3, .int (nI v)), (0, .ref (a 0)), (1, .ref sb), (2, .int (nI k))]) hx hb dL_acts_221 hl (by decide) rfl (fun ls hl => ?_)
        refine lv_goto (tgt := 271) hx hb dL_acts_223 (by decide) ?_
        exact hE T1 M1 ls _ _ _ _ e2 M0 (by omega) (by omega)
    have k226 : W p l e (pq_rm 10 8 48) s m [.ref (a 0), .ref sb, .int (nI k)].toArray below meth c H locs cells slots Q (F0 m 226 ls []) := by
      refine lv_aload_n hx hb dL_acts_226 rfl (lv_at hl 4 rfl) ?_
      refine lv_iload_n hx hb dL_acts_227 rfl (lv_at hl 3 rfl) ?_
      refine lv_iconst (v := 4) hx hb dL_acts_228 (by decide) ?_
      refine lv_irem hx hb dL_acts_229 (by decide) ?_
      refine lv_iload_n hx hb dL_acts_230 rfl (lv_at hl 3 rfl) ?_
      refine lv_bipush (v := 99) hx hb dL_acts_231 (by decide) ?_
      refine lv_iload_n hx hb dL_acts_233 rfl (lv_at hl 3 rfl) ?_
      refine lv_iload hx hb dL_acts_234 (lv_at hl 2 rfl) ?_
      refine lv_iconst (v := 2) hx hb dL_acts_236 (by decide) ?_
      refine lv_idiv hx hb dL_acts_237 (by decide) ?_
      refine lv_iadd hx hb dL_acts_238 ?_
      refine mmin C0 hl.1 (Nat.le_of_ble_eq_true rfl) vm_L_111 dL_acts_239 ⟨Nat.le_of_ble_eq_true rfl, Nat.le_of_ble_eq_true rfl⟩ ⟨by show _ ≤ 8; omega, by show _ ≤ 48; omega⟩ ?_
      refine lv_iload hx hb dL_acts_242 (lv_at hl 2 rfl) ?_
      refine lv_bipush (v := 30) hx hb dL_acts_244 (by decide) ?_
      refine lv_irem hx hb dL_acts_246 (by decide) ?_
      refine lv_iconst (v := 1) hx hb dL_acts_247 (by decide) ?_
      refine lv_iload hx hb dL_acts_248 (lv_at hl 2 rfl) ?_
      refine lv_bipush (v := 12) hx hb dL_acts_250 (by decide) ?_
      refine lv_irem hx hb dL_acts_252 (by decide) ?_
      refine lv_iadd hx hb dL_acts_253 ?_
      obtain ⟨r, T1, M1, e1, e2⟩ := hA_setWindow hPR (nI v - nI v / 4 * 4) (nI v) (if (nI v + (nI q / 2)) < 99 then (nI v + (nI q / 2)) else 99) (nI q - nI q / 30 * 30) (1 + (nI q - nI q / 12 * 12))
      refine mH C0 M0 (c_L_setWindow l g a T (nI v - nI v / 4 * 4) (nI v) (if (nI v + (nI q / 2)) < 99 then (nI v + (nI q / 2)) else 99) (nI q - nI q / 30 * 30) (1 + (nI q - nI q / 12 * 12)) hst r T1 e1) vh_L_118 rfl rfl hl.1 (Nat.le_of_ble_eq_true rfl) dL_acts_254 ⟨Nat.le_of_ble_eq_true rfl, Nat.le_of_ble_eq_true rfl⟩ ⟨by show _ ≤ 8; omega, by show _ ≤ 48; omega⟩ (fun H locs M0 => ?_)
      refine lv_istore (lv' := [(7, .int r), (6, .int K), (5, .int (nI t.size)), (4, .int (nI q)), (3, .int (nI v)), (0, .ref (a 0)), (1, .ref sb), (2, .int (nI k))]) hx hb dL_acts_257 hl (by decide) rfl (fun ls hl => ?_)
      refine lv_goto (tgt := 271) hx hb dL_acts_259 (by decide) ?_
      exact hE T1 M1 ls _ _ _ _ e2 M0 (by omega) (by omega)
    have k262 : W p l e (pq_rm 10 8 48) s m [.ref (a 0), .ref sb, .int (nI k)].toArray below meth c H locs cells slots Q (F0 m 262 ls []) := by
      refine lv_aload_n hx hb dL_acts_262 rfl (lv_at hl 4 rfl) ?_
      refine lv_iload_n hx hb dL_acts_263 rfl (lv_at hl 3 rfl) ?_
      refine lv_iconst (v := 4) hx hb dL_acts_264 (by decide) ?_
      refine lv_irem hx hb dL_acts_265 (by decide) ?_
      obtain ⟨r, T1, M1, e1, e2⟩ := hA_removeWindow hPR (nI v - nI v / 4 * 4)
      refine mH C0 M0 (c_L_removeWindow l g a T (nI v - nI v / 4 * 4) hst r T1 e1) vh_L_121 rfl rfl hl.1 (Nat.le_of_ble_eq_true rfl) dL_acts_266 ⟨Nat.le_of_ble_eq_true rfl, Nat.le_of_ble_eq_true rfl⟩ ⟨by show _ ≤ 8; omega, by show _ ≤ 48; omega⟩ (fun H locs M0 => ?_)
      refine lv_istore (lv' := [(7, .int r), (6, .int K), (5, .int (nI t.size)), (4, .int (nI q)), (3, .int (nI v)), (0, .ref (a 0)), (1, .ref sb), (2, .int (nI k))]) hx hb dL_acts_269 hl (by decide) rfl (fun ls hl => ?_)
      exact hE T1 M1 ls _ _ _ _ e2 M0 (by omega) (by omega)
    match d, hd14 with
    | 0, _ => exact lv_tableIn (off := 66) (tgt := 124) hx hb dL_acts_58 (by decide) (by decide) (by rfl) (by decide) k124
    | 1, _ => exact lv_tableIn (off := 66) (tgt := 124) hx hb dL_acts_58 (by decide) (by decide) (by rfl) (by decide) k124
    | 2, _ => exact lv_tableIn (off := 66) (tgt := 124) hx hb dL_acts_58 (by decide) (by decide) (by rfl) (by decide) k124
    | 3, _ => exact lv_tableIn (off := 66) (tgt := 124) hx hb dL_acts_58 (by decide) (by decide) (by rfl) (by decide) k124
    | 4, _ => exact lv_tableIn (off := 92) (tgt := 150) hx hb dL_acts_58 (by decide) (by decide) (by rfl) (by decide) k150
    | 5, _ => exact lv_tableIn (off := 113) (tgt := 171) hx hb dL_acts_58 (by decide) (by decide) (by rfl) (by decide) k171
    | 6, _ => exact lv_tableIn (off := 113) (tgt := 171) hx hb dL_acts_58 (by decide) (by decide) (by rfl) (by decide) k171
    | 7, _ => exact lv_tableIn (off := 113) (tgt := 171) hx hb dL_acts_58 (by decide) (by decide) (by rfl) (by decide) k171
    | 8, _ => exact lv_tableIn (off := 126) (tgt := 184) hx hb dL_acts_58 (by decide) (by decide) (by rfl) (by decide) k184
    | 9, _ => exact lv_tableIn (off := 126) (tgt := 184) hx hb dL_acts_58 (by decide) (by decide) (by rfl) (by decide) k184
    | 10, _ => exact lv_tableIn (off := 138) (tgt := 196) hx hb dL_acts_58 (by decide) (by decide) (by rfl) (by decide) k196
    | 11, _ => exact lv_tableIn (off := 168) (tgt := 226) hx hb dL_acts_58 (by decide) (by decide) (by rfl) (by decide) k226
    | 12, _ => exact lv_tableIn (off := 168) (tgt := 226) hx hb dL_acts_58 (by decide) (by decide) (by rfl) (by decide) k226
    | 13, _ => exact pq_tdef hx hb dL_acts_58 [0, 1, 2, 3, 4, 5, 6, 7, 8, 9, 10, 11, 12] (by decide) (by decide) (by decide) (tgt := 262) (by decide) k262
    | d + 14, h9 => omega
  by_cases h0 : 0 < t.size
  · refine lv_if_le (tgt := 48) hx hb dL_acts_29 (by decide) (fun h9 => absurd h9 (nI_nle h0 (by omega))) (fun _ => ?_)
    refine lv_aload_n hx hb dL_acts_32 rfl (lv_at hl 3 rfl) ?_
    refine lv_aload_n hx hb dL_acts_33 rfl (lv_at hl 4 rfl) ?_
    refine lv_iload_n hx hb dL_acts_34 rfl (lv_at hl 5 rfl) ?_
    refine lv_iconst (v := 3) hx hb dL_acts_35 (by decide) ?_
    refine lv_iadd hx hb dL_acts_36 ?_
    rw [show ((nI k + 3) : Int32) = (nI (k + 3)) from nI_add k 3]
    refine lv_iload hx hb dL_acts_37 (lv_at hl 0 rfl) ?_
    refine mS0 C0 M0 (c_L_some l g ad av [] sb L xs (k + 3) t.size hL9 (by omega) h0 (by omega)) vs_L_90 rfl rfl hl.1 (Nat.le_of_ble_eq_true rfl) dL_acts_39 ⟨Nat.le_of_ble_eq_true rfl, Nat.le_of_ble_eq_true rfl⟩ ⟨by show _ ≤ 8; omega, by show _ ≤ 48; omega⟩ (fun H locs M0 => ?_)
    have h9 : lsome xs L (k + 3) t.size < t.size := Nat.mod_lt _ h0
    refine mX C0 M0 (c_X6_keyAt l g a T _ hst (.inr (nI (kN T.1.1 t (lsome xs L (k + 3) t.size)))) T (a_keyAt hw h9)) vv_L_66 rfl rfl hl.1 (Nat.le_of_ble_eq_true rfl) dL_acts_42 ⟨Nat.le_of_ble_eq_true rfl, Nat.le_of_ble_eq_true rfl⟩ ⟨by show _ ≤ 8; omega, by show _ ≤ 48; omega⟩ (fun H locs M0 => ?_)
    refine lv_goto (tgt := 49) hx hb dL_acts_45 (by decide) ?_
    exact J49 _ ls _ _ _ _ M0 (by decide) (by decide) hl
  · refine lv_if_le (tgt := 48) hx hb dL_acts_29 (by decide) (fun _ => ?_) (fun h9 => absurd (by rw [show t.size = 0 by omega]; decide) h9)
    refine lv_iconst (v := 0) hx hb dL_acts_48 (by decide) ?_
    exact J49 _ ls _ _ _ _ M0 (by decide) (by decide) hl
set_option maxHeartbeats 4000000 in
set_option maxRecDepth 100000 in
theorem c_L_build (l : Launch) (g : pq_g) (ad av : Nat → Nat) (sb L : Nat) (xs : Nat → Int32) (a : Nat → Nat) (T : MainS) (M : ModS) (hst : l.stackTraces = false) (hL9 : L < 2 ^ 31) (hPR : PR T M) : lM l yL_build cL_build 4 none 11 200 1200 g ad av [] sb L xs (mainW g a T) [.ref (a 0), .ref sb] (fun r _ H => r = none ∧ ∃ (T1 : MainS) (M1 : ModS), PR T1 M1 ∧ va_P g.1 pq_cl (mainW g a T1) H) := by
  refine lM.of (own := RL) (by decide) rfl (Nat.le_of_ble_eq_true rfl) rfl ?_
  intro p e s m below meth c ls Q A S hin hP hK hD hS hA hAw hI hl hend
  obtain ⟨hx, hb, hml, hown, hts⟩ := id S
  have C0 : lwC p l s m _ c cL_build 4 A g ad av [] sb L xs := ⟨S, hK, hA, hI, hst⟩
  have M0 : lwM g a T [] A s s.heap [] := ⟨va_P.app hP pq_P0, pq_Da hD pq_D0 (fun _ _ q hq => absurd hq List.not_mem_nil), hS⟩
  have B2 : ∀ (z i : Nat) (T : MainS) (M : ModS) (ls : Array Slot) (H : Heap) (locs : List Loc) (cells slots : Nat), i + z = 14 → PR T M → lwM g a T [] A s H locs → cells ≤ 40 + 8 * i → slots ≤ 240 + 48 * i → lv_has ls 4 [(3, .int (nI i)), (0, .ref (a 0)), (1, .ref sb)] → W p l e (pq_rm 11 200 1200) s m [.ref (a 0), .ref sb].toArray below meth c H locs cells slots Q (F0 m 49 ls []) := by
    intro z
    induction z with
      | zero =>
        intro i T M ls H locs cells slots hi hPR M0 hc1 hs1 hl
        refine lv_iload_n hx hb dL_build_49 rfl (lv_at hl 0 rfl) ?_
        refine lv_bipush (v := 14) hx hb dL_build_50 (by decide) ?_
        refine lv_icmp_ge (tgt := 72) hx hb dL_build_52 (by decide) (fun _ => ?_) (fun h9 => absurd (nI_le (a := 14) (by omega) (by omega)) h9)
        exact hend _ _ _ _ _ _ _ _ (sRet.v dL_build_72) ⟨rfl, T, M, hPR, M0.P⟩ M0.2.2 (by omega) (by omega)
      | succ z ih =>
        intro i T M ls H locs cells slots hi hPR M0 hc1 hs1 hl
        refine lv_iload_n hx hb dL_build_49 rfl (lv_at hl 0 rfl) ?_
        refine lv_bipush (v := 14) hx hb dL_build_50 (by decide) ?_
        refine lv_icmp_ge (tgt := 72) hx hb dL_build_52 (by decide) (fun h9 => absurd h9 (nI_ge (b := 14) (by omega) (by decide))) (fun _ => ?_)
        refine lv_aload_n hx hb dL_build_55 rfl (lv_at hl 1 rfl) ?_
        refine lv_aload_n hx hb dL_build_56 rfl (lv_at hl 2 rfl) ?_
        refine lv_bipush (v := 24) hx hb dL_build_57 (by decide) ?_
        refine lv_iconst (v := 4) hx hb dL_build_59 (by decide) ?_
        refine lv_iload_n hx hb dL_build_60 rfl (lv_at hl 0 rfl) ?_
        refine lv_imul hx hb dL_build_61 ?_
        rw [show ((4 * nI i) : Int32) = (nI (4 * i)) from (pk_mul 4 i)]
        refine lv_iadd hx hb dL_build_62 ?_
        rw [show ((24 + nI (4 * i)) : Int32) = (nI (24 + 4 * i)) from (nI_add 24 (4 * i))]
        refine mS C0 M0 (c_L_acts l g ad av sb L xs a T M hst hL9 hPR (24 + 4 * i) (by omega)) mS_no vs_L_97 rfl rfl hl.1 (Nat.le_of_ble_eq_true rfl) dL_build_63 ⟨Nat.le_of_ble_eq_true rfl, Nat.le_of_ble_eq_true rfl⟩ ⟨by show _ ≤ 200; omega, by show _ ≤ 1200; omega⟩ (fun v H1 locs1 hv hz hE hS1 => ?_)
        obtain ⟨rfl, T1, M1, hPR1, hP1⟩ := hv
        replace M0 : lwM g a T1 [] A s H1 locs1 := ⟨va_P.app hP1 pq_P0, pq_adr M0.2.1 (ad_app (ad_X6 _ _) rfl), hS1⟩
        show W _ _ _ _ _ _ _ _ _ _ _ _ _ _ _ (F0 _ _ _ [])
        refine lv_iinc (v := nI (i + 1)) (lv' := [(3, .int (nI (i + 1))), (0, .ref (a 0)), (1, .ref sb)]) hx hb dL_build_66 hl (k := 0) rfl (by rw [nI_succ]; rfl) (by decide) rfl (fun ls hl => ?_)
        refine lv_goto (tgt := 49) hx hb dL_build_69 (by decide) ?_
        exact ih (i + 1) T1 M1 ls _ _ _ _ (by omega) hPR1 M0 (by omega) (by omega) hl
  have B1 : ∀ (z i : Nat) (T : MainS) (M : ModS) (ls : Array Slot) (H : Heap) (locs : List Loc) (cells slots : Nat), i + z = 10 → PR T M → lwM g a T [] A s H locs → cells ≤ 4 * i → slots ≤ 24 * i → lv_has ls 4 [(3, .int (nI i)), (0, .ref (a 0)), (1, .ref sb)] → W p l e (pq_rm 11 200 1200) s m [.ref (a 0), .ref sb].toArray below meth c H locs cells slots Q (F0 m 2 ls []) := by
    intro z
    induction z with
      | zero =>
        intro i T M ls H locs cells slots hi hPR M0 hc1 hs1 hl
        refine lv_iload_n hx hb dL_build_2 rfl (lv_at hl 0 rfl) ?_
        refine lv_bipush (v := 10) hx hb dL_build_3 (by decide) ?_
        refine lv_icmp_ge (tgt := 47) hx hb dL_build_5 (by decide) (fun _ => ?_) (fun h9 => absurd (nI_le (a := 10) (by omega) (by omega)) h9)
        refine lv_iconst (v := 0) hx hb dL_build_47 (by decide) ?_
        refine lv_istore_n (lv' := [(3, .int 0), (0, .ref (a 0)), (1, .ref sb)]) hx hb dL_build_48 rfl hl (by decide) rfl (fun ls hl => ?_)
        exact B2 14 0 T M ls _ _ _ _ (by omega) hPR M0 (by omega) (by omega) hl
      | succ z ih =>
        intro i T M ls H locs cells slots hi hPR M0 hc1 hs1 hl
        refine lv_iload_n hx hb dL_build_2 rfl (lv_at hl 0 rfl) ?_
        refine lv_bipush (v := 10) hx hb dL_build_3 (by decide) ?_
        refine lv_icmp_ge (tgt := 47) hx hb dL_build_5 (by decide) (fun h9 => absurd h9 (nI_ge (b := 10) (by omega) (by decide))) (fun _ => ?_)
        refine lv_aload_n hx hb dL_build_8 rfl (lv_at hl 1 rfl) ?_
        refine lv_aload_n hx hb dL_build_9 rfl (lv_at hl 2 rfl) ?_
        refine lv_iload_n hx hb dL_build_10 rfl (lv_at hl 0 rfl) ?_
        refine lv_bipush (v := 100) hx hb dL_build_11 (by decide) ?_
        refine mS0 C0 M0 (c_L_some l g ad av [] sb L xs (i) 100 hL9 (by omega) (by omega) (by omega)) vs_L_90 rfl rfl hl.1 (Nat.le_of_ble_eq_true rfl) dL_build_13 ⟨Nat.le_of_ble_eq_true rfl, Nat.le_of_ble_eq_true rfl⟩ ⟨by show _ ≤ 200; omega, by show _ ≤ 1200; omega⟩ (fun H locs M0 => ?_)
        refine lv_aload_n hx hb dL_build_16 rfl (lv_at hl 2 rfl) ?_
        refine lv_bipush (v := 12) hx hb dL_build_17 (by decide) ?_
        refine lv_iload_n hx hb dL_build_19 rfl (lv_at hl 0 rfl) ?_
        refine lv_iadd hx hb dL_build_20 ?_
        rw [show ((12 + nI i) : Int32) = (nI (12 + i)) from nI_add 12 i]
        refine lv_iload_n hx hb dL_build_21 rfl (lv_at hl 0 rfl) ?_
        refine lv_iconst (v := 2) hx hb dL_build_22 (by decide) ?_
        refine lv_irem hx hb dL_build_23 (by decide) ?_
        have J34 : ∀ y : Nat, 0 < y → y ≤ 100 → W p l e (pq_rm 11 200 1200) s m [.ref (a 0), .ref sb].toArray below meth c H locs cells slots Q (F0 m 34 ls [.int (nI y), .int (nI (12 + i)), .ref sb, .int (nI (lsome xs L i 100)), .ref (a 0)]) := by
          intro y hy hy2
          refine mS0 C0 M0 (c_L_some l g ad av [] sb L xs (12 + i) y hL9 (by omega) (by omega) (by omega)) vs_L_90 rfl rfl hl.1 (Nat.le_of_ble_eq_true rfl) dL_build_34 ⟨Nat.le_of_ble_eq_true rfl, Nat.le_of_ble_eq_true rfl⟩ ⟨by show _ ≤ 200; omega, by show _ ≤ 1200; omega⟩ (fun H locs M0 => ?_)
          obtain ⟨r, T1, M1, e1, e2⟩ := hA_insert hPR (nI (lsome xs L i 100)) (nI (lsome xs L (12 + i) y))
          refine mH C0 M0 (c_L_insert l g a T (nI (lsome xs L i 100)) (nI (lsome xs L (12 + i) y)) hst r T1 e1) vh_L_94 rfl rfl hl.1 (Nat.le_of_ble_eq_true rfl) dL_build_37 ⟨Nat.le_of_ble_eq_true rfl, Nat.le_of_ble_eq_true rfl⟩ ⟨by show _ ≤ 200; omega, by show _ ≤ 1200; omega⟩ (fun H locs M0 => ?_)
          refine lv_istore_n (lv' := [(2, .int r), (3, .int (nI i)), (0, .ref (a 0)), (1, .ref sb)]) hx hb dL_build_40 rfl hl (by decide) rfl (fun ls hl => ?_)
          refine lv_iinc (v := nI (i + 1)) (lv' := [(3, .int (nI (i + 1))), (2, .int r), (0, .ref (a 0)), (1, .ref sb)]) hx hb dL_build_41 hl (k := 1) rfl (by rw [nI_succ]; rfl) (by decide) rfl (fun ls hl => ?_)
          refine lv_goto (tgt := 2) hx hb dL_build_44 (by decide) ?_
          exact ih (i + 1) T1 M1 ls _ _ _ _ (by omega) e2 M0 (by omega) (by omega) (lv_sub hl [0, 2, 3] rfl)
        by_cases h2 : nI i - nI i / 2 * 2 = 0
        · refine lv_if_ne (tgt := 32) hx hb dL_build_24 (by decide) (fun h9 => absurd h2 h9) (fun _ => ?_)
          refine lv_bipush (v := 100) hx hb dL_build_27 (by decide) ?_
          refine lv_goto (tgt := 34) hx hb dL_build_29 (by decide) ?_
          exact J34 100 (by decide) (by decide)
        · refine lv_if_ne (tgt := 32) hx hb dL_build_24 (by decide) (fun _ => ?_) (fun h9 => absurd h9 h2)
          refine lv_bipush (v := 6) hx hb dL_build_32 (by decide) ?_
          exact J34 6 (by decide) (by decide)
  refine lv_iconst (v := 0) hx hb dL_build_0 (by decide) ?_
  refine lv_istore_n (lv' := [(3, .int 0), (0, .ref (a 0)), (1, .ref sb)]) hx hb dL_build_1 rfl hl (by decide) rfl (fun ls hl => ?_)
  exact B1 10 0 T M ls _ _ _ _ (by omega) hPR M0 (Nat.le_refl _) (Nat.le_refl _) hl
