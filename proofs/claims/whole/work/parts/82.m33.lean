/-! ===== mathematics, 33: the batch ===== -/
theorem c66_q {X : ModS} {n x1 res by_ v2 : Int32} {a : Nat → Int32} (h5 : X.2.2.2.2.2.2.2.2.2.2.2.2.2.2.2.2 = n) (hb : by_ ≠ 3) : f_X7_execute_c66 (mk X x1 a res) by_ v2 = f_X7_ends (mk X x1 a n) by_ 2 2 3 2 := by
  unfold f_X7_execute_c66 f_X7_execute_c91
  rw [if_neg hb, bd_id]
  show f_X7_ends (mk X x1 a X.2.2.2.2.2.2.2.2.2.2.2.2.2.2.2.2) by_ 2 2 3 2 = _
  rw [h5]
theorem c66_3 {X : ModS} {n x1 res r d v2 : Int32} {a : Nat → Int32} (h5 : X.2.2.2.2.2.2.2.2.2.2.2.2.2.2.2.2 = n) : f_X7_execute_c66 (mset (x1, X.2) a res r d 0) 3 v2 = f_X7_ends (mset (x1, X.2) a n 4 (v2 - 1) r) 3 2 2 3 2 := by
  unfold f_X7_execute_c66 f_X7_execute_c91
  rw [if_pos rfl, bd_id]
  show f_X7_ends (mset (x1, X.2) a X.2.2.2.2.2.2.2.2.2.2.2.2.2.2.2.2 4 (v2 - 1) r) 3 2 2 3 2 = _
  rw [h5]
theorem c39_q {S : ModS} {n : Nat} {by_ v2 : Int32} (hb : by_ ≠ 0) : f_X7_execute_c39 (n + 1) S by_ v2 = f_X7_execute_c66 S by_ v2 := by
  rw [f_X7_execute_c39]
  by_cases h : S.2.2.2.2.2.2.2.2.2.2.2.2.2.2.2.2 ≤ v2
  · rw [if_pos h]
  · rw [if_neg h, if_neg hb]
theorem batch_ok {T : MainS} {X : ModS} (hP : PR T X) {n : Nat} {ks ns cm : Nat → Int32} (hn : n ≤ 20) (hcc : ∀ k, k < n → CC ks ns cm k) (h1 : T.2.2.2.2.2.1.2.2.2.1 = ks) (h2 : T.2.2.2.2.2.1.2.2.2.2.1 = ns) (h3 : T.2.2.2.2.2.1.2.2.2.2.2 = nI n) (h4 : X.2.2.2.2.2.2.2.2.2.2.2.2.2.2.2.1 = cm) (h5 : X.2.2.2.2.2.2.2.2.2.2.2.2.2.2.2.2 = nI n) : ∀ (n1 n2 k : Nat) (D : DataS) (a : Nat → Int32) (x1 res : Int32) (t : Tr), k ≤ n → DR D a t → (∀ j, 70 ≤ j → a j = cpA X.2.1 0 10 70 j) → n - k < n1 → n - k + 1 < n2 → QQ [IAE, ISE, UOE] (f_X6_execute_c54 n1 (dr T D) (nI k)) (f_X7_execute_c39 n2 (mk X x1 a res) 0 (nI k)) := by
  intro n1
  induction n1 with
  | zero => intro n2 k D a x1 res t _ _ _ hn1 _; exact absurd hn1 (by omega)
  | succ n1 ih =>
    intro n2 k D a x1 res t hk hD hf hn1 hn2
    obtain ⟨n2, rfl⟩ : ∃ n', n2 = n' + 1 + 1 := ⟨n2 - 2, by omega⟩
    by_cases e : k = n
    · subst e
      have ec : f_X6_execute_c54 (n1 + 1) (dr T D) (nI k) = f_X6_execute_c133 (dr T D) := by
        rw [f_X6_execute_c54]
        exact if_pos (show T.2.2.2.2.2.1.2.2.2.2.2 ≤ nI k from by rw [h3]; exact nI_le (Nat.le_refl _) (by omega))
      have em : f_X7_execute_c39 (n2 + 1 + 1) (mk X x1 a res) 0 (nI k) = f_X7_ends (mk X x1 a (nI k)) 0 2 2 3 2 := by
        rw [f_X7_execute_c39]
        exact (if_pos (show X.2.2.2.2.2.2.2.2.2.2.2.2.2.2.2.2 ≤ nI k from by rw [h5]; exact nI_le (Nat.le_refl _) (by omega))).trans (c66_q h5 (by decide))
      obtain ⟨D', e1, e2⟩ := copyData T.1 D hD
      obtain ⟨H', M1, f0, f1, f2, f3⟩ := hP.chg (x1 := x1) (m := nI k) e2 hf 2 2 3 2
      rw [ec, em]
      refine QQ.ret (b := nI k) (M := M1) (T := (D', D, T.2.2.1, T.2.2.2.1, H', T.2.2.2.2.2)) ?_ f1 f3 f2
      unfold f_X6_execute_c133
      show (f_X2_push T.2.2.2.2.1 T.1).bind (fun q2 => (f_X1_copyFrom T.1 D).bind fun q4 => some (Sum.inr T.2.2.2.2.2.1.2.2.2.2.2, ((q4, D, T.2.2.1, T.2.2.2.1, q2, T.2.2.2.2.2) : MainS))) = _
      rw [f0, Option.bind_some, e1, Option.bind_some, h3]
    · have ec : f_X6_execute_c54 (n1 + 1) (dr T D) (nI k) = (f_X6_isFaulty (dr T D) (nI k)).bind fun q8 => if q8 = 0 then (f_X6_reasonAgainstCommand (dr T D) (nI k)).bind fun q11 => if q11 = 0 then (f_X6_carryOut (dr T D) (nI k)).bind fun q14 => f_X6_execute_c54 n1 q14 (nI k + 1) else (f_X6_reject (dr T D) 4 (nI k)).bind fun q16 => some (Sum.inl "java/lang/UnsupportedOperationException", (q16.1, q16.2.1, q16.2.2.1, q16.2.2.2.1, q16.2.2.2.2.1, q16.2.2.2.2.2.1, q16.2.2.2.2.2.2.1, q16.2.2.2.2.2.2.2.1, q16.2.2.2.2.2.2.2.2.1, q16.2.2.2.2.2.2.2.2.2.1, q11)) else some (Sum.inl "java/lang/IllegalStateException", dr T D) := by
        rw [f_X6_execute_c54]
        exact (if_neg (show ¬ T.2.2.2.2.2.1.2.2.2.2.2 ≤ nI k from by rw [h3]; exact nI_ge (by omega) (by omega))).trans (if_neg (show ¬ (20 : Int32) ≤ nI k from nI_ge (b := 20) (by omega) (by omega)))
      have em : f_X7_execute_c39 (n2 + 1 + 1) (mk X x1 a res) 0 (nI k) = (f_X7_does (mk X x1 a res) (6 * nI k)).bind fun q7 => f_X7_execute_c39 (n2 + 1) q7.2 q7.1 (nI k + 1) := by
        rw [f_X7_execute_c39]
        exact (if_neg (show ¬ X.2.2.2.2.2.2.2.2.2.2.2.2.2.2.2.2 ≤ nI k from by rw [h5]; exact nI_ge (by omega) (by omega))).trans (if_pos rfl)
      rw [ec, em, show (6 : Int32) = nI 6 from rfl, nI_mulX, nI_1, fault_eq h1 h2 (show k < 20 by omega), reason_eq h1 h2 (show k < 20 by omega)]
      rcases step_ok (X := X) x1 res hD (show k < 20 by omega) h4 (hcc k (by omega)) with ⟨f, by_, s1, s2, s3, s4⟩ | ⟨r, d, a', res', s1, s2, s3, s4, s5⟩ | ⟨D', a', m, t', s1, s2, s3, s4, s5, s6⟩
      · rw [s1, Option.bind_some, if_neg s2, s4, Option.bind_some]
        obtain ⟨M1, f1, f2, f3⟩ := hP.bad (x1 := x1) (res := nI n) (by_ := by_) (p := 2) (p1 := 2) (p2 := 2) (p3 := 3) (p4 := 2) hf hP.2.2.2.2.2.2 (by rcases s3 with rfl | rfl | rfl; exact Or.inl ⟨rfl, rfl⟩; exact Or.inr (Or.inl ⟨rfl, rfl⟩); exact Or.inr (Or.inr (Or.inr ⟨rfl, rfl⟩))) (by decide)
        refine QQ.thr (E := ISE) (b := 0) (M := M1) (T := dr T D) rfl ?_ f3 (by rw [f2]; exact pcd_2 _ (by decide)) (by rw [f2]; decide)
        have hb0 : by_ ≠ 0 := by rcases s3 with rfl | rfl | rfl <;> decide
        have hb3 : by_ ≠ 3 := by rcases s3 with rfl | rfl | rfl <;> decide
        exact (c39_q hb0).trans ((c66_q h5 hb3).trans f1)
      · rw [s1, Option.bind_some, if_pos rfl, s2, Option.bind_some, if_neg s3, s4, Option.bind_some]
        obtain ⟨M1, f1, f2, f3⟩ := hP.bad (x1 := x1) (a := a') (res := nI n) (r := 4) (d := nI k) (c := r) (w := 4) (e := nI (k + 1) - 1) (u := r) (by_ := 3) (p := 3) (p1 := 2) (p2 := 2) (p3 := 3) (p4 := 2) (fun j hj => (s5 j hj).trans (hf j hj)) ⟨rfl, (nI_pred k).symm, rfl, fun _ => s3, fun _ => rfl⟩ (Or.inr (Or.inr (Or.inl ⟨rfl, rfl⟩))) (by decide)
        refine QQ.thr (E := UOE) (b := 0) (M := M1) (T := (T.1, D, T.2.2.1, T.2.2.2.1, T.2.2.2.2.1, T.2.2.2.2.2.1, T.2.2.2.2.2.2.1, T.2.2.2.2.2.2.2.1, 4, nI k, r)) rfl ?_ f3 (by rw [f2]; exact pcd_3 _ (by decide) (by decide)) (by rw [f2]; decide)
        exact (c39_q (show (3 : Int32) ≠ 0 by decide)).trans ((c66_3 h5).trans f1)
      · rw [s1, Option.bind_some, if_pos rfl, s2, Option.bind_some, if_pos rfl, carry_eq h1 h2 (show k < 20 by omega) s3, Option.bind_some, s4, Option.bind_some]
        exact ih (n2 + 1) (k + 1) D' a' x1 m t' (by omega) s6 (fun j hj => (s5 j hj).trans (hf j hj)) (by omega) (by omega)
theorem ma_execute : pq_Ma_execute PR := by
  intro T M h
  obtain ⟨⟨t, hD⟩, h2, h3, h4, ⟨L, l1, l2, l3, l4⟩, ⟨h6, h6'⟩, h7⟩ := id h
  show QQ [IAE, ISE, UOE] _ _
  unfold f_X6_execute f_X7_execute f_X0_clearInput
  rcases parse_ok (C := T.2.2.2.2.2.1) (M := M) (L := L) ⟨l1, l2, l3, l4⟩ with ⟨ks, ns, cm, x, y, q, Q, hx, g1, g2⟩ | ⟨ks, ns, cm, o, n, hn, g1, g2, hcc⟩
  · rw [g1, g2, Option.bind_some, Option.bind_some, Option.bind_some]
    refine QQ.thr (E := IAE) (b := 0) (T := (T.1, T.2.1, T.2.2.1, T.2.2.2.1, T.2.2.2.2.1, (T.2.2.2.2.2.1.1, 0, nI x, ks, ns, q), T.2.2.2.2.2.2.1, nI x, T.2.2.2.2.2.2.2.2)) (M := (1, M.2.1, M.2.2.1, M.2.2.2.1, M.2.2.2.2.1, M.2.2.2.2.2.1, M.2.2.2.2.2.2.1, M.2.2.2.2.2.2.2.1, M.2.2.2.2.2.2.2.2.1, M.2.2.2.2.2.2.2.2.2.1, M.2.2.2.2.2.2.2.2.2.2.1, 0, nI y, nI x, nI x, cm, Q)) (if_pos rfl) (if_neg (show ¬ nI x < 0 from nI_pos (by omega))) ⟨⟨t, hD⟩, h2, h3, h4, ⟨0, by omega, rfl, rfl, fun i hi => absurd hi (by omega)⟩, ⟨rfl, Or.inr ⟨x, by omega, rfl⟩⟩, h7⟩ (pcd_1 _ _) e10
  · rw [g1, g2, Option.bind_some, Option.bind_some, Option.bind_some]
    obtain ⟨D, e1, e2⟩ := copyData T.2.1 T.1 hD
    have hP : PR (T.1, T.2.1, T.2.2.1, T.2.2.2.1, T.2.2.2.2.1, (T.2.2.2.2.2.1.1, 0, nI o, ks, ns, nI n), T.2.2.2.2.2.2) (M.1, M.2.1, M.2.2.1, M.2.2.2.1, M.2.2.2.2.1, M.2.2.2.2.2.1, M.2.2.2.2.2.2.1, M.2.2.2.2.2.2.2.1, M.2.2.2.2.2.2.2.2.1, M.2.2.2.2.2.2.2.2.2.1, M.2.2.2.2.2.2.2.2.2.2.1, 0, nI o, -1, M.2.2.2.2.2.2.2.2.2.2.2.2.2.2.1, cm, nI n) := ⟨⟨t, hD⟩, h2, h3, h4, ⟨0, by omega, rfl, rfl, fun i hi => absurd hi (by omega)⟩, ⟨h6, h6'⟩, h7⟩
    have hB := batch_ok hP hn hcc rfl rfl rfl rfl rfl 200 200 0 D (cpA M.2.1 0 10 70) M.1 M.2.2.2.2.1 t (Nat.zero_le _) (e2.congr (fun j hj => begun_lo (by omega))) (fun _ _ => rfl) (by omega) (by omega)
    rw [if_neg n10, e1, Option.bind_some, if_pos (show (-1 : Int32) < 0 from neg1lt), beginsR, Option.bind_some]
    exact hB
