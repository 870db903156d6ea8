/-! ===== mathematics, 30: undo and the snapshot ===== -/
theorem ma_undo : pq_Ma_undo PR := by
  intro T M h
  obtain ⟨h1, ⟨c, nx, c8, n8, q1, q2, q3, q4⟩, h3, h4, h5, h6, h7⟩ := id h
  show QQ [ISE] _ _
  unfold f_X6_undo f_X7_undo
  rw [q2]
  by_cases e : c = 0
  · rw [e] at q3
    rw [e, if_pos (show nI 0 = 0 from rfl), if_pos (show M.2.2.1 ≤ 0 by rw [q3]; decide), isFine_0, Option.bind_some, if_pos rfl]
    exact QQ.thr (E := ISE) (b := 0) (M := (1, M.2)) rfl rfl h (pcd_1 _ _) e10
  · obtain ⟨t, ht⟩ := q4 0 (by omega)
    obtain ⟨D, e1, e2⟩ := copyData T.1 (T.2.2.2.2.1.1 ((nx + 7 - 0) % 8)) ht
    have hv : (if T.2.2.2.2.1.2.1 ≤ 0 then (7 : Int32) else T.2.2.2.2.1.2.1 - 1) = nI ((nx + 7 - 0) % 8) := by
      rw [q1]
      by_cases e0 : nx = 0
      · rw [e0]; rfl
      · rw [if_neg (nI_nle (by omega) (by omega)), nI_dec1 (by omega), show (nx + 7 - 0) % 8 = nx - 1 by omega]
    have hpop : f_X2_popInto T.2.2.2.2.1 T.1 = some ((T.2.2.2.2.1.1, nI ((nx + 7 - 0) % 8), nI (c - 1)), D) := by
      unfold f_X2_popInto
      rw [hv, q2, if_neg (nI_nle (by omega) (by omega)), if_neg (fun h9 => ?_), nI_clamp (by omega), e1, Option.bind_some, nI_dec1 (by omega)]
      rcases h9 with h9 | h9
      · exact nI_pos (by omega) h9
      · exact (show ¬ (8 : Int32) ≤ nI ((nx + 7 - 0) % 8) from nI_ge (b := 8) (by omega) (by omega)) h9
    have hcp : f_X7_copies (0, M.2) M.2.2.1 0 = some (0, cpA M.2.1 c 0 70, M.2.2) := by
      rw [q3]
      exact copiesR (M := (0, M.2)) (f := c) (t := 0) (by omega) (by omega) (by omega)
    have e9 : M.2.2.1 - 1 = nI (c - 1) := by rw [q3, nI_dec1 (by omega)]
    rw [if_neg (nI_ne0 (by omega) (by omega)), if_neg (show ¬ M.2.2.1 ≤ 0 by rw [q3]; exact nI_nle (by omega) (by omega)), isFine_1, Option.bind_some, if_neg n10, hpop, Option.bind_some]
    refine QQ.ret (b := nI (c - 1)) (M := (0, cpA M.2.1 c 0 70, nI (c - 1), M.2.2.2)) (T := (D, T.2.1, T.2.2.1, T.2.2.2.1, (T.2.2.2.2.1.1, nI ((nx + 7 - 0) % 8), nI (c - 1)), T.2.2.2.2.2)) rfl ?_ ?_ rfl
    · show (f_X7_copies (0, M.2) M.2.2.1 0).bind _ = _
      rw [hcp, Option.bind_some]
      show some (M.2.2.1 - 1, ((0 : Int32), cpA M.2.1 c 0 70, M.2.2.1 - 1, M.2.2.2)) = _
      rw [e9]
    · refine ⟨⟨t, e2.congr (fun j hj => ?_)⟩, ⟨c - 1, (nx + 7 - 0) % 8, by omega, by omega, rfl, rfl, rfl, fun k hk => ?_⟩, ⟨h3.1, ?_⟩, h4, h5, h6, h7⟩
      · have := cpA_in (a := M.2.1) (f := c) (t := 0) hj
        rw [Nat.mul_zero, Nat.zero_add] at this
        exact this
      · obtain ⟨t2, ht2⟩ := q4 (k + 1) (by omega)
        refine ⟨t2, ?_⟩
        show DR (T.2.2.2.2.1.1 (((nx + 7 - 0) % 8 + 7 - k) % 8)) _ t2
        rw [show ((nx + 7 - 0) % 8 + 7 - k) % 8 = (nx + 7 - (k + 1)) % 8 by omega]
        refine ht2.congr (fun j hj => ?_)
        show cpA M.2.1 c 0 70 (70 * (c - 1 - k) + j) = M.2.1 (70 * (c - (k + 1)) + j)
        rw [cpA_out (by omega), show 70 * (c - 1 - k) + j = 70 * (c - (k + 1)) + j by omega]
      · rcases h3.2 with h3 | ⟨h3, t2, ht2⟩
        · exact Or.inl h3
        · exact Or.inr ⟨h3, t2, ht2.congr (fun j hj => cpA_out (by omega))⟩
theorem ma_saveSnapshot : pq_Ma_saveSnapshot PR := by
  intro T M h
  obtain ⟨⟨t, hD⟩, ⟨c, nx, c8, n8, q1, q2, q3, q4⟩, h3, h4, h5, h6, h7⟩ := id h
  obtain ⟨D, e1, e2⟩ := copyData T.2.2.1 T.1 hD
  have hcp : f_X7_copies (0, M.2.1, M.2.2.1, 1, M.2.2.2.2) 0 9 = some (0, cpA M.2.1 0 9 70, M.2.2.1, 1, M.2.2.2.2) := copiesR (M := (0, M.2.1, M.2.2.1, 1, M.2.2.2.2)) (f := 0) (t := 9) (by omega) (by omega) (by omega)
  refine ⟨nI t.size, (T.1, T.2.1, D, 1, T.2.2.2.2), (0, cpA M.2.1 0 9 70, M.2.2.1, 1, M.2.2.2.2), ?_, ?_, ⟨t, hD.congr (fun j hj => cpA_out (by omega))⟩, ⟨c, nx, c8, n8, q1, q2, q3, fun k hk => ?_⟩, ⟨rfl, Or.inr ⟨rfl, t, e2.congr (fun j hj => ?_)⟩⟩, h4, h5, h6, h7⟩
  · unfold f_X6_saveSnapshot
    rw [e1, Option.bind_some, pointCount_ok hD.1, Option.bind_some]
  · unfold f_X7_saveSnapshot
    show (f_X7_copies (0, M.2.1, M.2.2.1, 1, M.2.2.2.2) 0 9).bind _ = _
    rw [hcp, Option.bind_some]
    have e0 : cpA M.2.1 0 9 70 (0 : Int32).toNatClampNeg = nI t.size := (cpA_out (a := M.2.1) (f := 0) (t := 9) (j := 0) (by omega)).trans hD.2.1.1
    show some (cpA M.2.1 0 9 70 (0 : Int32).toNatClampNeg, _) = _
    rw [e0]
  · obtain ⟨t2, ht2⟩ := q4 k hk
    exact ⟨t2, ht2.congr (fun j hj => cpA_out (by omega))⟩
  · have := cpA_in (a := M.2.1) (f := 0) (t := 9) hj
    rw [Nat.mul_zero, Nat.zero_add] at this
    exact this
theorem ma_restoreSnapshot : pq_Ma_restoreSnapshot PR := by
  intro T M h
  obtain ⟨h1, ⟨c, nx, c8, n8, q1, q2, q3, q4⟩, h3, h4, h5, h6, h7⟩ := id h
  show QQ [ISE] _ _
  unfold f_X6_restoreSnapshot f_X7_restoreSnapshot
  obtain ⟨h3a, h3⟩ := h3
  rw [← h3a]
  rcases h3 with h3 | ⟨h3, t, ht⟩
  · rw [h3, if_pos rfl, isFine_0, Option.bind_some, if_pos rfl]
    exact QQ.thr (E := ISE) (b := 0) (M := (1, M.2)) rfl rfl h (pcd_1 _ _) e10
  · obtain ⟨D, e1, e2⟩ := copyData T.1 T.2.2.1 ht
    have hcp : f_X7_copies (0, M.2) 9 0 = some (0, cpA M.2.1 9 0 70, M.2.2) := copiesR (M := (0, M.2)) (f := 9) (t := 0) (by omega) (by omega) (by omega)
    have hlo : ∀ j, j < 70 → cpA M.2.1 9 0 70 j = M.2.1 (630 + j) := fun j hj => by
      have := cpA_in (a := M.2.1) (f := 9) (t := 0) hj
      rw [Nat.mul_zero, Nat.zero_add] at this
      exact this
    have e0 : cpA M.2.1 9 0 70 (0 : Int32).toNatClampNeg = nI t.size := (hlo 0 (by omega)).trans ht.2.1.1
    rw [h3, if_neg n10, isFine_1, Option.bind_some, if_neg n10, e1, Option.bind_some]
    refine QQ.ret (b := nI t.size) (M := (0, cpA M.2.1 9 0 70, 0, M.2.2.2)) (T := (D, T.2.1, T.2.2.1, T.2.2.2.1, (T.2.2.2.2.1.1, T.2.2.2.2.1.2.1, 0), T.2.2.2.2.2)) ?_ ?_ ⟨⟨t, e2.congr hlo⟩, ⟨0, nx, by omega, n8, q1, rfl, rfl, fun k hk => absurd hk (by omega)⟩, ⟨h3a, Or.inr ⟨h3, t, ht.congr (fun j hj => cpA_out (by omega))⟩⟩, h4, h5, h6, h7⟩ rfl
    · unfold f_X2_clear
      rw [Option.bind_some, pointCount_ok e2.1, Option.bind_some, h3]
    · show (f_X7_copies (0, M.2) 9 0).bind _ = _
      rw [hcp, Option.bind_some]
      show some (cpA M.2.1 9 0 70 (0 : Int32).toNatClampNeg, _) = _
      rw [e0]
