/-! ===== mathematics, 28a: a command on both sides ===== -/
set_option maxHeartbeats 40000 in
theorem sign_q (M : ModS) (h e : Int32) (cm : Nat → Int32) (q q2 : Int32) : f_X7_sign (mp M h e cm q2) = f_X7_sign (mp M h e cm q) := by
  unfold f_X7_sign
  rfl
set_option maxHeartbeats 40000 in
theorem cmd_err {C : CmdS} {M : ModS} {L o c : Nat} {ks ns cm : Nat → Int32} {q k k2 : Int32} (ho : o ≤ L) (hc : c < 20) (c4 : f_X0_current (cp C (nI o) ks ns q) = some k) (hs : ∀ q2, f_X7_sign (mp M (nI o) (-1) cm q2) = some k2) (h1 : ¬ (k = 105 ∨ k = 100 ∨ k = 112 ∨ k = 109 ∨ k = 114 ∨ k = 119 ∨ k = 120)) (h2 : ¬ (k2 = 105 ∨ k2 = 100 ∨ k2 = 112 ∨ k2 = 109 ∨ k2 = 114 ∨ k2 = 119 ∨ k2 = 120)) : cmdBoth C M L o c ks ns cm q := by
  have e := commandR (c := c) (by omega) hs
  rw [if_neg h2] at e
  exact Or.inl ⟨ks, ns, o, o, z6 cm (6 * c) 6, ho, rdc_no c4 h1, e⟩
set_option maxHeartbeats 40000 in
theorem cmd_key {C : CmdS} {M : ModS} {L o c : Nat} {ks ns cm : Nat → Int32} {q : Int32} {kd i : Nat} (hc : c < 20) (h2 : f_X0_current (cp C (nI o) ks ns q) = some (nI kd)) (h3 : ∀ q2, f_X7_sign (mp M (nI o) (-1) cm q2) = some (nI kd)) (h4 : pq_pt (nI kd) = i) (h5 : i < 7) (h6 : pq_le.getD i 0 ≠ 0) (h7 : nI kd = 105 ∨ nI kd = 100 ∨ nI kd = 112 ∨ nI kd = 109 ∨ nI kd = 114 ∨ nI kd = 119 ∨ nI kd = 120) (h8 : cmdRes C M L o c kd (upd ks c (nI kd)) ns (z6 cm (6 * c) 6) q (nI (c + 1)) (f_X0_readCommand_c46 200 (cp C (nI (o + 1)) (upd ks c (nI kd)) ns q) i (nI (5 * c)) (nI 0)) (f_X7_command_c97 (mp M (nI o) (-1) (z6 cm (6 * c) 6) (nI (c + 1))) (nI (6 * c)) (nI kd))) : cmdBoth C M L o c ks ns cm q := by
  have e1 := rdc_in (c := c) h2 h4 h5 h6 hc
  have e2 := commandR (c := c) (by omega) h3
  rw [if_pos h7] at e2
  rw [← e1, ← e2] at h8
  rcases h8 with ⟨ns', x, y, cm', g1, g2, g3⟩ | ⟨o', ns', cm', g1, g2, g3, g4, g5, g6, g7, g8⟩
  · exact Or.inl ⟨upd ks c (nI kd), ns', x, y, cm', g1, g2, g3⟩
  · exact Or.inr ⟨o', kd, ns', cm', g1, g2, g3, g4, g5, g6, fun j hj => (g7 j hj).trans (z6_out hj), g8⟩
set_option maxHeartbeats 40000 in
theorem kd_of {s : Nat} (hs : s ≤ 126) (e : nI s = 105 ∨ nI s = 100 ∨ nI s = 112 ∨ nI s = 109 ∨ nI s = 114 ∨ nI s = 119 ∨ nI s = 120) : s = 105 ∨ s = 100 ∨ s = 112 ∨ s = 109 ∨ s = 114 ∨ s = 119 ∨ s = 120 := by
  rcases e with e | e | e | e | e | e | e
  · exact Or.inl ((nI_eq (b := 105) (by omega) (by omega)).mp e)
  · exact Or.inr (Or.inl ((nI_eq (b := 100) (by omega) (by omega)).mp e))
  · exact Or.inr (Or.inr (Or.inl ((nI_eq (b := 112) (by omega) (by omega)).mp e)))
  · exact Or.inr (Or.inr (Or.inr (Or.inl ((nI_eq (b := 109) (by omega) (by omega)).mp e))))
  · exact Or.inr (Or.inr (Or.inr (Or.inr (Or.inl ((nI_eq (b := 114) (by omega) (by omega)).mp e)))))
  · exact Or.inr (Or.inr (Or.inr (Or.inr (Or.inr (Or.inl ((nI_eq (b := 119) (by omega) (by omega)).mp e))))))
  · exact Or.inr (Or.inr (Or.inr (Or.inr (Or.inr (Or.inr ((nI_eq (b := 120) (by omega) (by omega)).mp e))))))
set_option maxHeartbeats 200000 in
theorem command_ok {C : CmdS} {M : ModS} {L o c : Nat} (h : IRn C M L) (ho : o ≤ L) (hc : c < 20) (ks ns cm : Nat → Int32) (q : Int32) : cmdBoth C M L o c ks ns cm q := by
  rcases cur_ok h ho ks ns cm q (-1) 0 with ⟨s, c1, c2, c3, c4, c5⟩ | ⟨c1, c4, c5⟩
  · have hs : ∀ q2, f_X7_sign (mp M (nI o) (-1) cm q2) = some (nI s) := fun q2 => (sign_q M _ _ cm 0 q2).trans c5
    by_cases e : nI s = 105 ∨ nI s = 100 ∨ nI s = 112 ∨ nI s = 109 ∨ nI s = 114 ∨ nI s = 119 ∨ nI s = 120
    · rcases kd_of c3 e with rfl | rfl | rfl | rfl | rfl | rfl | rfl
      · exact cmd_key hc c4 hs pt_105 (by omega) (by decide) e (cmd_105 h (by omega) hc _ _ _ _ _)
      · exact cmd_key hc c4 hs pt_100 (by omega) (by decide) e (cmd_100 h (by omega) hc _ _ _ _ _)
      · exact cmd_key hc c4 hs pt_112 (by omega) (by decide) e (cmd_112 h (by omega) hc _ _ _ _ _)
      · exact cmd_key hc c4 hs pt_109 (by omega) (by decide) e (cmd_109 h (by omega) hc _ _ _ _ _)
      · exact cmd_key hc c4 hs pt_114 (by omega) (by decide) e (cmd_114 h (by omega) hc _ _ _ _ _)
      · exact cmd_key hc c4 hs pt_119 (by omega) (by decide) e (cmd_119 h (by omega) hc _ _ _ _ _)
      · exact cmd_key hc c4 hs pt_120 (by omega) (by decide) e (cmd_120 h (by omega) hc _ _ _ _ _)
    · exact cmd_err ho hc c4 hs e e
  · have hs : ∀ q2, f_X7_sign (mp M (nI o) (-1) cm q2) = some (-1) := fun q2 => (sign_q M _ _ cm 0 q2).trans c5
    exact cmd_err ho hc c4 hs (by decide) (by decide)
