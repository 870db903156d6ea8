/-! ===== mathematics, 28: the input is parsed ===== -/
theorem pt_105 : pq_pt (nI 105) = 0 := by decide
theorem pt_112 : pq_pt (nI 112) = 0 := by decide
theorem pt_100 : pq_pt (nI 100) = 1 := by decide
theorem pt_109 : pq_pt (nI 109) = 2 := by decide
theorem pt_114 : pq_pt (nI 114) = 3 := by decide
theorem pt_119 : pq_pt (nI 119) = 4 := by decide
theorem pt_120 : pq_pt (nI 120) = 5 := by decide
theorem rdc_in {C : CmdS} {c kd i : Nat} {ks ns : Nat → Int32} {q : Int32} {o : Nat} (hcur : f_X0_current (cp C (nI o) ks ns q) = some (nI kd)) (hi : pq_pt (nI kd) = i) (h7 : i < 7) (hl : pq_le.getD i 0 ≠ 0) (hc : c < 20) : f_X0_readCommand (cp C (nI o) ks ns q) (nI c) = f_X0_readCommand_c46 200 (cp C (nI (o + 1)) (upd ks c (nI kd)) ns q) i (nI (5 * c)) (nI 0) := by
  unfold f_X0_readCommand
  rw [hcur, Option.bind_some, hi, if_pos h7, if_neg hl, if_pos rfl]
  show f_X0_readCommand_c46 200 (C.1, C.2.1, nI o + 1, pq_wr 20 ks (nI c) (nI kd), ns, q) i (nI c * 5) 0 = _
  rw [nI_1, wrn hc (by decide), show (5 : Int32) = nI 5 from rfl, nI_mulX, Nat.mul_comm]; rfl
theorem pt_no {k : Int32} (h : ¬ (k = 105 ∨ k = 100 ∨ k = 112 ∨ k = 109 ∨ k = 114 ∨ k = 119 ∨ k = 120)) : pq_pt k = 6 := by
  unfold pq_pt
  rw [if_neg (fun h9 => h (by rcases h9 with h9 | h9; exact Or.inl h9; exact Or.inr (Or.inr (Or.inl h9)))), if_neg (fun h9 => h (Or.inr (Or.inl h9))), if_neg (fun h9 => h (Or.inr (Or.inr (Or.inr (Or.inl h9))))), if_neg (fun h9 => h (Or.inr (Or.inr (Or.inr (Or.inr (Or.inl h9)))))), if_neg (fun h9 => h (Or.inr (Or.inr (Or.inr (Or.inr (Or.inr (Or.inl h9))))))), if_neg (fun h9 => h (Or.inr (Or.inr (Or.inr (Or.inr (Or.inr (Or.inr h9)))))))]
theorem rdc_no {C : CmdS} {c : Int32} {ks ns : Nat → Int32} {q k : Int32} {o : Nat} (hcur : f_X0_current (cp C (nI o) ks ns q) = some k) (h : ¬ (k = 105 ∨ k = 100 ∨ k = 112 ∨ k = 109 ∨ k = 114 ∨ k = 119 ∨ k = 120)) : f_X0_readCommand (cp C (nI o) ks ns q) c = some (0, cp C (nI o) ks ns q) := by
  unfold f_X0_readCommand
  rw [hcur, Option.bind_some, pt_no h, if_pos (by decide), if_pos (show pq_le.getD 6 0 = 0 by decide), if_neg (by decide)]
theorem commandR {M : ModS} {o c : Nat} {cm : Nat → Int32} {sg : Int32} (hc : c ≤ 20) (hs : ∀ q2, f_X7_sign (mp M (nI o) (-1) cm q2) = some sg) : f_X7_command (mp M (nI o) (-1) cm (nI c)) = (if sg = 105 ∨ sg = 100 ∨ sg = 112 ∨ sg = 109 ∨ sg = 114 ∨ sg = 119 ∨ sg = 120 then f_X7_command_c97 (mp M (nI o) (-1) (z6 cm (6 * c) 6) (nI (c + 1))) (nI (6 * c)) sg else some (mp M (nI o) (nI o) (z6 cm (6 * c) 6) (nI (c + 1)))) := by
  unfold f_X7_command
  show (f_X7_sign (mp M (nI o) (-1) cm (nI c + 1))).bind (fun q110 => f_X7_command_c25 200 (mp M (nI o) (-1) cm (nI c + 1)) (6 * nI c) q110 0) = _
  rw [hs, Option.bind_some, nI_1, show (6 : Int32) = nI 6 from rfl, nI_mulX]
  have := command_c25 (M := M) (h := nI o) (e := -1) (q := nI (c + 1)) (sg := sg) (cm := cm) (b := 6 * c) (by omega) 200 0 (by omega) (by omega)
  rw [z6_0] at this
  exact this
/-- a command on both sides -/
def cmdBoth (C : CmdS) (M : ModS) (L o c : Nat) (ks ns cm : Nat → Int32) (q : Int32) : Prop :=
    (∃ (ks' ns' : Nat → Int32) (x y : Nat) (cm' : Nat → Int32), x ≤ L ∧ f_X0_readCommand (cp C (nI o) ks ns q) (nI c) = some (0, cp C (nI x) ks' ns' q) ∧ f_X7_command (mp M (nI o) (-1) cm (nI c)) = some (mp M (nI y) (nI x) cm' (nI (c + 1)))) ∨
    (∃ (o' kd : Nat) (ns' cm' : Nat → Int32), o + 2 ≤ o' ∧ o' ≤ L ∧ f_X0_readCommand (cp C (nI o) ks ns q) (nI c) = some (1, cp C (nI o') (upd ks c (nI kd)) ns' q) ∧ f_X7_command (mp M (nI o) (-1) cm (nI c)) = some (mp M (nI o') (-1) cm' (nI (c + 1))) ∧ cm' (6 * c) = nI kd ∧ (∀ j, j < 5 * c → ns' j = ns j) ∧ (∀ j, j < 6 * c → cm' j = cm j) ∧ CQ kd (fun j => ns' (5 * c + j)) (fun j => cm' (6 * c + 1 + j)))
