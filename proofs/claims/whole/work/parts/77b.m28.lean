/-! ===== mathematics, 28b: steps of the parser ===== -/
/-- command k of both sides -/
def CC (ks ns cm : Nat → Int32) (k : Nat) : Prop := ∃ kd : Nat, ks k = nI kd ∧ cm (6 * k) = nI kd ∧ CQ kd (fun j => ns (5 * k + j)) (fun j => cm (6 * k + 1 + j))
theorem CC.congr {ks ns cm ks' ns' cm' : Nat → Int32} {k c : Nat} (h : CC ks ns cm k) (hk : k < c) (h1 : ∀ j, j < c → ks' j = ks j) (h2 : ∀ j, j < 5 * c → ns' j = ns j) (h3 : ∀ j, j < 6 * c → cm' j = cm j) : CC ks' ns' cm' k := by
  obtain ⟨kd, g1, g2, n, g3, g4⟩ := h
  have hn : n ≤ 5 := by rcases g3 with g3 | g3 | g3 | g3 | g3 | g3 | g3 <;> omega
  refine ⟨kd, (h1 k hk).trans g1, (h3 _ (by omega)).trans g2, n, g3, fun j hj => ?_⟩
  show ns' (5 * k + j) = cm' (6 * k + 1 + j) ∧ ∃ v : Nat, v ≤ 99 ∧ cm' (6 * k + 1 + j) = nI v
  rw [h2 _ (by omega), h3 _ (by omega)]
  exact g4 j hj
def parsed (C : CmdS) (M : ModS) (L : Nat) (rc : Option (Int32 × CmdS)) (rm : Option ModS) : Prop :=
  (∃ (ks ns cm : Nat → Int32) (x y : Nat) (q Q : Int32), x ≤ L ∧ rc = some (0, cp C (nI x) ks ns q) ∧ rm = some (mp M (nI y) (nI x) cm Q)) ∨
  (∃ (ks ns cm : Nat → Int32) (o n : Nat), n ≤ 20 ∧ rc = some (1, cp C (nI o) ks ns (nI n)) ∧ rm = some (mp M (nI o) (-1) cm (nI n)) ∧ ∀ k, k < n → CC ks ns cm k)
theorem c19_err {M : ModS} {h e q : Int32} {cm : Nat → Int32} (he : 0 ≤ e) (n : Nat) : f_X7_parse_c19 (n + 1) (mp M h e cm q) = some (mp M h e cm q) := by
  rw [f_X7_parse_c19, if_pos he, f_X7_parse_c52, if_pos he]
theorem c12_0 {C : CmdS} {o : Nat} {ks ns : Nat → Int32} {q : Int32} (n : Nat) : f_X0_parse_c12 (n + 1) (cp C (nI o) ks ns q) 0 = if nI o = C.2.1 then some (1, cp C (nI o) ks ns q) else some (0, cp C (nI o) ks ns q) := by
  rw [f_X0_parse_c12, if_pos rfl, f_X0_parse_c56, if_pos rfl]
theorem c52_0 {M : ModS} {h q : Int32} {cm : Nat → Int32} : f_X7_parse_c52 (mp M h (-1) cm q) = if M.2.2.2.2.2.2.2.2.2.2.2.1 ≤ h then some (mp M h (-1) cm q) else some (mp M h h cm q) := by
  unfold f_X7_parse_c52
  rw [if_neg neg1le]
theorem c19_1 {M : ModS} {h sg q : Int32} {cm : Nat → Int32} (n : Nat) (hsg : f_X7_sign (mp M h (-1) cm q) = some sg) : f_X7_parse_c19 (n + 1) (mp M h (-1) cm q) = if sg = 59 then (f_X7_command (mp M (h + 1) (-1) cm q)).bind fun q => f_X7_parse_c19 n q else f_X7_parse_c52 (mp M h (-1) cm q) := by
  rw [f_X7_parse_c19, if_neg neg1le, hsg, Option.bind_some]
theorem take_59 {C : CmdS} {o : Nat} {ks ns : Nat → Int32} {q c : Int32} (hcur : f_X0_current (cp C (nI o) ks ns q) = some c) : f_X0_take (cp C (nI o) ks ns q) 59 = if c = 59 then some (1, cp C (nI (o + 1)) ks ns q) else some (0, cp C (nI o) ks ns q) := by
  unfold f_X0_take
  rw [hcur, Option.bind_some]
  show (if c = 59 then some ((1 : Int32), ((C.1, C.2.1, nI o + 1, ks, ns, q) : CmdS)) else some (0, cp C (nI o) ks ns q)) = _
  rw [nI_1]
theorem c12_1 {C : CmdS} {o c : Nat} {ks ns : Nat → Int32} (n : Nat) (hc : c < 20) : f_X0_parse_c12 (n + 1) (cp C (nI o) ks ns (nI c)) 1 = (f_X0_readCommand (cp C (nI o) ks ns (nI c)) (nI c)).bind fun q6 => if q6.1 = 0 then some (0, q6.2) else (f_X0_take (q6.2.1, q6.2.2.1, q6.2.2.2.1, q6.2.2.2.2.1, q6.2.2.2.2.2.1, (q6.2.2.2.2.2.2 + 1)) 59).bind fun q9 => f_X0_parse_c12 n q9.2 q9.1 := by
  rw [f_X0_parse_c12, if_neg n10, if_neg (show ¬ (20 : Int32) ≤ nI c from nI_ge (b := 20) (by omega) (by omega))]
  simp only [f_X0_parse_c56, if_neg n10]
theorem c12_20 {C : CmdS} {o : Nat} {ks ns : Nat → Int32} (n : Nat) : f_X0_parse_c12 (n + 1) (cp C (nI o) ks ns (nI 20)) 1 = some (0, cp C (nI o) ks ns (nI 20)) := by
  rw [f_X0_parse_c12, if_neg n10, if_pos (show (20 : Int32) ≤ nI 20 by decide), f_X0_parse_c56, if_neg n10]
