/-! ===== mathematics, 28: the input is parsed ===== -/
theorem pt_105 : pq_pt (nI 105) = 0 := by decide
theorem pt_112 : pq_pt (nI 112) = 0 := by decide
theorem pt_100 : pq_pt (nI 100) = 1 := by decide
theorem pt_109 : pq_pt (nI 109) = 2 := by decide
theorem pt_114 : pq_pt (nI 114) = 3 := by decide
theorem pt_119 : pq_pt (nI 119) = 4 := by decide
theorem pt_120 : pq_pt (nI 120) = 5 := by decide
theorem rdc_in {C : CmdS} {c kd i : Nat} {ks ns : Nat → Int32} {q : Int32} {o : Nat} (hcur : f_X0_current (cp C (nI o) ks ns q) = some (nI kd)) (hi : pq_pt (nI kd) = i) (h7 : i < 7) (hl : pq_le.getD i 0 ≠ 0) (hc : c < 20) : f_X0_readCommand (cp C (nI o) ks ns q) (nI c) = f_X0_readCommand_c46 200 (cp C (nI (o + 1)) (upd ks c (nI kd)) ns q) i (nI (5 * c)) (nI 0) := by
  unfold f_X0_readCommand
  rw [hcur, Option.bind_some, hi, if_pos h7, if_neg hl, if_pos rfl]
  show f_X0_readCommand_c46 200 (C.1, C.2.1, nI o + 1, pq_wr 20 ks (nI c) (nI kd), ns, q) i (nI c * 5) 0 = _
  rw [nI_1, wrn hc (by decide), show (5 : Int32) = nI 5 from rfl, nI_mulX, Nat.mul_comm]; rfl
theorem pt_no {k : Int32} (h : ¬ (k = 105 ∨ k = 100 ∨ k = 112 ∨ k = 109 ∨ k = 114 ∨ k = 119 ∨ k = 120)) : pq_pt k = 6 := by
  unfold pq_pt
  rw [if_neg (fun h9 => h (by rcases h9 with h9 | h9; exact Or.inl h9; exact Or.inr (Or.inr (Or.inl h9)))), if_neg (fun h9 => h (Or.inr (Or.inl h9))), if_neg (fun h9 => h (Or.inr (Or.inr (Or.inr (Or.inl h9))))), if_neg (fun h9 => h (Or.inr (Or.inr (Or.inr (Or.inr (Or.inl h9)))))), if_neg (fun h9 => h (Or.inr (Or.inr (Or.inr (Or.inr (Or.inr (Or.inl h9))))))), if_neg (fun h9 => h (Or.inr (Or.inr (Or.inr (Or.inr (Or.inr (Or.inr h9)))))))]
theorem rdc_no {C : CmdS} {c : Int32} {ks ns : Nat → Int32} {q k : Int32} {o : Nat} (hcur : f_X0_current (cp C (nI o) ks ns q) = some k) (h : ¬ (k = 105 ∨ k = 100 ∨ k = 112 ∨ k = 109 ∨ k = 114 ∨ k = 119 ∨ k = 120)) : f_X0_readCommand (cp C (nI o) ks ns q) c = some (0, cp C (nI o) ks ns q) := by
  unfold f_X0_readCommand
  rw [hcur, Option.bind_some, pt_no h, if_pos (by decide), if_pos (show pq_le.getD 6 0 = 0 by decide), if_neg (by decide)]
theorem commandR {M : ModS} {o c : Nat} {cm : Nat → Int32} {sg : Int32} (hc : c ≤ 20) (hs : ∀ q2, f_X7_sign (mp M (nI o) (-1) cm q2) = some sg) : f_X7_command (mp M (nI o) (-1) cm (nI c)) = (if sg = 105 ∨ sg = 100 ∨ sg = 112 ∨ sg = 109 ∨ sg = 114 ∨ sg = 119 ∨ sg = 120 then f_X7_command_c97 (mp M (nI o) (-1) (z6 cm (6 * c) 6) (nI (c + 1))) (nI (6 * c)) sg else some (mp M (nI o) (nI o) (z6 cm (6 * c) 6) (nI (c + 1)))) := by
  unfold f_X7_command
  show (f_X7_sign (mp M (nI o) (-1) cm (nI c + 1))).bind (fun q110 => f_X7_command_c25 200 (mp M (nI o) (-1) cm (nI c + 1)) (6 * nI c) q110 0) = _
  rw [hs, Option.bind_some, nI_1, show (6 : Int32) = nI 6 from rfl, nI_mulX]
  have := command_c25 (M := M) (h := nI o) (e := -1) (q := nI (c + 1)) (sg := sg) (cm := cm) (b := 6 * c) (by omega) 200 0 (by omega) (by omega)
  rw [z6_0] at this
  exact this
/-- a command on both sides -/
theorem command_ok {C : CmdS} {M : ModS} {L o c : Nat} (h : IRn C M L) (ho : o ≤ L) (hc : c < 20) (ks ns cm : Nat → Int32) (q : Int32) :
    (∃ (ks' ns' : Nat → Int32) (x y : Nat) (cm' : Nat → Int32), x ≤ L ∧ f_X0_readCommand (cp C (nI o) ks ns q) (nI c) = some (0, cp C (nI x) ks' ns' q) ∧ f_X7_command (mp M (nI o) (-1) cm (nI c)) = some (mp M (nI y) (nI x) cm' (nI (c + 1)))) ∨
    (∃ (o' kd : Nat) (ns' cm' : Nat → Int32), o + 2 ≤ o' ∧ o' ≤ L ∧ f_X0_readCommand (cp C (nI o) ks ns q) (nI c) = some (1, cp C (nI o') (upd ks c (nI kd)) ns' q) ∧ f_X7_command (mp M (nI o) (-1) cm (nI c)) = some (mp M (nI o') (-1) cm' (nI (c + 1))) ∧ cm' (6 * c) = nI kd ∧ (∀ j, j < 5 * c → ns' j = ns j) ∧ (∀ j, j < 6 * c → cm' j = cm j) ∧ CQ kd (fun j => ns' (5 * c + j)) (fun j => cm' (6 * c + 1 + j))) := by
  have hL := h.1
  have key : ∀ (kd i : Nat), o < L → f_X0_current (cp C (nI o) ks ns q) = some (nI kd) → (∀ q2, f_X7_sign (mp M (nI o) (-1) cm q2) = some (nI kd)) → pq_pt (nI kd) = i → i < 7 → pq_le.getD i 0 ≠ 0 → (nI kd = 105 ∨ nI kd = 100 ∨ nI kd = 112 ∨ nI kd = 109 ∨ nI kd = 114 ∨ nI kd = 119 ∨ nI kd = 120) → cmdRes C M L o c kd (upd ks c (nI kd)) ns (z6 cm (6 * c) 6) q (nI (c + 1)) (f_X0_readCommand_c46 200 (cp C (nI (o + 1)) (upd ks c (nI kd)) ns q) i (nI (5 * c)) (nI 0)) (f_X7_command_c97 (mp M (nI o) (-1) (z6 cm (6 * c) 6) (nI (c + 1))) (nI (6 * c)) (nI kd)) → _ := fun kd i h1 h2 h3 h4 h5 h6 h7 h8 => by
    have e1 := rdc_in (c := c) h2 h4 h5 h6 hc
    have e2 := commandR (c := c) (by omega) h3
    rw [if_pos h7] at e2
    rcases h8 with ⟨ns', x, y, cm', g1, g2, g3⟩ | ⟨o', ns', cm', g1, g2, g3, g4, g5, g6, g7, g8⟩
    · exact Or.inl ⟨_, ns', x, y, cm', g1, e1.trans g2, e2.trans g3⟩
    · exact Or.inr ⟨o', kd, ns', cm', g1, g2, e1.trans g3, e2.trans g4, g5, g6, fun j hj => (g7 j hj).trans (z6_out hj), g8⟩
  rcases cur_ok h ho ks ns cm q (-1) 0 with ⟨s, c1, c2, c3, c4, c5⟩ | ⟨c1, c4, c5⟩
  · have hs : ∀ q2, f_X7_sign (mp M (nI o) (-1) cm q2) = some (nI s) := fun q2 => c5
    by_cases e : nI s = 105 ∨ nI s = 100 ∨ nI s = 112 ∨ nI s = 109 ∨ nI s = 114 ∨ nI s = 119 ∨ nI s = 120
    · have en : s = 105 ∨ s = 100 ∨ s = 112 ∨ s = 109 ∨ s = 114 ∨ s = 119 ∨ s = 120 := by
        rcases e with e | e | e | e | e | e | e
        · exact Or.inl ((nI_eq (b := 105) (by omega) (by omega)).mp e)
        · exact Or.inr (Or.inl ((nI_eq (b := 100) (by omega) (by omega)).mp e))
        · exact Or.inr (Or.inr (Or.inl ((nI_eq (b := 112) (by omega) (by omega)).mp e)))
        · exact Or.inr (Or.inr (Or.inr (Or.inl ((nI_eq (b := 109) (by omega) (by omega)).mp e))))
        · exact Or.inr (Or.inr (Or.inr (Or.inr (Or.inl ((nI_eq (b := 114) (by omega) (by omega)).mp e)))))
        · exact Or.inr (Or.inr (Or.inr (Or.inr (Or.inr (Or.inl ((nI_eq (b := 119) (by omega) (by omega)).mp e))))))
        · exact Or.inr (Or.inr (Or.inr (Or.inr (Or.inr (Or.inr ((nI_eq (b := 120) (by omega) (by omega)).mp e))))))
      rcases en with rfl | rfl | rfl | rfl | rfl | rfl | rfl
      · exact key 105 0 c1 c4 hs pt_105 (by omega) (by decide) e (cmd_105 h (by omega) hc _ _ _ _ _)
      · exact key 100 1 c1 c4 hs pt_100 (by omega) (by decide) e (cmd_100 h (by omega) hc _ _ _ _ _)
      · exact key 112 0 c1 c4 hs pt_112 (by omega) (by decide) e (cmd_112 h (by omega) hc _ _ _ _ _)
      · exact key 109 2 c1 c4 hs pt_109 (by omega) (by decide) e (cmd_109 h (by omega) hc _ _ _ _ _)
      · exact key 114 3 c1 c4 hs pt_114 (by omega) (by decide) e (cmd_114 h (by omega) hc _ _ _ _ _)
      · exact key 119 4 c1 c4 hs pt_119 (by omega) (by decide) e (cmd_119 h (by omega) hc _ _ _ _ _)
      · exact key 120 5 c1 c4 hs pt_120 (by omega) (by decide) e (cmd_120 h (by omega) hc _ _ _ _ _)
    · refine Or.inl ⟨ks, ns, o, o, z6 cm (6 * c) 6, ho, rdc_no c4 e, ?_⟩
      rw [commandR (by omega) hs, if_neg e]
  · have hs : ∀ q2, f_X7_sign (mp M (nI o) (-1) cm q2) = some (-1) := fun q2 => c5
    refine Or.inl ⟨ks, ns, o, o, z6 cm (6 * c) 6, ho, rdc_no c4 (by decide), ?_⟩
    rw [commandR (by omega) hs, if_neg (by decide)]
/-- command k of both sides -/
def CC (ks ns cm : Nat → Int32) (k : Nat) : Prop := ∃ kd : Nat, ks k = nI kd ∧ cm (6 * k) = nI kd ∧ CQ kd (fun j => ns (5 * k + j)) (fun j => cm (6 * k + 1 + j))
theorem CC.congr {ks ns cm ks' ns' cm' : Nat → Int32} {k c : Nat} (h : CC ks ns cm k) (hk : k < c) (h1 : ∀ j, j < c → ks' j = ks j) (h2 : ∀ j, j < 5 * c → ns' j = ns j) (h3 : ∀ j, j < 6 * c → cm' j = cm j) : CC ks' ns' cm' k := by
  obtain ⟨kd, g1, g2, n, g3, g4⟩ := h
  have hn : n ≤ 5 := by rcases g3 with g3 | g3 | g3 | g3 | g3 | g3 | g3 <;> omega
  refine ⟨kd, (h1 k hk).trans g1, (h3 _ (by omega)).trans g2, n, g3, fun j hj => ?_⟩
  show ns' (5 * k + j) = cm' (6 * k + 1 + j) ∧ ∃ v : Nat, v ≤ 99 ∧ cm' (6 * k + 1 + j) = nI v
  rw [h2 _ (by omega), h3 _ (by omega)]
  exact g4 j hj
def parsed (C : CmdS) (M : ModS) (L : Nat) (rc : Option (Int32 × CmdS)) (rm : Option ModS) : Prop :=
  (∃ (ks ns cm : Nat → Int32) (x y : Nat) (q Q : Int32), x ≤ L ∧ rc = some (0, cp C (nI x) ks ns q) ∧ rm = some (mp M (nI y) (nI x) cm Q)) ∨
  (∃ (ks ns cm : Nat → Int32) (o n : Nat), n ≤ 20 ∧ rc = some (1, cp C (nI o) ks ns (nI n)) ∧ rm = some (mp M (nI o) (-1) cm (nI n)) ∧ ∀ k, k < n → CC ks ns cm k)
theorem c19_err {M : ModS} {h e q : Int32} {cm : Nat → Int32} (he : 0 ≤ e) (n : Nat) : f_X7_parse_c19 (n + 1) (mp M h e cm q) = some (mp M h e cm q) := by
  rw [f_X7_parse_c19, if_pos he, f_X7_parse_c52, if_pos he]
theorem parse_loop {C : CmdS} {M : ModS} {L : Nat} (h : IRn C M L) : ∀ (n1 n2 c o : Nat) (ks ns cm : Nat → Int32), 3 * c ≤ o → o ≤ L → c ≤ 20 → (∀ k, k < c → CC ks ns cm k) → 21 - c < n1 → 21 - c < n2 → parsed C M L (f_X0_parse_c12 n1 (cp C (nI o) ks ns (nI c)) 1) ((f_X7_command (mp M (nI o) (-1) cm (nI c))).bind fun q => f_X7_parse_c19 n2 q)
  | 0, n2, c, o, _, _, _, _, _, _, _, hn, _ => absurd hn (by omega)
  | n1 + 1, 0, c, o, _, _, _, _, _, _, _, _, hn => absurd hn (by omega)
  | n1 + 1, n2 + 1, c, o, ks, ns, cm, h3, ho, h20, hcc, hn1, hn2 => by
    have hL := h.1
    rw [f_X0_parse_c12, if_neg n10]
    by_cases e : c = 20
    · have eo : o = L := by omega
      rcases cur_ok h ho ks ns cm (nI c) (-1) 0 with ⟨s, c1, -⟩ | ⟨c1, c4, c5⟩
      · omega
      · rw [if_pos (show (20 : Int32) ≤ nI c from nI_le (a := 20) (by omega) (by omega)), commandR (sg := -1) (by omega) (fun q2 => c5), if_neg (by decide), Option.bind_some, c19_err (nI_pos' (by omega))]
        exact Or.inl ⟨ks, ns, _, o, o, _, _, ho, rfl, rfl⟩
    · rw [if_neg (show ¬ (20 : Int32) ≤ nI c from nI_ge (b := 20) (by omega) (by omega))]
      show parsed C M L ((f_X0_readCommand (cp C (nI o) ks ns (nI c)) (nI c)).bind _) _
      rcases command_ok h ho (c := c) (by omega) ks ns cm (nI c) with ⟨ks', ns', x, y, cm', g1, g2, g3⟩ | ⟨o', kd, ns', cm', g1, g2, g3, g4, g5, g6, g7, g8⟩
      · rw [g2, g3, Option.bind_some, Option.bind_some, if_pos rfl, c19_err (nI_pos' (by omega))]
        exact Or.inl ⟨_, _, _, x, y, _, _, g1, rfl, rfl⟩
      · rw [g3, g4, Option.bind_some, Option.bind_some, if_neg n10]
        show parsed C M L ((f_X0_take (cp C (nI o') (upd ks c (nI kd)) ns' (nI c + 1)) 59).bind _) _
        rw [nI_1]
        have hcc' : ∀ k, k < c + 1 → CC (upd ks c (nI kd)) ns' cm' k := fun k hk => by
          by_cases ek : k = c
          · rw [ek]
            exact ⟨kd, upd_eq _ _ _, g5, g8⟩
          · exact (hcc k (by omega)).congr (c := c) (by omega) (fun j hj => upd_ne _ _ (by omega)) g6 g7
        have hsg : ∀ sg : Int32, f_X7_sign (mp M (nI o') (-1) cm' (nI (c + 1))) = some sg → f_X7_parse_c19 (n2 + 1) (mp M (nI o') (-1) cm' (nI (c + 1))) = if sg = 59 then (f_X7_command (mp M (nI o' + 1) (-1) cm' (nI (c + 1)))).bind fun q => f_X7_parse_c19 n2 q else f_X7_parse_c52 (mp M (nI o') (-1) cm' (nI (c + 1))) := fun sg hsg => by
          rw [f_X7_parse_c19, if_neg neg1le]
          show (f_X7_sign (mp M (nI o') (-1) cm' (nI (c + 1)))).bind _ = _
          rw [hsg, Option.bind_some]
        rcases cur_ok h g2 (upd ks c (nI kd)) ns' cm' (nI (c + 1)) (-1) (nI (c + 1)) with ⟨s, c1, c2, c3, c4, c5⟩ | ⟨c1, c4, c5⟩
        · by_cases es : s = 59
          · have ht : f_X0_take (cp C (nI o') (upd ks c (nI kd)) ns' (nI (c + 1))) 59 = some (1, cp C (nI (o' + 1)) (upd ks c (nI kd)) ns' (nI (c + 1))) := by
              unfold f_X0_take
              rw [c4, Option.bind_some, es, if_pos (show nI 59 = 59 from rfl)]
              show some (1, (C.1, C.2.1, nI o' + 1, upd ks c (nI kd), ns', nI (c + 1))) = _
              rw [nI_1]
            rw [ht, Option.bind_some, hsg _ c5, es, if_pos (show nI 59 = 59 from rfl), nI_1]
            exact parse_loop h n1 n2 (c + 1) (o' + 1) _ _ _ (by omega) (by omega) (by omega) hcc' (by omega) (by omega)
          · have hne : ¬ nI s = 59 := fun h9 => es ((nI_eq (b := 59) (by omega) (by omega)).mp h9)
            have ht : f_X0_take (cp C (nI o') (upd ks c (nI kd)) ns' (nI (c + 1))) 59 = some (0, cp C (nI o') (upd ks c (nI kd)) ns' (nI (c + 1))) := by
              unfold f_X0_take
              rw [c4, Option.bind_some, if_neg hne]
            rw [ht, Option.bind_some, hsg _ c5, if_neg hne]
            obtain ⟨n1, rfl⟩ : ∃ n', n1 = n' + 1 := ⟨n1 - 1, by omega⟩
            rw [f_X0_parse_c12, if_pos rfl, f_X0_parse_c56, if_pos rfl, f_X7_parse_c52, if_neg neg1le]
            show parsed C M L (if nI o' = C.2.1 then _ else _) (if M.2.2.2.2.2.2.2.2.2.2.2.1 ≤ nI o' then _ else _)
            rw [h.2.1, h.2.2.1, if_neg (fun h9 => by have := (nI_eq (by omega) (by omega)).mp h9; omega), if_neg (nI_ge c1 (by omega))]
            exact Or.inl ⟨_, _, _, o', o', _, _, g2, rfl, rfl⟩
        · have ht : f_X0_take (cp C (nI o') (upd ks c (nI kd)) ns' (nI (c + 1))) 59 = some (0, cp C (nI o') (upd ks c (nI kd)) ns' (nI (c + 1))) := by
            unfold f_X0_take
            rw [c4, Option.bind_some, if_neg (by decide)]
          rw [ht, Option.bind_some, hsg _ c5, if_neg (by decide)]
          obtain ⟨n1, rfl⟩ : ∃ n', n1 = n' + 1 := ⟨n1 - 1, by omega⟩
          rw [f_X0_parse_c12, if_pos rfl, f_X0_parse_c56, if_pos rfl, f_X7_parse_c52, if_neg neg1le]
          show parsed C M L (if nI o' = C.2.1 then _ else _) (if M.2.2.2.2.2.2.2.2.2.2.2.1 ≤ nI o' then _ else _)
          rw [h.2.1, h.2.2.1, c1, if_pos rfl, if_pos (nI_le (Nat.le_refl _) (by omega)), ← c1]
          exact Or.inr ⟨_, _, _, o', c + 1, by omega, rfl, rfl, hcc'⟩
theorem parse_ok {C : CmdS} {M : ModS} {L : Nat} (h : IRn C M L) : parsed C M L (f_X0_parse C) (f_X7_parse M) := by
  have := parse_loop h 200 200 0 0 C.2.2.2.1 C.2.2.2.2.1 M.2.2.2.2.2.2.2.2.2.2.2.2.2.2.2.1 (by omega) (by omega) (by omega) (fun k hk => by omega) (by omega) (by omega)
  exact this
