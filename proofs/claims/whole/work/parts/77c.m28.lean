/-! ===== mathematics, 28c: the parser's loop ===== -/
theorem parse_loop {C : CmdS} {M : ModS} {L : Nat} (h : IRn C M L) : ∀ (n1 n2 c o : Nat) (ks ns cm : Nat → Int32), 3 * c ≤ o → o ≤ L → c ≤ 20 → (∀ k, k < c → CC ks ns cm k) → 21 - c < n1 → 21 - c < n2 → parsed C M L (f_X0_parse_c12 n1 (cp C (nI o) ks ns (nI c)) 1) ((f_X7_command (mp M (nI o) (-1) cm (nI c))).bind fun q => f_X7_parse_c19 n2 q) := by
  intro n1
  induction n1 with
  | zero => intro n2 c o ks ns cm h3 ho h20 hcc hn1 hn2; exact absurd hn1 (by omega)
  | succ n1 ih =>
    intro n2 c o ks ns cm h3 ho h20 hcc hn1 hn2
    obtain ⟨n2, rfl⟩ : ∃ n', n2 = n' + 1 := ⟨n2 - 1, by omega⟩
    have hL := h.1
    by_cases e : c = 20
    · have eo : o = L := by omega
      rcases cur_ok h ho ks ns cm (nI c) (-1) 0 with ⟨s, c1, -⟩ | ⟨c1, c4, c5⟩
      · omega
      · rw [commandR (sg := -1) (by omega) (fun q2 => c5), if_neg (by decide), Option.bind_some, c19_err (nI_pos' (by omega)), e, c12_20]
        exact Or.inl ⟨ks, ns, z6 cm (6 * 20) 6, o, o, nI 20, nI 21, ho, rfl, rfl⟩
    · rw [c12_1 n1 (by omega)]
      rcases command_ok h ho (c := c) (by omega) ks ns cm (nI c) with ⟨ks', ns', x, y, cm', g1, g2, g3⟩ | ⟨o', kd, ns', cm', g1, g2, g3, g4, g5, g6, g7, g8⟩
      · rw [g2, g3, Option.bind_some, Option.bind_some, if_pos rfl, c19_err (nI_pos' (by omega))]
        exact Or.inl ⟨ks', ns', cm', x, y, nI c, nI (c + 1), g1, rfl, rfl⟩
      · rw [g3, g4, Option.bind_some, Option.bind_some, if_neg n10]
        show parsed C M L ((f_X0_take (cp C (nI o') (upd ks c (nI kd)) ns' (nI c + 1)) 59).bind fun q9 => f_X0_parse_c12 n1 q9.2 q9.1) (f_X7_parse_c19 (n2 + 1) (mp M (nI o') (-1) cm' (nI (c + 1))))
        rw [nI_1]
        have hcc' : ∀ k, k < c + 1 → CC (upd ks c (nI kd)) ns' cm' k := fun k hk => by
          by_cases ek : k = c
          · rw [ek]
            exact ⟨kd, upd_eq _ _ _, g5, g8⟩
          · exact (hcc k (by omega)).congr (c := c) (by omega) (fun j hj => upd_ne _ _ (by omega)) g6 g7
        rcases cur_ok h g2 (upd ks c (nI kd)) ns' cm' (nI (c + 1)) (-1) (nI (c + 1)) with ⟨s, c1, c2, c3, c4, c5⟩ | ⟨c1, c4, c5⟩
        · rw [take_59 c4, c19_1 n2 c5]
          by_cases es : s = 59
          · rw [es, if_pos (show nI 59 = 59 from rfl), if_pos (show nI 59 = 59 from rfl), nI_1, Option.bind_some]
            exact ih n2 (c + 1) (o' + 1) (upd ks c (nI kd)) ns' cm' (by omega) (by omega) (by omega) hcc' (by omega) (by omega)
          · have hne : ¬ nI s = 59 := fun h9 => es ((nI_eq (b := 59) (by omega) (by omega)).mp h9)
            obtain ⟨n1, rfl⟩ : ∃ n', n1 = n' + 1 := ⟨n1 - 1, by omega⟩
            rw [if_neg hne, if_neg hne, Option.bind_some]
            show parsed C M L (f_X0_parse_c12 (n1 + 1) (cp C (nI o') (upd ks c (nI kd)) ns' (nI (c + 1))) 0) _
            rw [c12_0, c52_0, if_neg (show ¬ nI o' = C.2.1 from fun h9 => by rw [h.2.1] at h9; have := (nI_eq (by omega) (by omega)).mp h9; omega), if_neg (show ¬ M.2.2.2.2.2.2.2.2.2.2.2.1 ≤ nI o' from by rw [h.2.2.1]; exact nI_ge c1 (by omega))]
            exact Or.inl ⟨upd ks c (nI kd), ns', cm', o', o', nI (c + 1), nI (c + 1), g2, rfl, rfl⟩
        · obtain ⟨n1, rfl⟩ : ∃ n', n1 = n' + 1 := ⟨n1 - 1, by omega⟩
          rw [take_59 c4, c19_1 n2 c5, if_neg (show ¬ (0 : Int32) = 59 by decide), if_neg (show ¬ (-1 : Int32) = 59 by decide), Option.bind_some]
          show parsed C M L (f_X0_parse_c12 (n1 + 1) (cp C (nI o') (upd ks c (nI kd)) ns' (nI (c + 1))) 0) _
          rw [c12_0, c52_0, if_pos (show nI o' = C.2.1 from by rw [h.2.1, c1]), if_pos (show M.2.2.2.2.2.2.2.2.2.2.2.1 ≤ nI o' from by rw [h.2.2.1, c1]; exact nI_le (Nat.le_refl _) (by omega))]
          exact Or.inr ⟨upd ks c (nI kd), ns', cm', o', c + 1, by omega, rfl, rfl, hcc'⟩
