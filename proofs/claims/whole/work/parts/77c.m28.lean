/-! ===== mathematics, 28c: the parser's loop ===== -/
abbrev plG (C : CmdS) (M : ModS) (L n1 n2 o c : Nat) (ks ns cm : Nat → Int32) : Prop := parsed C M L (f_X0_parse_c12 n1 (cp C (nI o) ks ns (nI c)) 1) ((f_X7_command (mp M (nI o) (-1) cm (nI c))).bind fun q => f_X7_parse_c19 n2 q)
abbrev plT (C : CmdS) (M : ModS) (L n1 n2 o c : Nat) (ks ns cm : Nat → Int32) : Prop := parsed C M L ((f_X0_take (cp C (nI o) ks ns (nI c)) 59).bind fun q9 => f_X0_parse_c12 n1 q9.2 q9.1) (f_X7_parse_c19 (n2 + 1) (mp M (nI o) (-1) cm (nI c)))
set_option maxHeartbeats 40000 in
theorem pl_20 {C : CmdS} {M : ModS} {L n1 n2 o : Nat} {ks ns cm : Nat → Int32} (h : IRn C M L) (ho : o = L) : plG C M L (n1 + 1) (n2 + 1) o 20 ks ns cm := by
  have hL := h.1
  rcases cur_ok (o := o) h (by omega) ks ns cm (nI 20) (-1) 0 with ⟨s, c1, -⟩ | ⟨c1, c4, c5⟩
  · omega
  · have e := commandR (c := 20) (cm := cm) (by omega) (fun q2 => (sign_q M _ _ cm 0 q2).trans c5)
    rw [if_neg (by decide)] at e
    refine Or.inl ⟨ks, ns, z6 cm (6 * 20) 6, o, o, nI 20, nI (20 + 1), by omega, c12_20 n1, ?_⟩
    rw [e, Option.bind_some]
    exact c19_err (nI_pos' (by omega)) n2
set_option maxHeartbeats 40000 in
theorem pl_bad {C : CmdS} {M : ModS} {L n1 n2 o c x y : Nat} {ks ns cm ks' ns' cm' : Nat → Int32} (hL : L ≤ 60) (hc : c < 20) (g1 : x ≤ L) (g2 : f_X0_readCommand (cp C (nI o) ks ns (nI c)) (nI c) = some (0, cp C (nI x) ks' ns' (nI c))) (g3 : f_X7_command (mp M (nI o) (-1) cm (nI c)) = some (mp M (nI y) (nI x) cm' (nI (c + 1)))) : plG C M L (n1 + 1) (n2 + 1) o c ks ns cm := by
  refine Or.inl ⟨ks', ns', cm', x, y, nI c, nI (c + 1), g1, ?_, ?_⟩
  · rw [c12_1 n1 hc, g2, Option.bind_some, if_pos rfl]
  · rw [g3, Option.bind_some]
    exact c19_err (nI_pos' (by omega)) n2
set_option maxHeartbeats 40000 in
theorem pl_step {C : CmdS} {M : ModS} {L n1 n2 o o' c : Nat} {ks ns cm ks' ns' cm' : Nat → Int32} (hc : c < 20) (g2 : f_X0_readCommand (cp C (nI o) ks ns (nI c)) (nI c) = some (1, cp C (nI o') ks' ns' (nI c))) (g3 : f_X7_command (mp M (nI o) (-1) cm (nI c)) = some (mp M (nI o') (-1) cm' (nI (c + 1)))) (hT : plT C M L n1 n2 o' (c + 1) ks' ns' cm') : plG C M L (n1 + 1) (n2 + 1) o c ks ns cm := by
  unfold plG
  rw [c12_1 n1 hc, g2, g3, Option.bind_some, Option.bind_some, if_neg n10]
  have e : ((1 : Int32), cp C (nI o') ks' ns' (nI c)).2.2.2.2.2.2 + 1 = nI (c + 1) := nI_1 c
  rw [e]
  exact hT
set_option maxHeartbeats 40000 in
theorem pl_59 {C : CmdS} {M : ModS} {L n1 n2 o c : Nat} {ks ns cm : Nat → Int32} (c4 : f_X0_current (cp C (nI o) ks ns (nI c)) = some 59) (c5 : f_X7_sign (mp M (nI o) (-1) cm (nI c)) = some 59) (hG : plG C M L n1 n2 (o + 1) c ks ns cm) : plT C M L n1 n2 o c ks ns cm := by
  unfold plT
  rw [take_59 c4, c19_1 n2 c5, if_pos rfl, if_pos rfl, nI_1, Option.bind_some]
  exact hG
set_option maxHeartbeats 40000 in
theorem pl_end {C : CmdS} {M : ModS} {L n1 n2 o c : Nat} {ks ns cm : Nat → Int32} {k k2 : Int32} (h : IRn C M L) (ho : o ≤ L) (hc : c ≤ 20) (hcc : ∀ k, k < c → CC ks ns cm k) (c4 : f_X0_current (cp C (nI o) ks ns (nI c)) = some k) (c5 : f_X7_sign (mp M (nI o) (-1) cm (nI c)) = some k2) (e1 : ¬ k = 59) (e2 : ¬ k2 = 59) : plT C M L (n1 + 1) n2 o c ks ns cm := by
  have hL := h.1
  by_cases e : o = L
  · refine Or.inr ⟨ks, ns, cm, o, c, hc, ?_, ?_, hcc⟩
    · rw [take_59 c4, if_neg e1, Option.bind_some]
      exact (c12_0 n1).trans (if_pos (show nI o = C.2.1 from by rw [h.2.1, e]))
    · rw [c19_1 n2 c5, if_neg e2]
      exact c52_0.trans (if_pos (show M.2.2.2.2.2.2.2.2.2.2.2.1 ≤ nI o from by rw [h.2.2.1, e]; exact nI_le (Nat.le_refl _) (by omega)))
  · refine Or.inl ⟨ks, ns, cm, o, o, nI c, nI c, ho, ?_, ?_⟩
    · rw [take_59 c4, if_neg e1, Option.bind_some]
      exact (c12_0 n1).trans (if_neg (show ¬ nI o = C.2.1 from fun h9 => by rw [h.2.1] at h9; exact e ((nI_eq (by omega) (by omega)).mp h9)))
    · rw [c19_1 n2 c5, if_neg e2]
      exact c52_0.trans (if_neg (show ¬ M.2.2.2.2.2.2.2.2.2.2.2.1 ≤ nI o from by rw [h.2.2.1]; exact nI_ge (by omega) (by omega)))
set_option maxHeartbeats 100000 in
theorem parse_loop {C : CmdS} {M : ModS} {L : Nat} (h : IRn C M L) : ∀ (n1 n2 c o : Nat) (ks ns cm : Nat → Int32), 3 * c ≤ o → o ≤ L → c ≤ 20 → (∀ k, k < c → CC ks ns cm k) → 21 - c < n1 → 21 - c < n2 → plG C M L n1 n2 o c ks ns cm := by
  intro n1
  induction n1 with
  | zero => intro n2 c o ks ns cm h3 ho h20 hcc hn1 hn2; exact absurd hn1 (by omega)
  | succ n1 ih =>
    intro n2 c o ks ns cm h3 ho h20 hcc hn1 hn2
    obtain ⟨n2, rfl⟩ : ∃ n', n2 = n' + 1 := ⟨n2 - 1, by omega⟩
    have hL := h.1
    by_cases e : c = 20
    · subst e
      exact pl_20 h (by omega)
    · rcases command_ok h ho (c := c) (by omega) ks ns cm (nI c) with ⟨ks', ns', x, y, cm', g1, g2, g3⟩ | ⟨o', kd, ns', cm', g1, g2, g3, g4, g5, g6, g7, g8⟩
      · exact pl_bad hL (by omega) g1 g2 g3
      · refine pl_step (by omega) g3 g4 ?_
        have hcc' : ∀ k, k < c + 1 → CC (upd ks c (nI kd)) ns' cm' k := fun k hk => by
          by_cases ek : k = c
          · rw [ek]
            exact ⟨kd, upd_eq _ _ _, g5, g8⟩
          · exact (hcc k (by omega)).congr (c := c) (by omega) (fun j hj => upd_ne _ _ (by omega)) g6 g7
        rcases cur_ok h g2 (upd ks c (nI kd)) ns' cm' (nI (c + 1)) (-1) (nI (c + 1)) with ⟨s, c1, c2, c3, c4, c5⟩ | ⟨c1, c4, c5⟩
        · by_cases es : s = 59
          · subst es
            exact pl_59 c4 c5 (ih n2 (c + 1) (o' + 1) (upd ks c (nI kd)) ns' cm' (by omega) (by omega) (by omega) hcc' (by omega) (by omega))
          · have hne : ¬ nI s = 59 := fun h9 => es ((nI_eq (b := 59) (by omega) (by omega)).mp h9)
            obtain ⟨n1, rfl⟩ : ∃ n', n1 = n' + 1 := ⟨n1 - 1, by omega⟩
            exact pl_end h g2 (by omega) hcc' c4 c5 hne hne
        · obtain ⟨n1, rfl⟩ : ∃ n', n1 = n' + 1 := ⟨n1 - 1, by omega⟩
          exact pl_end h g2 (by omega) hcc' c4 c5 (by decide) (by decide)
