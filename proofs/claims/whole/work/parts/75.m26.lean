/-! ===== mathematics, 26: the commands are read ===== -/
abbrev mp (M : ModS) (h e : Int32) (cm : Nat → Int32) (q : Int32) : ModS := (M.1, M.2.1, M.2.2.1, M.2.2.2.1, M.2.2.2.2.1, M.2.2.2.2.2.1, M.2.2.2.2.2.2.1, M.2.2.2.2.2.2.2.1, M.2.2.2.2.2.2.2.2.1, M.2.2.2.2.2.2.2.2.2.1, M.2.2.2.2.2.2.2.2.2.2.1, M.2.2.2.2.2.2.2.2.2.2.2.1, h, e, M.2.2.2.2.2.2.2.2.2.2.2.2.2.2.1, cm, q)
abbrev cp (C : CmdS) (o : Int32) (ks ns : Nat → Int32) (q : Int32) : CmdS := (C.1, C.2.1, o, ks, ns, q)
def IRn (C : CmdS) (M : ModS) (L : Nat) : Prop := L ≤ 60 ∧ C.2.1 = nI L ∧ M.2.2.2.2.2.2.2.2.2.2.2.1 = nI L ∧ ∀ i, i < L → C.1 i = M.2.2.2.2.2.2.2.2.2.2.1 i ∧ ∃ c : Nat, 32 ≤ c ∧ c ≤ 126 ∧ M.2.2.2.2.2.2.2.2.2.2.1 i = nI c
/-- the sign at a place: a code, or none -/
theorem cur_ok {C : CmdS} {M : ModS} {L o : Nat} (h : IRn C M L) (ho : o ≤ L) (ks ns cm : Nat → Int32) (q e q2 : Int32) : (∃ c : Nat, o < L ∧ 32 ≤ c ∧ c ≤ 126 ∧ f_X0_current (cp C (nI o) ks ns q) = some (nI c) ∧ f_X7_sign (mp M (nI o) e cm q2) = some (nI c)) ∨ (o = L ∧ f_X0_current (cp C (nI o) ks ns q) = some 0 ∧ f_X7_sign (mp M (nI o) e cm q2) = some (-1)) := by
  obtain ⟨h1, h2, h3, h4⟩ := h
  unfold f_X0_current f_X7_sign
  rw [h2, h3]
  by_cases e : o = L
  · rw [if_pos (nI_le (by omega) (by omega)), if_pos (nI_le (by omega) (by omega))]
    exact Or.inr ⟨e, rfl, rfl⟩
  · obtain ⟨c1, c, c2, c3, c4⟩ := h4 o (by omega)
    rw [if_neg (nI_ge (by omega) (by omega)), if_neg (nI_ge (by omega) (by omega)), rdn (show o < 60 by omega) (by decide), if_neg (nI_in (by omega) (by decide)), nI_clamp (by omega), c1, c4]
    exact Or.inl ⟨c, by omega, c2, c3, rfl, rfl⟩
theorem take_ok {C : CmdS} {M : ModS} {L o s : Nat} (h : IRn C M L) (ho : o ≤ L) (hs : 32 ≤ s ∧ s ≤ 126) (ks ns cm : Nat → Int32) (q q2 : Int32) : (o < L ∧ f_X0_take (cp C (nI o) ks ns q) (nI s) = some (1, cp C (nI (o + 1)) ks ns q) ∧ f_X7_needs (mp M (nI o) (-1) cm q2) (nI s) = some (mp M (nI (o + 1)) (-1) cm q2)) ∨ (f_X0_take (cp C (nI o) ks ns q) (nI s) = some (0, cp C (nI o) ks ns q) ∧ f_X7_needs (mp M (nI o) (-1) cm q2) (nI s) = some (mp M (nI o) (nI o) cm q2)) := by
  unfold f_X0_take f_X7_needs
  rw [if_pos neg1lt]
  rcases cur_ok h ho ks ns cm q (-1) q2 with ⟨c, c1, c2, c3, c4, c5⟩ | ⟨c1, c4, c5⟩
  · rw [c4, c5, Option.bind_some, Option.bind_some]
    by_cases e : c = s
    · rw [e, if_pos rfl, if_pos rfl]
      refine Or.inl ⟨c1, ?_, ?_⟩
      · show some (1, (C.1, C.2.1, nI o + 1, ks, ns, q)) = _
        rw [nI_1]
      · show some (mp M (nI o + 1) (-1) cm q2) = _
        rw [nI_1]
    · rw [if_neg (fun h9 => e ((nI_eq (by omega) (by omega)).mp h9)), if_neg (fun h9 => e ((nI_eq (by omega) (by omega)).mp h9))]
      exact Or.inr ⟨rfl, rfl⟩
  · rw [c4, c5, Option.bind_some, Option.bind_some, if_neg (fun h9 => nI_ne0 (n := s) (by omega) (by omega) h9.symm), if_neg (fun h9 => nI_neg1 (v := s) (by omega) h9.symm)]
    exact Or.inr ⟨rfl, rfl⟩
theorem digs_ok {C : CmdS} {M : ModS} {L m pl : Nat} (h : IRn C M L) (hm : m ≤ 2) (ks ns cm : Nat → Int32) (q q2 : Int32) : ∀ (n n' j v o : Nat), j ≤ m → v < 10 ^ j → o ≤ L → m - j < n → m - j < n' → ∃ v' o' j' : Nat, j ≤ j' ∧ j' ≤ m ∧ v' < 10 ^ j' ∧ o' = o + (j' - j) ∧ o' ≤ L ∧ f_X0_readNumber_c5 n (cp C (nI o) ks ns q) (nI pl) (nI m) (nI v) (nI j) = f_X0_readNumber_c58 (cp C (nI o') ks ns q) (nI pl) (nI v') (nI j') ∧ f_X7_number_c37 n' (mp M (nI o) (-1) cm q2) (nI m) (nI v) (nI j) = some (nI v', mp M (nI o') (-1) cm q2) ∧ (j < m → (∃ c : Nat, 48 ≤ c ∧ c ≤ 57 ∧ f_X7_sign (mp M (nI o) (-1) cm q2) = some (nI c)) → j < j')
  | 0, _, j, v, o, _, _, _, hn, _ => absurd hn (by omega)
  | n + 1, 0, j, v, o, _, _, _, _, hn => absurd hn (by omega)
  | n + 1, n' + 1, j, v, o, hj, hv, ho, hn, hn' => by
    have hp : (10 : Nat) ^ j ≤ 100 := Nat.le_trans (Nat.pow_le_pow_right (by omega) (show j ≤ 2 by omega)) (by decide)
    rw [f_X0_readNumber_c5, f_X7_number_c37]
    by_cases e : j = m
    · rw [if_pos (nI_le (by omega) (by omega)), if_pos (nI_le (by omega) (by omega))]
      exact ⟨v, o, j, Nat.le_refl _, hj, hv, by omega, ho, rfl, rfl, fun h9 => by omega⟩
    · rw [if_neg (nI_ge (by omega) (by omega)), if_neg (nI_ge (by omega) (by omega))]
      rcases cur_ok h ho ks ns cm q (-1) q2 with ⟨c, c1, c2, c3, c4, c5⟩ | ⟨c1, c4, c5⟩
      · rw [c4, c5, Option.bind_some, Option.bind_some, Option.bind_some, Option.bind_some, Option.bind_some, inR_ok, Option.bind_some]
        by_cases e1 : c < 48
        · rw [if_pos (show nI c < 48 from nI_lt (b := 48) e1 (by omega)), if_neg (c := (48 : Int32) ≤ nI c ∧ nI c ≤ 57) (fun h9 => Int32.not_le.mpr (show nI c < 48 from nI_lt (b := 48) e1 (by omega)) h9.1), if_pos rfl]
          refine ⟨v, o, j, Nat.le_refl _, hj, hv, by omega, ho, rfl, rfl, fun _ ⟨d, d1, d2, d3⟩ => ?_⟩
          have := (nI_eq (by omega) (by omega)).mp (Option.some.inj d3)
          omega
        · rw [if_neg (show ¬ nI c < 48 from nI_nlt (b := 48) (by omega) (by omega))]
          by_cases e2 : 57 < c
          · rw [if_pos (show (57 : Int32) < nI c from nI_lt (a := 57) e2 (by omega)), if_neg (c := (48 : Int32) ≤ nI c ∧ nI c ≤ 57) (fun h9 => Int32.not_le.mpr (show (57 : Int32) < nI c from nI_lt (a := 57) e2 (by omega)) h9.2), if_pos rfl]
            refine ⟨v, o, j, Nat.le_refl _, hj, hv, by omega, ho, rfl, rfl, fun _ ⟨d, d1, d2, d3⟩ => ?_⟩
            have := (nI_eq (by omega) (by omega)).mp (Option.some.inj d3)
            omega
          · have ev : (((10 * nI v) + nI c) - 48 : Int32) = nI (10 * v + c - 48) := by
              rw [show (10 : Int32) = nI 10 from rfl, show (48 : Int32) = nI 48 from rfl, nI_mulX, nI_add, nI_sub (by omega)]
            rw [if_neg (show ¬ (57 : Int32) < nI c from nI_nlt (a := 57) (by omega) (by omega)), if_pos (show (48 : Int32) ≤ nI c ∧ nI c ≤ 57 from ⟨nI_le (a := 48) (by omega) (by omega), nI_le (b := 57) (by omega) (by omega)⟩), if_neg n10, ev, nI_1, nI_1]
            obtain ⟨v', o', j', g1, g2, g3, g4, g5, g6, g7, -⟩ := digs_ok h hm ks ns cm q q2 n n' (j + 1) (10 * v + c - 48) (o + 1) (by omega) (by rw [Nat.pow_succ]; omega) (by omega) (by omega) (by omega)
            refine ⟨v', o', j', by omega, g2, g3, by omega, g5, ?_, ?_, fun _ _ => by omega⟩
            · exact g6
            · exact g7
      · rw [c4, c5, Option.bind_some, Option.bind_some, Option.bind_some, Option.bind_some, Option.bind_some, if_pos (show (0 : Int32) < 48 by decide), inR_ok, Option.bind_some, if_neg (c := (48 : Int32) ≤ -1 ∧ (-1 : Int32) ≤ 57) (by decide), if_pos rfl]
        refine ⟨v, o, j, Nat.le_refl _, hj, hv, by omega, ho, rfl, rfl, fun _ ⟨d, d1, d2, d3⟩ => ?_⟩
        exact absurd (Option.some.inj d3).symm (nI_neg1 (by omega))
/-- a number -/
theorem num_ok {C : CmdS} {M : ModS} {L m pl o : Nat} (h : IRn C M L) (h1 : 1 ≤ m) (hm : m ≤ 2) (hpl : pl < 100) (ho : o ≤ L) (ks ns cm : Nat → Int32) (q q2 : Int32) :
    (∃ v o' : Nat, v ≤ 99 ∧ o < o' ∧ o' ≤ L ∧ f_X0_readNumber (cp C (nI o) ks ns q) (nI pl) (nI m) = some (1, cp C (nI o') ks (upd ns pl (nI v)) q) ∧ f_X7_number (mp M (nI o) (-1) cm q2) (nI m) = some (nI v, mp M (nI o') (-1) cm q2)) ∨
    (∃ ns' : Nat → Int32, f_X0_readNumber (cp C (nI o) ks ns q) (nI pl) (nI m) = some (0, cp C (nI o) ks ns' q) ∧ f_X7_number (mp M (nI o) (-1) cm q2) (nI m) = some (0, mp M (nI o) (nI o) cm q2)) := by
  obtain ⟨v', o', j', g1, g2, g3, g4, g5, g6, g7, g8⟩ := digs_ok (pl := pl) h hm ks ns cm q q2 200 200 0 0 o (by omega) (by decide) ho (by omega) (by omega)
  have hp : (10 : Nat) ^ j' ≤ 100 := Nat.le_trans (Nat.pow_le_pow_right (by omega) (show j' ≤ 2 by omega)) (by decide)
  have hrd : f_X0_readNumber (cp C (nI o) ks ns q) (nI pl) (nI m) = f_X0_readNumber_c58 (cp C (nI o') ks ns q) (nI pl) (nI v') (nI j') := g6
  have h58 : f_X0_readNumber_c58 (cp C (nI o') ks ns q) (nI pl) (nI v') (nI j') = some (if j' = 0 then 0 else 1, cp C (nI o') ks (upd ns pl (nI v')) q) := by
    unfold f_X0_readNumber_c58
    rw [wrn hpl (by decide)]
    by_cases e : j' = 0
    · rw [e, if_pos (show nI 0 ≤ 0 by decide), if_pos rfl]
    · rw [if_neg (nI_nle (by omega) (by omega)), if_neg e]
  have hno : f_X7_number (mp M (nI o) (-1) cm q2) (nI m) = (f_X7_sign (mp M (nI o) (-1) cm q2)).bind fun q11 => (f_X7_in q11 48 57).bind fun q13 => if q13 = 0 then some (0, mp M (nI o) (nI o) cm q2) else f_X7_number_c37 200 (mp M (nI o) (-1) cm q2) (nI m) 0 0 := by
    unfold f_X7_number
    rw [if_pos neg1lt]
  rw [hrd, h58, hno]
  rcases cur_ok h ho ks ns cm q (-1) q2 with ⟨c, c1, c2, c3, c4, c5⟩ | ⟨c1, c4, c5⟩
  · rw [c5, Option.bind_some, inR_ok, Option.bind_some]
    by_cases e : (48 : Int32) ≤ nI c ∧ nI c ≤ 57
    · have e1 : 48 ≤ c := (nI_leI (a := 48) (by omega) (by omega)).mp e.1
      have e2 : c ≤ 57 := (nI_leI (b := 57) (by omega) (by omega)).mp e.2
      have hj := g8 (by omega) ⟨c, e1, e2, c5⟩
      rw [if_pos e, if_neg n10, if_neg (by omega)]
      exact Or.inl ⟨v', o', by omega, by omega, g5, rfl, g7⟩
    · rw [if_neg e, if_pos rfl]
      have hj : j' = 0 := by
        apply Classical.byContradiction
        intro h9
        rw [f_X7_number_c37, if_neg (show ¬ nI m ≤ nI 0 from nI_ge (by omega) (by omega)), c5, Option.bind_some, inR_ok, Option.bind_some, if_neg e, if_pos rfl] at g7
        have := congrArg (fun x : Option (Int32 × ModS) => x.map fun y => y.2.2.2.2.2.2.2.2.2.2.2.2.2.1) g7
        have h8 := (nI_eq (by have := h.1; omega) (by have := h.1; omega)).mp (Option.some.inj this)
        omega
      rw [if_pos hj]
      exact Or.inr ⟨_, by rw [show o' = o by omega], rfl⟩
  · rw [c5, Option.bind_some, inR_ok, Option.bind_some, if_neg (c := (48 : Int32) ≤ -1 ∧ (-1 : Int32) ≤ 57) (by decide), if_pos rfl]
    have hj : j' = 0 := by omega
    rw [if_pos hj]
    exact Or.inr ⟨_, by rw [show o' = o by omega], rfl⟩
theorem num_err {M : ModS} {h e : Int32} {cm : Nat → Int32} {q m : Int32} (he : ¬ e < 0) : f_X7_number (mp M h e cm q) m = some (0, mp M h e cm q) := by
  unfold f_X7_number
  rw [if_neg he]
theorem beh_err {M : ModS} {h e : Int32} {cm : Nat → Int32} {q c : Int32} (he : ¬ e < 0) : f_X7_behind (mp M h e cm q) c = some (0, mp M h e cm q) := by
  unfold f_X7_behind f_X7_needs
  rw [if_neg he, Option.bind_some, num_err he]; rfl
/-! steps through a pattern -/
theorem st_num {n i k : Nat} {T : CmdS} {pl : Int32} (hi : i < 7) (hk : k < pq_le.getD i 0) (h9 : pq_le.getD i 0 < 2 ^ 31) (hc : pq_ch i k = 35) : f_X0_readCommand_c46 (n + 1) T i pl (nI k) = (f_X0_readNumber T pl 2).bind fun q6 => if q6.1 = 0 then some (0, q6.2) else f_X0_readCommand_c46 n q6.2 i (pl + 1) (nI (k + 1)) := by
  rw [f_X0_readCommand_c46, if_pos hi, if_neg (nI_ge hk h9), nI_clamp (by omega), if_pos ⟨nI_pos (by omega), hk⟩, hc, if_pos rfl, f_X0_readCommand_c77, if_pos rfl, nI_1]
theorem st_dig {n i k : Nat} {T : CmdS} {pl : Int32} (hi : i < 7) (hk : k < pq_le.getD i 0) (h9 : pq_le.getD i 0 < 2 ^ 31) (hc : pq_ch i k = 64) : f_X0_readCommand_c46 (n + 1) T i pl (nI k) = (f_X0_readNumber T pl 1).bind fun q6 => if q6.1 = 0 then some (0, q6.2) else f_X0_readCommand_c46 n q6.2 i (pl + 1) (nI (k + 1)) := by
  rw [f_X0_readCommand_c46, if_pos hi, if_neg (nI_ge hk h9), nI_clamp (by omega), if_pos ⟨nI_pos (by omega), hk⟩, hc, if_neg (by decide), if_pos rfl, f_X0_readCommand_c77, if_neg (by decide), nI_1]
theorem st_tk {n i k s : Nat} {T : CmdS} {pl : Int32} (hi : i < 7) (hk : k < pq_le.getD i 0) (h9 : pq_le.getD i 0 < 2 ^ 31) (hc : pq_ch i k = nI s) (h1 : nI s ≠ 35) (h2 : nI s ≠ 64) : f_X0_readCommand_c46 (n + 1) T i pl (nI k) = (f_X0_take T (nI s)).bind fun q14 => if q14.1 = 0 then some (0, q14.2) else f_X0_readCommand_c46 n q14.2 i pl (nI (k + 1)) := by
  rw [f_X0_readCommand_c46, if_pos hi, if_neg (nI_ge hk h9), nI_clamp (by omega), if_pos ⟨nI_pos (by omega), hk⟩, hc, if_neg h1, if_neg h2, nI_1]
theorem st_end {n i k : Nat} {T : CmdS} {pl : Int32} (hi : i < 7) (hk : k = pq_le.getD i 0) (h9 : pq_le.getD i 0 < 2 ^ 31) : f_X0_readCommand_c46 (n + 1) T i pl (nI k) = some (1, T) := by
  rw [f_X0_readCommand_c46, if_pos hi, if_pos (by rw [hk]; exact nI_le (Nat.le_refl _) h9)]
/-- a number of one or two digits, at place k of the pattern -/
theorem pt_num {C : CmdS} {M : ModS} {L o n i k pl m : Nat} (h : IRn C M L) (ho : o ≤ L) (hi : i < 7) (hk : k < pq_le.getD i 0) (h9 : pq_le.getD i 0 < 2 ^ 31) (hc : (m = 2 ∧ pq_ch i k = 35) ∨ (m = 1 ∧ pq_ch i k = 64)) (hpl : pl < 100) (ks ns cm : Nat → Int32) (q q2 : Int32) :
    (∃ v o' : Nat, v ≤ 99 ∧ o < o' ∧ o' ≤ L ∧ f_X0_readCommand_c46 (n + 1) (cp C (nI o) ks ns q) i (nI pl) (nI k) = f_X0_readCommand_c46 n (cp C (nI o') ks (upd ns pl (nI v)) q) i (nI (pl + 1)) (nI (k + 1)) ∧ f_X7_number (mp M (nI o) (-1) cm q2) (nI m) = some (nI v, mp M (nI o') (-1) cm q2)) ∨
    (∃ (ns' : Nat → Int32) (x : Nat), x ≤ L ∧ f_X0_readCommand_c46 (n + 1) (cp C (nI o) ks ns q) i (nI pl) (nI k) = some (0, cp C (nI x) ks ns' q) ∧ f_X7_number (mp M (nI o) (-1) cm q2) (nI m) = some (0, mp M (nI x) (nI x) cm q2)) := by
  have hst : f_X0_readCommand_c46 (n + 1) (cp C (nI o) ks ns q) i (nI pl) (nI k) = (f_X0_readNumber (cp C (nI o) ks ns q) (nI pl) (nI m)).bind fun q6 => if q6.1 = 0 then some (0, q6.2) else f_X0_readCommand_c46 n q6.2 i (nI (pl + 1)) (nI (k + 1)) := by
    rw [← nI_1 pl]
    rcases hc with ⟨rfl, hc⟩ | ⟨rfl, hc⟩
    · exact st_num hi hk h9 hc
    · exact st_dig hi hk h9 hc
  rw [hst]
  rcases num_ok h (m := m) (by omega) (by omega) hpl ho ks ns cm q q2 with ⟨v, o', g1, g2, g3, g4, g5⟩ | ⟨ns', g4, g5⟩
  · rw [g4, Option.bind_some, if_neg n10]
    exact Or.inl ⟨v, o', g1, g2, g3, rfl, g5⟩
  · rw [g4, Option.bind_some, if_pos rfl]
    exact Or.inr ⟨ns', o, ho, rfl, g5⟩
/-- a sign and a number of two digits, at places k and k + 1 -/
theorem pt_sep {C : CmdS} {M : ModS} {L o n i k pl s : Nat} (h : IRn C M L) (ho : o ≤ L) (hi : i < 7) (hk : k + 1 < pq_le.getD i 0) (h9 : pq_le.getD i 0 < 2 ^ 31) (hs : 36 ≤ s ∧ s ≤ 126 ∧ s ≠ 64) (hc : pq_ch i k = nI s) (hc2 : pq_ch i (k + 1) = 35) (hpl : pl < 100) (ks ns cm : Nat → Int32) (q q2 : Int32) :
    (∃ v o' : Nat, v ≤ 99 ∧ o + 1 < o' ∧ o' ≤ L ∧ f_X0_readCommand_c46 (n + 2) (cp C (nI o) ks ns q) i (nI pl) (nI k) = f_X0_readCommand_c46 n (cp C (nI o') ks (upd ns pl (nI v)) q) i (nI (pl + 1)) (nI (k + 2)) ∧ f_X7_behind (mp M (nI o) (-1) cm q2) (nI s) = some (nI v, mp M (nI o') (-1) cm q2)) ∨
    (∃ (ns' : Nat → Int32) (x y : Nat), x ≤ L ∧ f_X0_readCommand_c46 (n + 2) (cp C (nI o) ks ns q) i (nI pl) (nI k) = some (0, cp C (nI x) ks ns' q) ∧ f_X7_behind (mp M (nI o) (-1) cm q2) (nI s) = some (0, mp M (nI y) (nI x) cm q2)) := by
  have hL := h.1
  rw [st_tk (n := n + 1) hi (by omega) h9 hc (fun e => by have := (nI_eq (a := s) (b := 35) (by omega) (by omega)).mp e; omega) (fun e => by have := (nI_eq (a := s) (b := 64) (by omega) (by omega)).mp e; omega)]
  unfold f_X7_behind
  rcases take_ok h ho (s := s) (by omega) ks ns cm q q2 with ⟨t0, t1, t2⟩ | ⟨t1, t2⟩
  · rw [t1, t2, Option.bind_some, Option.bind_some, if_neg n10]
    rcases pt_num (n := n) (m := 2) h (o := o + 1) (by omega) hi hk h9 (Or.inl ⟨rfl, hc2⟩) hpl ks ns cm q q2 with ⟨v, o', g1, g2, g3, g4, g5⟩ | ⟨ns', x, g3, g4, g5⟩
    · rw [show (2 : Int32) = nI 2 from rfl, g5, Option.bind_some]
      exact Or.inl ⟨v, o', g1, g2, g3, g4, rfl⟩
    · rw [show (2 : Int32) = nI 2 from rfl, g5, Option.bind_some]
      exact Or.inr ⟨ns', x, x, g3, g4, rfl⟩
  · rw [t1, t2, Option.bind_some, Option.bind_some, if_pos rfl, num_err (nI_pos (by omega)), Option.bind_some]
    exact Or.inr ⟨ns, o, o, ho, rfl, rfl⟩
/-- zeros in a command's six places -/
def z6 (cm : Nat → Int32) (b v : Nat) : Nat → Int32 := fun j => if b ≤ j ∧ j < b + v then 0 else cm j
theorem z6_step (cm : Nat → Int32) (b v : Nat) : upd (z6 cm b v) (b + v) 0 = z6 cm b (v + 1) := by
  funext j
  unfold upd z6
  by_cases e : j = b + v
  · rw [if_pos e, if_pos (by omega)]
  · rw [if_neg e]
    by_cases e2 : b ≤ j ∧ j < b + v
    · rw [if_pos e2, if_pos (by omega)]
    · rw [if_neg e2, if_neg (by omega)]
theorem z6_0 (cm : Nat → Int32) (b : Nat) : z6 cm b 0 = cm := by
  funext j
  unfold z6
  rw [if_neg (by omega)]
theorem z6_out {cm : Nat → Int32} {b j : Nat} (h : j < b) : z6 cm b 6 j = cm j := by
  unfold z6
  rw [if_neg (by omega)]
abbrev isKd (c : Nat) : Prop := c = 105 ∨ c = 100 ∨ c = 112 ∨ c = 109 ∨ c = 114 ∨ c = 119 ∨ c = 120
theorem command_c25 {M : ModS} {h e q sg : Int32} {cm : Nat → Int32} {b : Nat} (hb : b + 6 ≤ 366) : ∀ (n v : Nat), v ≤ 6 → 6 - v < n → f_X7_command_c25 n (mp M h e (z6 cm b v) q) (nI b) sg (nI v) = (if sg = 105 ∨ sg = 100 ∨ sg = 112 ∨ sg = 109 ∨ sg = 114 ∨ sg = 119 ∨ sg = 120 then f_X7_command_c97 (mp M h e (z6 cm b 6) q) (nI b) sg else some (mp M h h (z6 cm b 6) q))
  | 0, v, _, hn => absurd hn (by omega)
  | n + 1, v, hv, hn => by
    rw [f_X7_command_c25]
    by_cases e1 : v = 6
    · rw [if_pos (show (6 : Int32) ≤ nI v from nI_le (a := 6) (by omega) (by omega)), e1]
      by_cases k1 : sg = 105
      · rw [if_pos k1, if_pos (Or.inl k1)]
      · rw [if_neg k1]
        by_cases k2 : sg = 100
        · rw [if_pos k2, if_pos (Or.inr (Or.inl k2))]
        · rw [if_neg k2]
          by_cases k3 : sg = 112
          · rw [if_pos k3, if_pos (Or.inr (Or.inr (Or.inl k3)))]
          · rw [if_neg k3]
            by_cases k4 : sg = 109
            · rw [if_pos k4, if_pos (Or.inr (Or.inr (Or.inr (Or.inl k4))))]
            · rw [if_neg k4]
              by_cases k5 : sg = 114
              · rw [if_pos k5, if_pos (Or.inr (Or.inr (Or.inr (Or.inr (Or.inl k5)))))]
              · rw [if_neg k5]
                by_cases k6 : sg = 119
                · rw [if_pos k6, if_pos (Or.inr (Or.inr (Or.inr (Or.inr (Or.inr (Or.inl k6))))))]
                · rw [if_neg k6]
                  by_cases k7 : sg = 120
                  · rw [if_pos k7, if_pos (Or.inr (Or.inr (Or.inr (Or.inr (Or.inr (Or.inr k7))))))]
                  · rw [if_neg k7, if_neg]
                    rintro (h9 | h9 | h9 | h9 | h9 | h9 | h9)
                    · exact k1 h9
                    · exact k2 h9
                    · exact k3 h9
                    · exact k4 h9
                    · exact k5 h9
                    · exact k6 h9
                    · exact k7 h9
    · rw [if_neg (show ¬ (6 : Int32) ≤ nI v from nI_ge (b := 6) (by omega) (by omega)), nI_add, if_neg (nI_in (by omega) (by decide)), nI_clamp (by omega), nI_1]
      have := command_c25 (M := M) (h := h) (e := e) (q := q) (sg := sg) (cm := cm) hb n (v + 1) (by omega) (by omega)
      rw [← z6_step] at this
      exact this
