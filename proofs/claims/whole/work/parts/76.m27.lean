/-! ===== mathematics, 27: a command ===== -/
theorem nI_ak (a k : Nat) : nI a + nI k = nI (a + k) := nI_add a k
/-- what both sides have of a command's numbers -/
def CQ (kd : Nat) (N K : Nat → Int32) : Prop := ∃ n : Nat, ((kd = 105 ∧ n = 2) ∨ (kd = 112 ∧ n = 2) ∨ (kd = 109 ∧ n = 2) ∨ (kd = 114 ∧ n = 2) ∨ (kd = 100 ∧ n = 1) ∨ (kd = 120 ∧ n = 1) ∨ (kd = 119 ∧ n = 5)) ∧ ∀ j, j < n → N j = K j ∧ ∃ v : Nat, v ≤ 99 ∧ K j = nI v
def cmdRes (C : CmdS) (M : ModS) (L o c kd : Nat) (ks ns cm : Nat → Int32) (q Q : Int32) (rc : Option (Int32 × CmdS)) (rm : Option ModS) : Prop :=
  (∃ (ns' : Nat → Int32) (x y : Nat) (cm' : Nat → Int32), x ≤ L ∧ rc = some (0, cp C (nI x) ks ns' q) ∧ rm = some (mp M (nI y) (nI x) cm' Q)) ∨
  (∃ (o' : Nat) (ns' cm' : Nat → Int32), o + 2 ≤ o' ∧ o' ≤ L ∧ rc = some (1, cp C (nI o') ks ns' q) ∧ rm = some (mp M (nI o') (-1) cm' Q) ∧ cm' (6 * c) = nI kd ∧ (∀ j, j < 5 * c → ns' j = ns j) ∧ (∀ j, j < 6 * c → cm' j = cm j) ∧ CQ kd (fun j => ns' (5 * c + j)) (fun j => cm' (6 * c + 1 + j)))
theorem cmd_105 {C : CmdS} {M : ModS} {L o c : Nat} (h : IRn C M L) (ho : o + 1 ≤ L) (hc : c < 20) (ks ns cm : Nat → Int32) (q Q : Int32) : cmdRes C M L o c 105 ks ns cm q Q (f_X0_readCommand_c46 200 (cp C (nI (o + 1)) ks ns q) 0 (nI (5 * c)) (nI 0)) (f_X7_command_c97 (mp M (nI o) (-1) cm Q) (nI (6 * c)) (nI 105)) := by
  have hL := h.1
  rcases pt_num (n := 199) (m := 2) (i := 0) (k := 0) (pl := 5 * c) (o := o + 1) h (by omega) (by decide) (by decide) (by decide) (Or.inl ⟨rfl, by decide⟩) (by omega) ks ns (upd cm (6 * c) (nI 105)) q Q with ⟨v1, o1, a1, a2, a3, a4, a5⟩ | ⟨ns1, x, a3, a4, a5⟩
  · replace a5 : f_X7_number (mp M (nI (o + 1)) (-1) (upd cm (6 * c) (nI 105)) Q) 2 = _ := a5
    rcases pt_sep (n := 197) (i := 0) (k := 1) (pl := 5 * c + 1) (o := o1) (s := 58) h (by omega) (by decide) (by decide) (by decide) (by decide) (by decide) (by decide) (by omega) ks (upd ns (5 * c) (nI v1)) (upd (upd cm (6 * c) (nI 105)) (6 * c + 1) (nI v1)) q Q with ⟨v2, o2, b01, b02, b03, b04, b05⟩ | ⟨ns2, x, y, b03, b04, b05⟩
    · refine Or.inr ⟨o2, (upd (upd ns (5 * c) (nI v1)) (5 * c + 1) (nI v2)), (upd (upd (upd cm (6 * c) (nI 105)) (6 * c + 1) (nI v1)) (6 * c + 2) (nI v2)), by omega, by omega, (a4).trans ((b04).trans (st_end (n := 196) (i := 0) (k := 3) (by decide) (by decide) (by decide))), ?_, ?_, fun j hj => ?_, fun j hj => ?_, ⟨2, by decide, fun j hj => ?_⟩⟩
      · rw [f_X7_command_c97, if_neg (nI_in (show 6 * c < 366 by omega) (by decide)), if_neg (show ¬ nI 105 = 119 by decide), if_neg (show ¬ nI 105 = 120 by decide)]
        show (f_X7_number (mp M (nI o + 1) (-1) (upd cm (nI (6 * c)).toNatClampNeg (nI 105)) Q) 2).bind _ = _
        rw [nI_1 o, nI_clamp (n := 6 * c) (by omega), a5, Option.bind_some, nI_1 (6 * c), if_neg (nI_in (show 6 * c + 1 < 366 by omega) (by decide)), if_pos (show nI 105 = 105 from rfl)]
        show (f_X7_behind (mp M (nI o1) (-1) (upd (upd cm (6 * c) (nI 105)) (nI (6 * c + 1)).toNatClampNeg (nI v1)) Q) 58).bind _ = _
        rw [nI_clamp (n := 6 * c + 1) (by omega), show (58 : Int32) = nI 58 from rfl, b05, Option.bind_some, show (2 : Int32) = nI 2 from rfl, nI_ak, if_neg (nI_in (show 6 * c + 2 < 366 by omega) (by decide))]
        show some (mp M (nI o2) (-1) (upd (upd (upd cm (6 * c) (nI 105)) (6 * c + 1) (nI v1)) (nI (6 * c + 2)).toNatClampNeg (nI v2)) Q) = _
        rw [nI_clamp (n := 6 * c + 2) (by omega)]
      · rw [upd_ne _ _ (by omega), upd_ne _ _ (by omega), upd_eq]
      · rw [upd_ne _ _ (by omega), upd_ne _ _ (by omega)]
      · rw [upd_ne _ _ (by omega), upd_ne _ _ (by omega), upd_ne _ _ (by omega)]
      · rcases (show j = 0 ∨ j = 1 by omega) with rfl | rfl
        · show (upd (upd ns (5 * c) (nI v1)) (5 * c + 1) (nI v2)) (5 * c) = (upd (upd (upd cm (6 * c) (nI 105)) (6 * c + 1) (nI v1)) (6 * c + 2) (nI v2)) (6 * c + 1) ∧ ∃ v : Nat, v ≤ 99 ∧ (upd (upd (upd cm (6 * c) (nI 105)) (6 * c + 1) (nI v1)) (6 * c + 2) (nI v2)) (6 * c + 1) = nI v
          rw [upd_ne _ _ (by omega), upd_eq, upd_ne _ _ (by omega), upd_eq]
          exact ⟨rfl, v1, by omega, rfl⟩
        · show (upd (upd ns (5 * c) (nI v1)) (5 * c + 1) (nI v2)) (5 * c + 1) = (upd (upd (upd cm (6 * c) (nI 105)) (6 * c + 1) (nI v1)) (6 * c + 2) (nI v2)) (6 * c + 2) ∧ ∃ v : Nat, v ≤ 99 ∧ (upd (upd (upd cm (6 * c) (nI 105)) (6 * c + 1) (nI v1)) (6 * c + 2) (nI v2)) (6 * c + 2) = nI v
          rw [upd_eq, upd_eq]
          exact ⟨rfl, v2, by omega, rfl⟩
    · refine Or.inl ⟨ns2, x, y, (upd (upd (upd cm (6 * c) (nI 105)) (6 * c + 1) (nI v1)) (6 * c + 2) 0), by omega, (a4).trans (b04), ?_⟩
      rw [f_X7_command_c97, if_neg (nI_in (show 6 * c < 366 by omega) (by decide)), if_neg (show ¬ nI 105 = 119 by decide), if_neg (show ¬ nI 105 = 120 by decide)]
      show (f_X7_number (mp M (nI o + 1) (-1) (upd cm (nI (6 * c)).toNatClampNeg (nI 105)) Q) 2).bind _ = _
      rw [nI_1 o, nI_clamp (n := 6 * c) (by omega), a5, Option.bind_some, nI_1 (6 * c), if_neg (nI_in (show 6 * c + 1 < 366 by omega) (by decide)), if_pos (show nI 105 = 105 from rfl)]
      show (f_X7_behind (mp M (nI o1) (-1) (upd (upd cm (6 * c) (nI 105)) (nI (6 * c + 1)).toNatClampNeg (nI v1)) Q) 58).bind _ = _
      rw [nI_clamp (n := 6 * c + 1) (by omega), show (58 : Int32) = nI 58 from rfl, b05, Option.bind_some, show (2 : Int32) = nI 2 from rfl, nI_ak, if_neg (nI_in (show 6 * c + 2 < 366 by omega) (by decide))]
      show some (mp M (nI y) (nI x) (upd (upd (upd cm (6 * c) (nI 105)) (6 * c + 1) (nI v1)) (nI (6 * c + 2)).toNatClampNeg 0) Q) = _
      rw [nI_clamp (n := 6 * c + 2) (by omega)]
  · refine Or.inl ⟨ns1, x, x, (upd (upd (upd cm (6 * c) (nI 105)) (6 * c + 1) 0) (6 * c + 2) 0), by omega, a4, ?_⟩
    replace a5 : f_X7_number (mp M (nI (o + 1)) (-1) (upd cm (6 * c) (nI 105)) Q) 2 = _ := a5
    rw [f_X7_command_c97, if_neg (nI_in (show 6 * c < 366 by omega) (by decide)), if_neg (show ¬ nI 105 = 119 by decide), if_neg (show ¬ nI 105 = 120 by decide)]
    show (f_X7_number (mp M (nI o + 1) (-1) (upd cm (nI (6 * c)).toNatClampNeg (nI 105)) Q) 2).bind _ = _
    rw [nI_1 o, nI_clamp (n := 6 * c) (by omega), a5, Option.bind_some, nI_1 (6 * c), if_neg (nI_in (show 6 * c + 1 < 366 by omega) (by decide)), if_pos (show nI 105 = 105 from rfl)]
    show (f_X7_behind (mp M (nI x) (nI x) (upd (upd cm (6 * c) (nI 105)) (nI (6 * c + 1)).toNatClampNeg 0) Q) 58).bind _ = _
    rw [nI_clamp (n := 6 * c + 1) (by omega), beh_err (nI_pos (by omega)), Option.bind_some, show (2 : Int32) = nI 2 from rfl, nI_ak, if_neg (nI_in (show 6 * c + 2 < 366 by omega) (by decide))]
    show some (mp M (nI x) (nI x) (upd (upd (upd cm (6 * c) (nI 105)) (6 * c + 1) 0) (nI (6 * c + 2)).toNatClampNeg 0) Q) = _
    rw [nI_clamp (n := 6 * c + 2) (by omega)]
theorem cmd_109 {C : CmdS} {M : ModS} {L o c : Nat} (h : IRn C M L) (ho : o + 1 ≤ L) (hc : c < 20) (ks ns cm : Nat → Int32) (q Q : Int32) : cmdRes C M L o c 109 ks ns cm q Q (f_X0_readCommand_c46 200 (cp C (nI (o + 1)) ks ns q) 2 (nI (5 * c)) (nI 0)) (f_X7_command_c97 (mp M (nI o) (-1) cm Q) (nI (6 * c)) (nI 109)) := by
  have hL := h.1
  rcases pt_num (n := 199) (m := 2) (i := 2) (k := 0) (pl := 5 * c) (o := o + 1) h (by omega) (by decide) (by decide) (by decide) (Or.inl ⟨rfl, by decide⟩) (by omega) ks ns (upd cm (6 * c) (nI 109)) q Q with ⟨v1, o1, a1, a2, a3, a4, a5⟩ | ⟨ns1, x, a3, a4, a5⟩
  · replace a5 : f_X7_number (mp M (nI (o + 1)) (-1) (upd cm (6 * c) (nI 109)) Q) 2 = _ := a5
    rcases pt_sep (n := 197) (i := 2) (k := 1) (pl := 5 * c + 1) (o := o1) (s := 62) h (by omega) (by decide) (by decide) (by decide) (by decide) (by decide) (by decide) (by omega) ks (upd ns (5 * c) (nI v1)) (upd (upd cm (6 * c) (nI 109)) (6 * c + 1) (nI v1)) q Q with ⟨v2, o2, b01, b02, b03, b04, b05⟩ | ⟨ns2, x, y, b03, b04, b05⟩
    · refine Or.inr ⟨o2, (upd (upd ns (5 * c) (nI v1)) (5 * c + 1) (nI v2)), (upd (upd (upd cm (6 * c) (nI 109)) (6 * c + 1) (nI v1)) (6 * c + 2) (nI v2)), by omega, by omega, (a4).trans ((b04).trans (st_end (n := 196) (i := 2) (k := 3) (by decide) (by decide) (by decide))), ?_, ?_, fun j hj => ?_, fun j hj => ?_, ⟨2, by decide, fun j hj => ?_⟩⟩
      · rw [f_X7_command_c97, if_neg (nI_in (show 6 * c < 366 by omega) (by decide)), if_neg (show ¬ nI 109 = 119 by decide), if_neg (show ¬ nI 109 = 120 by decide)]
        show (f_X7_number (mp M (nI o + 1) (-1) (upd cm (nI (6 * c)).toNatClampNeg (nI 109)) Q) 2).bind _ = _
        rw [nI_1 o, nI_clamp (n := 6 * c) (by omega), a5, Option.bind_some, nI_1 (6 * c), if_neg (nI_in (show 6 * c + 1 < 366 by omega) (by decide)), if_neg (show ¬ nI 109 = 105 by decide), if_pos (show nI 109 = 109 from rfl)]
        show (f_X7_behind (mp M (nI o1) (-1) (upd (upd cm (6 * c) (nI 109)) (nI (6 * c + 1)).toNatClampNeg (nI v1)) Q) 62).bind _ = _
        rw [nI_clamp (n := 6 * c + 1) (by omega), show (62 : Int32) = nI 62 from rfl, b05, Option.bind_some, show (2 : Int32) = nI 2 from rfl, nI_ak, if_neg (nI_in (show 6 * c + 2 < 366 by omega) (by decide))]
        show some (mp M (nI o2) (-1) (upd (upd (upd cm (6 * c) (nI 109)) (6 * c + 1) (nI v1)) (nI (6 * c + 2)).toNatClampNeg (nI v2)) Q) = _
        rw [nI_clamp (n := 6 * c + 2) (by omega)]
      · rw [upd_ne _ _ (by omega), upd_ne _ _ (by omega), upd_eq]
      · rw [upd_ne _ _ (by omega), upd_ne _ _ (by omega)]
      · rw [upd_ne _ _ (by omega), upd_ne _ _ (by omega), upd_ne _ _ (by omega)]
      · rcases (show j = 0 ∨ j = 1 by omega) with rfl | rfl
        · show (upd (upd ns (5 * c) (nI v1)) (5 * c + 1) (nI v2)) (5 * c) = (upd (upd (upd cm (6 * c) (nI 109)) (6 * c + 1) (nI v1)) (6 * c + 2) (nI v2)) (6 * c + 1) ∧ ∃ v : Nat, v ≤ 99 ∧ (upd (upd (upd cm (6 * c) (nI 109)) (6 * c + 1) (nI v1)) (6 * c + 2) (nI v2)) (6 * c + 1) = nI v
          rw [upd_ne _ _ (by omega), upd_eq, upd_ne _ _ (by omega), upd_eq]
          exact ⟨rfl, v1, by omega, rfl⟩
        · show (upd (upd ns (5 * c) (nI v1)) (5 * c + 1) (nI v2)) (5 * c + 1) = (upd (upd (upd cm (6 * c) (nI 109)) (6 * c + 1) (nI v1)) (6 * c + 2) (nI v2)) (6 * c + 2) ∧ ∃ v : Nat, v ≤ 99 ∧ (upd (upd (upd cm (6 * c) (nI 109)) (6 * c + 1) (nI v1)) (6 * c + 2) (nI v2)) (6 * c + 2) = nI v
          rw [upd_eq, upd_eq]
          exact ⟨rfl, v2, by omega, rfl⟩
    · refine Or.inl ⟨ns2, x, y, (upd (upd (upd cm (6 * c) (nI 109)) (6 * c + 1) (nI v1)) (6 * c + 2) 0), by omega, (a4).trans (b04), ?_⟩
      rw [f_X7_command_c97, if_neg (nI_in (show 6 * c < 366 by omega) (by decide)), if_neg (show ¬ nI 109 = 119 by decide), if_neg (show ¬ nI 109 = 120 by decide)]
      show (f_X7_number (mp M (nI o + 1) (-1) (upd cm (nI (6 * c)).toNatClampNeg (nI 109)) Q) 2).bind _ = _
      rw [nI_1 o, nI_clamp (n := 6 * c) (by omega), a5, Option.bind_some, nI_1 (6 * c), if_neg (nI_in (show 6 * c + 1 < 366 by omega) (by decide)), if_neg (show ¬ nI 109 = 105 by decide), if_pos (show nI 109 = 109 from rfl)]
      show (f_X7_behind (mp M (nI o1) (-1) (upd (upd cm (6 * c) (nI 109)) (nI (6 * c + 1)).toNatClampNeg (nI v1)) Q) 62).bind _ = _
      rw [nI_clamp (n := 6 * c + 1) (by omega), show (62 : Int32) = nI 62 from rfl, b05, Option.bind_some, show (2 : Int32) = nI 2 from rfl, nI_ak, if_neg (nI_in (show 6 * c + 2 < 366 by omega) (by decide))]
      show some (mp M (nI y) (nI x) (upd (upd (upd cm (6 * c) (nI 109)) (6 * c + 1) (nI v1)) (nI (6 * c + 2)).toNatClampNeg 0) Q) = _
      rw [nI_clamp (n := 6 * c + 2) (by omega)]
  · refine Or.inl ⟨ns1, x, x, (upd (upd (upd cm (6 * c) (nI 109)) (6 * c + 1) 0) (6 * c + 2) 0), by omega, a4, ?_⟩
    replace a5 : f_X7_number (mp M (nI (o + 1)) (-1) (upd cm (6 * c) (nI 109)) Q) 2 = _ := a5
    rw [f_X7_command_c97, if_neg (nI_in (show 6 * c < 366 by omega) (by decide)), if_neg (show ¬ nI 109 = 119 by decide), if_neg (show ¬ nI 109 = 120 by decide)]
    show (f_X7_number (mp M (nI o + 1) (-1) (upd cm (nI (6 * c)).toNatClampNeg (nI 109)) Q) 2).bind _ = _
    rw [nI_1 o, nI_clamp (n := 6 * c) (by omega), a5, Option.bind_some, nI_1 (6 * c), if_neg (nI_in (show 6 * c + 1 < 366 by omega) (by decide)), if_neg (show ¬ nI 109 = 105 by decide), if_pos (show nI 109 = 109 from rfl)]
    show (f_X7_behind (mp M (nI x) (nI x) (upd (upd cm (6 * c) (nI 109)) (nI (6 * c + 1)).toNatClampNeg 0) Q) 62).bind _ = _
    rw [nI_clamp (n := 6 * c + 1) (by omega), beh_err (nI_pos (by omega)), Option.bind_some, show (2 : Int32) = nI 2 from rfl, nI_ak, if_neg (nI_in (show 6 * c + 2 < 366 by omega) (by decide))]
    show some (mp M (nI x) (nI x) (upd (upd (upd cm (6 * c) (nI 109)) (6 * c + 1) 0) (nI (6 * c + 2)).toNatClampNeg 0) Q) = _
    rw [nI_clamp (n := 6 * c + 2) (by omega)]
theorem cmd_112 {C : CmdS} {M : ModS} {L o c : Nat} (h : IRn C M L) (ho : o + 1 ≤ L) (hc : c < 20) (ks ns cm : Nat → Int32) (q Q : Int32) : cmdRes C M L o c 112 ks ns cm q Q (f_X0_readCommand_c46 200 (cp C (nI (o + 1)) ks ns q) 0 (nI (5 * c)) (nI 0)) (f_X7_command_c97 (mp M (nI o) (-1) cm Q) (nI (6 * c)) (nI 112)) := by
  have hL := h.1
  rcases pt_num (n := 199) (m := 2) (i := 0) (k := 0) (pl := 5 * c) (o := o + 1) h (by omega) (by decide) (by decide) (by decide) (Or.inl ⟨rfl, by decide⟩) (by omega) ks ns (upd cm (6 * c) (nI 112)) q Q with ⟨v1, o1, a1, a2, a3, a4, a5⟩ | ⟨ns1, x, a3, a4, a5⟩
  · replace a5 : f_X7_number (mp M (nI (o + 1)) (-1) (upd cm (6 * c) (nI 112)) Q) 2 = _ := a5
    rcases pt_sep (n := 197) (i := 0) (k := 1) (pl := 5 * c + 1) (o := o1) (s := 58) h (by omega) (by decide) (by decide) (by decide) (by decide) (by decide) (by decide) (by omega) ks (upd ns (5 * c) (nI v1)) (upd (upd cm (6 * c) (nI 112)) (6 * c + 1) (nI v1)) q Q with ⟨v2, o2, b01, b02, b03, b04, b05⟩ | ⟨ns2, x, y, b03, b04, b05⟩
    · refine Or.inr ⟨o2, (upd (upd ns (5 * c) (nI v1)) (5 * c + 1) (nI v2)), (upd (upd (upd cm (6 * c) (nI 112)) (6 * c + 1) (nI v1)) (6 * c + 2) (nI v2)), by omega, by omega, (a4).trans ((b04).trans (st_end (n := 196) (i := 0) (k := 3) (by decide) (by decide) (by decide))), ?_, ?_, fun j hj => ?_, fun j hj => ?_, ⟨2, by decide, fun j hj => ?_⟩⟩
      · rw [f_X7_command_c97, if_neg (nI_in (show 6 * c < 366 by omega) (by decide)), if_neg (show ¬ nI 112 = 119 by decide), if_neg (show ¬ nI 112 = 120 by decide)]
        show (f_X7_number (mp M (nI o + 1) (-1) (upd cm (nI (6 * c)).toNatClampNeg (nI 112)) Q) 2).bind _ = _
        rw [nI_1 o, nI_clamp (n := 6 * c) (by omega), a5, Option.bind_some, nI_1 (6 * c), if_neg (nI_in (show 6 * c + 1 < 366 by omega) (by decide)), if_neg (show ¬ nI 112 = 105 by decide), if_neg (show ¬ nI 112 = 109 by decide), if_pos (show nI 112 = 112 from rfl)]
        show (f_X7_behind (mp M (nI o1) (-1) (upd (upd cm (6 * c) (nI 112)) (nI (6 * c + 1)).toNatClampNeg (nI v1)) Q) 58).bind _ = _
        rw [nI_clamp (n := 6 * c + 1) (by omega), show (58 : Int32) = nI 58 from rfl, b05, Option.bind_some, show (2 : Int32) = nI 2 from rfl, nI_ak, if_neg (nI_in (show 6 * c + 2 < 366 by omega) (by decide))]
        show some (mp M (nI o2) (-1) (upd (upd (upd cm (6 * c) (nI 112)) (6 * c + 1) (nI v1)) (nI (6 * c + 2)).toNatClampNeg (nI v2)) Q) = _
        rw [nI_clamp (n := 6 * c + 2) (by omega)]
      · rw [upd_ne _ _ (by omega), upd_ne _ _ (by omega), upd_eq]
      · rw [upd_ne _ _ (by omega), upd_ne _ _ (by omega)]
      · rw [upd_ne _ _ (by omega), upd_ne _ _ (by omega), upd_ne _ _ (by omega)]
      · rcases (show j = 0 ∨ j = 1 by omega) with rfl | rfl
        · show (upd (upd ns (5 * c) (nI v1)) (5 * c + 1) (nI v2)) (5 * c) = (upd (upd (upd cm (6 * c) (nI 112)) (6 * c + 1) (nI v1)) (6 * c + 2) (nI v2)) (6 * c + 1) ∧ ∃ v : Nat, v ≤ 99 ∧ (upd (upd (upd cm (6 * c) (nI 112)) (6 * c + 1) (nI v1)) (6 * c + 2) (nI v2)) (6 * c + 1) = nI v
          rw [upd_ne _ _ (by omega), upd_eq, upd_ne _ _ (by omega), upd_eq]
          exact ⟨rfl, v1, by omega, rfl⟩
        · show (upd (upd ns (5 * c) (nI v1)) (5 * c + 1) (nI v2)) (5 * c + 1) = (upd (upd (upd cm (6 * c) (nI 112)) (6 * c + 1) (nI v1)) (6 * c + 2) (nI v2)) (6 * c + 2) ∧ ∃ v : Nat, v ≤ 99 ∧ (upd (upd (upd cm (6 * c) (nI 112)) (6 * c + 1) (nI v1)) (6 * c + 2) (nI v2)) (6 * c + 2) = nI v
          rw [upd_eq, upd_eq]
          exact ⟨rfl, v2, by omega, rfl⟩
    · refine Or.inl ⟨ns2, x, y, (upd (upd (upd cm (6 * c) (nI 112)) (6 * c + 1) (nI v1)) (6 * c + 2) 0), by omega, (a4).trans (b04), ?_⟩
      rw [f_X7_command_c97, if_neg (nI_in (show 6 * c < 366 by omega) (by decide)), if_neg (show ¬ nI 112 = 119 by decide), if_neg (show ¬ nI 112 = 120 by decide)]
      show (f_X7_number (mp M (nI o + 1) (-1) (upd cm (nI (6 * c)).toNatClampNeg (nI 112)) Q) 2).bind _ = _
      rw [nI_1 o, nI_clamp (n := 6 * c) (by omega), a5, Option.bind_some, nI_1 (6 * c), if_neg (nI_in (show 6 * c + 1 < 366 by omega) (by decide)), if_neg (show ¬ nI 112 = 105 by decide), if_neg (show ¬ nI 112 = 109 by decide), if_pos (show nI 112 = 112 from rfl)]
      show (f_X7_behind (mp M (nI o1) (-1) (upd (upd cm (6 * c) (nI 112)) (nI (6 * c + 1)).toNatClampNeg (nI v1)) Q) 58).bind _ = _
      rw [nI_clamp (n := 6 * c + 1) (by omega), show (58 : Int32) = nI 58 from rfl, b05, Option.bind_some, show (2 : Int32) = nI 2 from rfl, nI_ak, if_neg (nI_in (show 6 * c + 2 < 366 by omega) (by decide))]
      show some (mp M (nI y) (nI x) (upd (upd (upd cm (6 * c) (nI 112)) (6 * c + 1) (nI v1)) (nI (6 * c + 2)).toNatClampNeg 0) Q) = _
      rw [nI_clamp (n := 6 * c + 2) (by omega)]
  · refine Or.inl ⟨ns1, x, x, (upd (upd (upd cm (6 * c) (nI 112)) (6 * c + 1) 0) (6 * c + 2) 0), by omega, a4, ?_⟩
    replace a5 : f_X7_number (mp M (nI (o + 1)) (-1) (upd cm (6 * c) (nI 112)) Q) 2 = _ := a5
    rw [f_X7_command_c97, if_neg (nI_in (show 6 * c < 366 by omega) (by decide)), if_neg (show ¬ nI 112 = 119 by decide), if_neg (show ¬ nI 112 = 120 by decide)]
    show (f_X7_number (mp M (nI o + 1) (-1) (upd cm (nI (6 * c)).toNatClampNeg (nI 112)) Q) 2).bind _ = _
    rw [nI_1 o, nI_clamp (n := 6 * c) (by omega), a5, Option.bind_some, nI_1 (6 * c), if_neg (nI_in (show 6 * c + 1 < 366 by omega) (by decide)), if_neg (show ¬ nI 112 = 105 by decide), if_neg (show ¬ nI 112 = 109 by decide), if_pos (show nI 112 = 112 from rfl)]
    show (f_X7_behind (mp M (nI x) (nI x) (upd (upd cm (6 * c) (nI 112)) (nI (6 * c + 1)).toNatClampNeg 0) Q) 58).bind _ = _
    rw [nI_clamp (n := 6 * c + 1) (by omega), beh_err (nI_pos (by omega)), Option.bind_some, show (2 : Int32) = nI 2 from rfl, nI_ak, if_neg (nI_in (show 6 * c + 2 < 366 by omega) (by decide))]
    show some (mp M (nI x) (nI x) (upd (upd (upd cm (6 * c) (nI 112)) (6 * c + 1) 0) (nI (6 * c + 2)).toNatClampNeg 0) Q) = _
    rw [nI_clamp (n := 6 * c + 2) (by omega)]
theorem cmd_114 {C : CmdS} {M : ModS} {L o c : Nat} (h : IRn C M L) (ho : o + 1 ≤ L) (hc : c < 20) (ks ns cm : Nat → Int32) (q Q : Int32) : cmdRes C M L o c 114 ks ns cm q Q (f_X0_readCommand_c46 200 (cp C (nI (o + 1)) ks ns q) 3 (nI (5 * c)) (nI 0)) (f_X7_command_c97 (mp M (nI o) (-1) cm Q) (nI (6 * c)) (nI 114)) := by
  have hL := h.1
  rcases pt_num (n := 199) (m := 2) (i := 3) (k := 0) (pl := 5 * c) (o := o + 1) h (by omega) (by decide) (by decide) (by decide) (Or.inl ⟨rfl, by decide⟩) (by omega) ks ns (upd cm (6 * c) (nI 114)) q Q with ⟨v1, o1, a1, a2, a3, a4, a5⟩ | ⟨ns1, x, a3, a4, a5⟩
  · replace a5 : f_X7_number (mp M (nI (o + 1)) (-1) (upd cm (6 * c) (nI 114)) Q) 2 = _ := a5
    rcases pt_sep (n := 197) (i := 3) (k := 1) (pl := 5 * c + 1) (o := o1) (s := 45) h (by omega) (by decide) (by decide) (by decide) (by decide) (by decide) (by decide) (by omega) ks (upd ns (5 * c) (nI v1)) (upd (upd cm (6 * c) (nI 114)) (6 * c + 1) (nI v1)) q Q with ⟨v2, o2, b01, b02, b03, b04, b05⟩ | ⟨ns2, x, y, b03, b04, b05⟩
    · refine Or.inr ⟨o2, (upd (upd ns (5 * c) (nI v1)) (5 * c + 1) (nI v2)), (upd (upd (upd cm (6 * c) (nI 114)) (6 * c + 1) (nI v1)) (6 * c + 2) (nI v2)), by omega, by omega, (a4).trans ((b04).trans (st_end (n := 196) (i := 3) (k := 3) (by decide) (by decide) (by decide))), ?_, ?_, fun j hj => ?_, fun j hj => ?_, ⟨2, by decide, fun j hj => ?_⟩⟩
      · rw [f_X7_command_c97, if_neg (nI_in (show 6 * c < 366 by omega) (by decide)), if_neg (show ¬ nI 114 = 119 by decide), if_neg (show ¬ nI 114 = 120 by decide)]
        show (f_X7_number (mp M (nI o + 1) (-1) (upd cm (nI (6 * c)).toNatClampNeg (nI 114)) Q) 2).bind _ = _
        rw [nI_1 o, nI_clamp (n := 6 * c) (by omega), a5, Option.bind_some, nI_1 (6 * c), if_neg (nI_in (show 6 * c + 1 < 366 by omega) (by decide)), if_neg (show ¬ nI 114 = 105 by decide), if_neg (show ¬ nI 114 = 109 by decide), if_neg (show ¬ nI 114 = 112 by decide), if_pos (show nI 114 = 114 from rfl)]
        show (f_X7_behind (mp M (nI o1) (-1) (upd (upd cm (6 * c) (nI 114)) (nI (6 * c + 1)).toNatClampNeg (nI v1)) Q) 45).bind _ = _
        rw [nI_clamp (n := 6 * c + 1) (by omega), show (45 : Int32) = nI 45 from rfl, b05, Option.bind_some, show (2 : Int32) = nI 2 from rfl, nI_ak, if_neg (nI_in (show 6 * c + 2 < 366 by omega) (by decide))]
        show some (mp M (nI o2) (-1) (upd (upd (upd cm (6 * c) (nI 114)) (6 * c + 1) (nI v1)) (nI (6 * c + 2)).toNatClampNeg (nI v2)) Q) = _
        rw [nI_clamp (n := 6 * c + 2) (by omega)]
      · rw [upd_ne _ _ (by omega), upd_ne _ _ (by omega), upd_eq]
      · rw [upd_ne _ _ (by omega), upd_ne _ _ (by omega)]
      · rw [upd_ne _ _ (by omega), upd_ne _ _ (by omega), upd_ne _ _ (by omega)]
      · rcases (show j = 0 ∨ j = 1 by omega) with rfl | rfl
        · show (upd (upd ns (5 * c) (nI v1)) (5 * c + 1) (nI v2)) (5 * c) = (upd (upd (upd cm (6 * c) (nI 114)) (6 * c + 1) (nI v1)) (6 * c + 2) (nI v2)) (6 * c + 1) ∧ ∃ v : Nat, v ≤ 99 ∧ (upd (upd (upd cm (6 * c) (nI 114)) (6 * c + 1) (nI v1)) (6 * c + 2) (nI v2)) (6 * c + 1) = nI v
          rw [upd_ne _ _ (by omega), upd_eq, upd_ne _ _ (by omega), upd_eq]
          exact ⟨rfl, v1, by omega, rfl⟩
        · show (upd (upd ns (5 * c) (nI v1)) (5 * c + 1) (nI v2)) (5 * c + 1) = (upd (upd (upd cm (6 * c) (nI 114)) (6 * c + 1) (nI v1)) (6 * c + 2) (nI v2)) (6 * c + 2) ∧ ∃ v : Nat, v ≤ 99 ∧ (upd (upd (upd cm (6 * c) (nI 114)) (6 * c + 1) (nI v1)) (6 * c + 2) (nI v2)) (6 * c + 2) = nI v
          rw [upd_eq, upd_eq]
          exact ⟨rfl, v2, by omega, rfl⟩
    · refine Or.inl ⟨ns2, x, y, (upd (upd (upd cm (6 * c) (nI 114)) (6 * c + 1) (nI v1)) (6 * c + 2) 0), by omega, (a4).trans (b04), ?_⟩
      rw [f_X7_command_c97, if_neg (nI_in (show 6 * c < 366 by omega) (by decide)), if_neg (show ¬ nI 114 = 119 by decide), if_neg (show ¬ nI 114 = 120 by decide)]
      show (f_X7_number (mp M (nI o + 1) (-1) (upd cm (nI (6 * c)).toNatClampNeg (nI 114)) Q) 2).bind _ = _
      rw [nI_1 o, nI_clamp (n := 6 * c) (by omega), a5, Option.bind_some, nI_1 (6 * c), if_neg (nI_in (show 6 * c + 1 < 366 by omega) (by decide)), if_neg (show ¬ nI 114 = 105 by decide), if_neg (show ¬ nI 114 = 109 by decide), if_neg (show ¬ nI 114 = 112 by decide), if_pos (show nI 114 = 114 from rfl)]
      show (f_X7_behind (mp M (nI o1) (-1) (upd (upd cm (6 * c) (nI 114)) (nI (6 * c + 1)).toNatClampNeg (nI v1)) Q) 45).bind _ = _
      rw [nI_clamp (n := 6 * c + 1) (by omega), show (45 : Int32) = nI 45 from rfl, b05, Option.bind_some, show (2 : Int32) = nI 2 from rfl, nI_ak, if_neg (nI_in (show 6 * c + 2 < 366 by omega) (by decide))]
      show some (mp M (nI y) (nI x) (upd (upd (upd cm (6 * c) (nI 114)) (6 * c + 1) (nI v1)) (nI (6 * c + 2)).toNatClampNeg 0) Q) = _
      rw [nI_clamp (n := 6 * c + 2) (by omega)]
  · refine Or.inl ⟨ns1, x, x, (upd (upd (upd cm (6 * c) (nI 114)) (6 * c + 1) 0) (6 * c + 2) 0), by omega, a4, ?_⟩
    replace a5 : f_X7_number (mp M (nI (o + 1)) (-1) (upd cm (6 * c) (nI 114)) Q) 2 = _ := a5
    rw [f_X7_command_c97, if_neg (nI_in (show 6 * c < 366 by omega) (by decide)), if_neg (show ¬ nI 114 = 119 by decide), if_neg (show ¬ nI 114 = 120 by decide)]
    show (f_X7_number (mp M (nI o + 1) (-1) (upd cm (nI (6 * c)).toNatClampNeg (nI 114)) Q) 2).bind _ = _
    rw [nI_1 o, nI_clamp (n := 6 * c) (by omega), a5, Option.bind_some, nI_1 (6 * c), if_neg (nI_in (show 6 * c + 1 < 366 by omega) (by decide)), if_neg (show ¬ nI 114 = 105 by decide), if_neg (show ¬ nI 114 = 109 by decide), if_neg (show ¬ nI 114 = 112 by decide), if_pos (show nI 114 = 114 from rfl)]
    show (f_X7_behind (mp M (nI x) (nI x) (upd (upd cm (6 * c) (nI 114)) (nI (6 * c + 1)).toNatClampNeg 0) Q) 45).bind _ = _
    rw [nI_clamp (n := 6 * c + 1) (by omega), beh_err (nI_pos (by omega)), Option.bind_some, show (2 : Int32) = nI 2 from rfl, nI_ak, if_neg (nI_in (show 6 * c + 2 < 366 by omega) (by decide))]
    show some (mp M (nI x) (nI x) (upd (upd (upd cm (6 * c) (nI 114)) (6 * c + 1) 0) (nI (6 * c + 2)).toNatClampNeg 0) Q) = _
    rw [nI_clamp (n := 6 * c + 2) (by omega)]
theorem cmd_100 {C : CmdS} {M : ModS} {L o c : Nat} (h : IRn C M L) (ho : o + 1 ≤ L) (hc : c < 20) (ks ns cm : Nat → Int32) (q Q : Int32) : cmdRes C M L o c 100 ks ns cm q Q (f_X0_readCommand_c46 200 (cp C (nI (o + 1)) ks ns q) 1 (nI (5 * c)) (nI 0)) (f_X7_command_c97 (mp M (nI o) (-1) cm Q) (nI (6 * c)) (nI 100)) := by
  have hL := h.1
  rcases pt_num (n := 199) (m := 2) (i := 1) (k := 0) (pl := 5 * c) (o := o + 1) h (by omega) (by decide) (by decide) (by decide) (Or.inl ⟨rfl, by decide⟩) (by omega) ks ns (upd cm (6 * c) (nI 100)) q Q with ⟨v1, o1, a1, a2, a3, a4, a5⟩ | ⟨ns1, x, a3, a4, a5⟩
  · replace a5 : f_X7_number (mp M (nI (o + 1)) (-1) (upd cm (6 * c) (nI 100)) Q) 2 = _ := a5
    refine Or.inr ⟨o1, (upd ns (5 * c) (nI v1)), (upd (upd cm (6 * c) (nI 100)) (6 * c + 1) (nI v1)), by omega, by omega, (a4).trans (st_end (n := 198) (i := 1) (k := 1) (by decide) (by decide) (by decide)), ?_, ?_, fun j hj => ?_, fun j hj => ?_, ⟨1, by decide, fun j hj => ?_⟩⟩
    · rw [f_X7_command_c97, if_neg (nI_in (show 6 * c < 366 by omega) (by decide)), if_neg (show ¬ nI 100 = 119 by decide), if_neg (show ¬ nI 100 = 120 by decide)]
      show (f_X7_number (mp M (nI o + 1) (-1) (upd cm (nI (6 * c)).toNatClampNeg (nI 100)) Q) 2).bind _ = _
      rw [nI_1 o, nI_clamp (n := 6 * c) (by omega), a5, Option.bind_some, nI_1 (6 * c), if_neg (nI_in (show 6 * c + 1 < 366 by omega) (by decide)), if_neg (show ¬ nI 100 = 105 by decide), if_neg (show ¬ nI 100 = 109 by decide), if_neg (show ¬ nI 100 = 112 by decide), if_neg (show ¬ nI 100 = 114 by decide), if_neg (show ¬ nI 100 = 119 by decide)]
      show some (mp M (nI o1) (-1) (upd (upd cm (6 * c) (nI 100)) (nI (6 * c + 1)).toNatClampNeg (nI v1)) Q) = _
      rw [nI_clamp (n := 6 * c + 1) (by omega)]
    · rw [upd_ne _ _ (by omega), upd_eq]
    · rw [upd_ne _ _ (by omega)]
    · rw [upd_ne _ _ (by omega), upd_ne _ _ (by omega)]
    · obtain rfl : j = 0 := by omega
      show (upd ns (5 * c) (nI v1)) (5 * c) = (upd (upd cm (6 * c) (nI 100)) (6 * c + 1) (nI v1)) (6 * c + 1) ∧ ∃ v : Nat, v ≤ 99 ∧ (upd (upd cm (6 * c) (nI 100)) (6 * c + 1) (nI v1)) (6 * c + 1) = nI v
      rw [upd_eq, upd_eq]
      exact ⟨rfl, v1, by omega, rfl⟩
  · refine Or.inl ⟨ns1, x, x, (upd (upd cm (6 * c) (nI 100)) (6 * c + 1) 0), by omega, a4, ?_⟩
    replace a5 : f_X7_number (mp M (nI (o + 1)) (-1) (upd cm (6 * c) (nI 100)) Q) 2 = _ := a5
    rw [f_X7_command_c97, if_neg (nI_in (show 6 * c < 366 by omega) (by decide)), if_neg (show ¬ nI 100 = 119 by decide), if_neg (show ¬ nI 100 = 120 by decide)]
    show (f_X7_number (mp M (nI o + 1) (-1) (upd cm (nI (6 * c)).toNatClampNeg (nI 100)) Q) 2).bind _ = _
    rw [nI_1 o, nI_clamp (n := 6 * c) (by omega), a5, Option.bind_some, nI_1 (6 * c), if_neg (nI_in (show 6 * c + 1 < 366 by omega) (by decide)), if_neg (show ¬ nI 100 = 105 by decide), if_neg (show ¬ nI 100 = 109 by decide), if_neg (show ¬ nI 100 = 112 by decide), if_neg (show ¬ nI 100 = 114 by decide), if_neg (show ¬ nI 100 = 119 by decide)]
    show some (mp M (nI x) (nI x) (upd (upd cm (6 * c) (nI 100)) (nI (6 * c + 1)).toNatClampNeg 0) Q) = _
    rw [nI_clamp (n := 6 * c + 1) (by omega)]
theorem cmd_120 {C : CmdS} {M : ModS} {L o c : Nat} (h : IRn C M L) (ho : o + 1 ≤ L) (hc : c < 20) (ks ns cm : Nat → Int32) (q Q : Int32) : cmdRes C M L o c 120 ks ns cm q Q (f_X0_readCommand_c46 200 (cp C (nI (o + 1)) ks ns q) 5 (nI (5 * c)) (nI 0)) (f_X7_command_c97 (mp M (nI o) (-1) cm Q) (nI (6 * c)) (nI 120)) := by
  have hL := h.1
  rcases pt_num (n := 199) (m := 1) (i := 5) (k := 0) (pl := 5 * c) (o := o + 1) h (by omega) (by decide) (by decide) (by decide) (Or.inr ⟨rfl, by decide⟩) (by omega) ks ns (upd cm (6 * c) (nI 120)) q Q with ⟨v1, o1, a1, a2, a3, a4, a5⟩ | ⟨ns1, x, a3, a4, a5⟩
  · replace a5 : f_X7_number (mp M (nI (o + 1)) (-1) (upd cm (6 * c) (nI 120)) Q) 1 = _ := a5
    refine Or.inr ⟨o1, (upd ns (5 * c) (nI v1)), (upd (upd cm (6 * c) (nI 120)) (6 * c + 1) (nI v1)), by omega, by omega, (a4).trans (st_end (n := 198) (i := 5) (k := 1) (by decide) (by decide) (by decide)), ?_, ?_, fun j hj => ?_, fun j hj => ?_, ⟨1, by decide, fun j hj => ?_⟩⟩
    · rw [f_X7_command_c97, if_neg (nI_in (show 6 * c < 366 by omega) (by decide)), if_neg (show ¬ nI 120 = 119 by decide), if_pos (show nI 120 = 120 from rfl)]
      show (f_X7_number (mp M (nI o + 1) (-1) (upd cm (nI (6 * c)).toNatClampNeg (nI 120)) Q) 1).bind _ = _
      rw [nI_1 o, nI_clamp (n := 6 * c) (by omega), a5, Option.bind_some, nI_1 (6 * c), if_neg (nI_in (show 6 * c + 1 < 366 by omega) (by decide)), if_neg (show ¬ nI 120 = 105 by decide), if_neg (show ¬ nI 120 = 109 by decide), if_neg (show ¬ nI 120 = 112 by decide), if_neg (show ¬ nI 120 = 114 by decide), if_neg (show ¬ nI 120 = 119 by decide)]
      show some (mp M (nI o1) (-1) (upd (upd cm (6 * c) (nI 120)) (nI (6 * c + 1)).toNatClampNeg (nI v1)) Q) = _
      rw [nI_clamp (n := 6 * c + 1) (by omega)]
    · rw [upd_ne _ _ (by omega), upd_eq]
    · rw [upd_ne _ _ (by omega)]
    · rw [upd_ne _ _ (by omega), upd_ne _ _ (by omega)]
    · obtain rfl : j = 0 := by omega
      show (upd ns (5 * c) (nI v1)) (5 * c) = (upd (upd cm (6 * c) (nI 120)) (6 * c + 1) (nI v1)) (6 * c + 1) ∧ ∃ v : Nat, v ≤ 99 ∧ (upd (upd cm (6 * c) (nI 120)) (6 * c + 1) (nI v1)) (6 * c + 1) = nI v
      rw [upd_eq, upd_eq]
      exact ⟨rfl, v1, by omega, rfl⟩
  · refine Or.inl ⟨ns1, x, x, (upd (upd cm (6 * c) (nI 120)) (6 * c + 1) 0), by omega, a4, ?_⟩
    replace a5 : f_X7_number (mp M (nI (o + 1)) (-1) (upd cm (6 * c) (nI 120)) Q) 1 = _ := a5
    rw [f_X7_command_c97, if_neg (nI_in (show 6 * c < 366 by omega) (by decide)), if_neg (show ¬ nI 120 = 119 by decide), if_pos (show nI 120 = 120 from rfl)]
    show (f_X7_number (mp M (nI o + 1) (-1) (upd cm (nI (6 * c)).toNatClampNeg (nI 120)) Q) 1).bind _ = _
    rw [nI_1 o, nI_clamp (n := 6 * c) (by omega), a5, Option.bind_some, nI_1 (6 * c), if_neg (nI_in (show 6 * c + 1 < 366 by omega) (by decide)), if_neg (show ¬ nI 120 = 105 by decide), if_neg (show ¬ nI 120 = 109 by decide), if_neg (show ¬ nI 120 = 112 by decide), if_neg (show ¬ nI 120 = 114 by decide), if_neg (show ¬ nI 120 = 119 by decide)]
    show some (mp M (nI x) (nI x) (upd (upd cm (6 * c) (nI 120)) (nI (6 * c + 1)).toNatClampNeg 0) Q) = _
    rw [nI_clamp (n := 6 * c + 1) (by omega)]
theorem cmd_119 {C : CmdS} {M : ModS} {L o c : Nat} (h : IRn C M L) (ho : o + 1 ≤ L) (hc : c < 20) (ks ns cm : Nat → Int32) (q Q : Int32) : cmdRes C M L o c 119 ks ns cm q Q (f_X0_readCommand_c46 200 (cp C (nI (o + 1)) ks ns q) 4 (nI (5 * c)) (nI 0)) (f_X7_command_c97 (mp M (nI o) (-1) cm Q) (nI (6 * c)) (nI 119)) := by
  have hL := h.1
  rcases pt_num (n := 199) (m := 1) (i := 4) (k := 0) (pl := 5 * c) (o := o + 1) h (by omega) (by decide) (by decide) (by decide) (Or.inr ⟨rfl, by decide⟩) (by omega) ks ns (upd cm (6 * c) (nI 119)) q Q with ⟨v1, o1, a1, a2, a3, a4, a5⟩ | ⟨ns1, x, a3, a4, a5⟩
  · replace a5 : f_X7_number (mp M (nI (o + 1)) (-1) (upd cm (6 * c) (nI 119)) Q) 1 = _ := a5
    rcases pt_sep (n := 197) (i := 4) (k := 1) (pl := 5 * c + 1) (o := o1) (s := 61) h (by omega) (by decide) (by decide) (by decide) (by decide) (by decide) (by decide) (by omega) ks (upd ns (5 * c) (nI v1)) (upd (upd cm (6 * c) (nI 119)) (6 * c + 1) (nI v1)) q Q with ⟨v2, o2, b01, b02, b03, b04, b05⟩ | ⟨ns2, x, y, b03, b04, b05⟩
    · rcases pt_sep (n := 195) (i := 4) (k := 3) (pl := 5 * c + 2) (o := o2) (s := 45) h (by omega) (by decide) (by decide) (by decide) (by decide) (by decide) (by decide) (by omega) ks (upd (upd ns (5 * c) (nI v1)) (5 * c + 1) (nI v2)) (upd (upd (upd cm (6 * c) (nI 119)) (6 * c + 1) (nI v1)) (6 * c + 2) (nI v2)) q Q with ⟨v3, o3, b11, b12, b13, b14, b15⟩ | ⟨ns3, x, y, b13, b14, b15⟩
      · rcases pt_sep (n := 193) (i := 4) (k := 5) (pl := 5 * c + 3) (o := o3) (s := 94) h (by omega) (by decide) (by decide) (by decide) (by decide) (by decide) (by decide) (by omega) ks (upd (upd (upd ns (5 * c) (nI v1)) (5 * c + 1) (nI v2)) (5 * c + 2) (nI v3)) (upd (upd (upd (upd cm (6 * c) (nI 119)) (6 * c + 1) (nI v1)) (6 * c + 2) (nI v2)) (6 * c + 3) (nI v3)) q Q with ⟨v4, o4, b21, b22, b23, b24, b25⟩ | ⟨ns4, x, y, b23, b24, b25⟩
        · rcases pt_sep (n := 191) (i := 4) (k := 7) (pl := 5 * c + 4) (o := o4) (s := 47) h (by omega) (by decide) (by decide) (by decide) (by decide) (by decide) (by decide) (by omega) ks (upd (upd (upd (upd ns (5 * c) (nI v1)) (5 * c + 1) (nI v2)) (5 * c + 2) (nI v3)) (5 * c + 3) (nI v4)) (upd (upd (upd (upd (upd cm (6 * c) (nI 119)) (6 * c + 1) (nI v1)) (6 * c + 2) (nI v2)) (6 * c + 3) (nI v3)) (6 * c + 4) (nI v4)) q Q with ⟨v5, o5, b31, b32, b33, b34, b35⟩ | ⟨ns5, x, y, b33, b34, b35⟩
          · refine Or.inr ⟨o5, (upd (upd (upd (upd (upd ns (5 * c) (nI v1)) (5 * c + 1) (nI v2)) (5 * c + 2) (nI v3)) (5 * c + 3) (nI v4)) (5 * c + 4) (nI v5)), (upd (upd (upd (upd (upd (upd cm (6 * c) (nI 119)) (6 * c + 1) (nI v1)) (6 * c + 2) (nI v2)) (6 * c + 3) (nI v3)) (6 * c + 4) (nI v4)) (6 * c + 5) (nI v5)), by omega, by omega, (a4).trans ((b04).trans ((b14).trans ((b24).trans ((b34).trans (st_end (n := 190) (i := 4) (k := 9) (by decide) (by decide) (by decide)))))), ?_, ?_, fun j hj => ?_, fun j hj => ?_, ⟨5, by decide, fun j hj => ?_⟩⟩
            · rw [f_X7_command_c97, if_neg (nI_in (show 6 * c < 366 by omega) (by decide)), if_pos (show nI 119 = 119 from rfl)]
              show (f_X7_number (mp M (nI o + 1) (-1) (upd cm (nI (6 * c)).toNatClampNeg (nI 119)) Q) 1).bind _ = _
              rw [nI_1 o, nI_clamp (n := 6 * c) (by omega), a5, Option.bind_some, nI_1 (6 * c), if_neg (nI_in (show 6 * c + 1 < 366 by omega) (by decide)), if_neg (show ¬ nI 119 = 105 by decide), if_neg (show ¬ nI 119 = 109 by decide), if_neg (show ¬ nI 119 = 112 by decide), if_neg (show ¬ nI 119 = 114 by decide), if_pos (show nI 119 = 119 from rfl)]
              show (f_X7_behind (mp M (nI o1) (-1) (upd (upd cm (6 * c) (nI 119)) (nI (6 * c + 1)).toNatClampNeg (nI v1)) Q) 61).bind _ = _
              rw [nI_clamp (n := 6 * c + 1) (by omega), show (61 : Int32) = nI 61 from rfl, b05, Option.bind_some, show (2 : Int32) = nI 2 from rfl, nI_ak, if_neg (nI_in (show 6 * c + 2 < 366 by omega) (by decide))]
              show (f_X7_behind (mp M (nI o2) (-1) (upd (upd (upd cm (6 * c) (nI 119)) (6 * c + 1) (nI v1)) (nI (6 * c + 2)).toNatClampNeg (nI v2)) Q) 45).bind _ = _
              rw [nI_clamp (n := 6 * c + 2) (by omega), show (45 : Int32) = nI 45 from rfl, b15, Option.bind_some, show (3 : Int32) = nI 3 from rfl, nI_ak, if_neg (nI_in (show 6 * c + 3 < 366 by omega) (by decide))]
              show (f_X7_behind (mp M (nI o3) (-1) (upd (upd (upd (upd cm (6 * c) (nI 119)) (6 * c + 1) (nI v1)) (6 * c + 2) (nI v2)) (nI (6 * c + 3)).toNatClampNeg (nI v3)) Q) 94).bind _ = _
              rw [nI_clamp (n := 6 * c + 3) (by omega), show (94 : Int32) = nI 94 from rfl, b25, Option.bind_some, show (4 : Int32) = nI 4 from rfl, nI_ak, if_neg (nI_in (show 6 * c + 4 < 366 by omega) (by decide))]
              show (f_X7_behind (mp M (nI o4) (-1) (upd (upd (upd (upd (upd cm (6 * c) (nI 119)) (6 * c + 1) (nI v1)) (6 * c + 2) (nI v2)) (6 * c + 3) (nI v3)) (nI (6 * c + 4)).toNatClampNeg (nI v4)) Q) 47).bind _ = _
              rw [nI_clamp (n := 6 * c + 4) (by omega), show (47 : Int32) = nI 47 from rfl, b35, Option.bind_some, show (5 : Int32) = nI 5 from rfl, nI_ak, if_neg (nI_in (show 6 * c + 5 < 366 by omega) (by decide))]
              show some (mp M (nI o5) (-1) (upd (upd (upd (upd (upd (upd cm (6 * c) (nI 119)) (6 * c + 1) (nI v1)) (6 * c + 2) (nI v2)) (6 * c + 3) (nI v3)) (6 * c + 4) (nI v4)) (nI (6 * c + 5)).toNatClampNeg (nI v5)) Q) = _
              rw [nI_clamp (n := 6 * c + 5) (by omega)]
            · rw [upd_ne _ _ (by omega), upd_ne _ _ (by omega), upd_ne _ _ (by omega), upd_ne _ _ (by omega), upd_ne _ _ (by omega), upd_eq]
            · rw [upd_ne _ _ (by omega), upd_ne _ _ (by omega), upd_ne _ _ (by omega), upd_ne _ _ (by omega), upd_ne _ _ (by omega)]
            · rw [upd_ne _ _ (by omega), upd_ne _ _ (by omega), upd_ne _ _ (by omega), upd_ne _ _ (by omega), upd_ne _ _ (by omega), upd_ne _ _ (by omega)]
            · rcases (show j = 0 ∨ j = 1 ∨ j = 2 ∨ j = 3 ∨ j = 4 by omega) with rfl | rfl | rfl | rfl | rfl
              · show (upd (upd (upd (upd (upd ns (5 * c) (nI v1)) (5 * c + 1) (nI v2)) (5 * c + 2) (nI v3)) (5 * c + 3) (nI v4)) (5 * c + 4) (nI v5)) (5 * c) = (upd (upd (upd (upd (upd (upd cm (6 * c) (nI 119)) (6 * c + 1) (nI v1)) (6 * c + 2) (nI v2)) (6 * c + 3) (nI v3)) (6 * c + 4) (nI v4)) (6 * c + 5) (nI v5)) (6 * c + 1) ∧ ∃ v : Nat, v ≤ 99 ∧ (upd (upd (upd (upd (upd (upd cm (6 * c) (nI 119)) (6 * c + 1) (nI v1)) (6 * c + 2) (nI v2)) (6 * c + 3) (nI v3)) (6 * c + 4) (nI v4)) (6 * c + 5) (nI v5)) (6 * c + 1) = nI v
                rw [upd_ne _ _ (by omega), upd_ne _ _ (by omega), upd_ne _ _ (by omega), upd_ne _ _ (by omega), upd_eq, upd_ne _ _ (by omega), upd_ne _ _ (by omega), upd_ne _ _ (by omega), upd_ne _ _ (by omega), upd_eq]
                exact ⟨rfl, v1, by omega, rfl⟩
              · show (upd (upd (upd (upd (upd ns (5 * c) (nI v1)) (5 * c + 1) (nI v2)) (5 * c + 2) (nI v3)) (5 * c + 3) (nI v4)) (5 * c + 4) (nI v5)) (5 * c + 1) = (upd (upd (upd (upd (upd (upd cm (6 * c) (nI 119)) (6 * c + 1) (nI v1)) (6 * c + 2) (nI v2)) (6 * c + 3) (nI v3)) (6 * c + 4) (nI v4)) (6 * c + 5) (nI v5)) (6 * c + 2) ∧ ∃ v : Nat, v ≤ 99 ∧ (upd (upd (upd (upd (upd (upd cm (6 * c) (nI 119)) (6 * c + 1) (nI v1)) (6 * c + 2) (nI v2)) (6 * c + 3) (nI v3)) (6 * c + 4) (nI v4)) (6 * c + 5) (nI v5)) (6 * c + 2) = nI v
                rw [upd_ne _ _ (by omega), upd_ne _ _ (by omega), upd_ne _ _ (by omega), upd_eq, upd_ne _ _ (by omega), upd_ne _ _ (by omega), upd_ne _ _ (by omega), upd_eq]
                exact ⟨rfl, v2, by omega, rfl⟩
              · show (upd (upd (upd (upd (upd ns (5 * c) (nI v1)) (5 * c + 1) (nI v2)) (5 * c + 2) (nI v3)) (5 * c + 3) (nI v4)) (5 * c + 4) (nI v5)) (5 * c + 2) = (upd (upd (upd (upd (upd (upd cm (6 * c) (nI 119)) (6 * c + 1) (nI v1)) (6 * c + 2) (nI v2)) (6 * c + 3) (nI v3)) (6 * c + 4) (nI v4)) (6 * c + 5) (nI v5)) (6 * c + 3) ∧ ∃ v : Nat, v ≤ 99 ∧ (upd (upd (upd (upd (upd (upd cm (6 * c) (nI 119)) (6 * c + 1) (nI v1)) (6 * c + 2) (nI v2)) (6 * c + 3) (nI v3)) (6 * c + 4) (nI v4)) (6 * c + 5) (nI v5)) (6 * c + 3) = nI v
                rw [upd_ne _ _ (by omega), upd_ne _ _ (by omega), upd_eq, upd_ne _ _ (by omega), upd_ne _ _ (by omega), upd_eq]
                exact ⟨rfl, v3, by omega, rfl⟩
              · show (upd (upd (upd (upd (upd ns (5 * c) (nI v1)) (5 * c + 1) (nI v2)) (5 * c + 2) (nI v3)) (5 * c + 3) (nI v4)) (5 * c + 4) (nI v5)) (5 * c + 3) = (upd (upd (upd (upd (upd (upd cm (6 * c) (nI 119)) (6 * c + 1) (nI v1)) (6 * c + 2) (nI v2)) (6 * c + 3) (nI v3)) (6 * c + 4) (nI v4)) (6 * c + 5) (nI v5)) (6 * c + 4) ∧ ∃ v : Nat, v ≤ 99 ∧ (upd (upd (upd (upd (upd (upd cm (6 * c) (nI 119)) (6 * c + 1) (nI v1)) (6 * c + 2) (nI v2)) (6 * c + 3) (nI v3)) (6 * c + 4) (nI v4)) (6 * c + 5) (nI v5)) (6 * c + 4) = nI v
                rw [upd_ne _ _ (by omega), upd_eq, upd_ne _ _ (by omega), upd_eq]
                exact ⟨rfl, v4, by omega, rfl⟩
              · show (upd (upd (upd (upd (upd ns (5 * c) (nI v1)) (5 * c + 1) (nI v2)) (5 * c + 2) (nI v3)) (5 * c + 3) (nI v4)) (5 * c + 4) (nI v5)) (5 * c + 4) = (upd (upd (upd (upd (upd (upd cm (6 * c) (nI 119)) (6 * c + 1) (nI v1)) (6 * c + 2) (nI v2)) (6 * c + 3) (nI v3)) (6 * c + 4) (nI v4)) (6 * c + 5) (nI v5)) (6 * c + 5) ∧ ∃ v : Nat, v ≤ 99 ∧ (upd (upd (upd (upd (upd (upd cm (6 * c) (nI 119)) (6 * c + 1) (nI v1)) (6 * c + 2) (nI v2)) (6 * c + 3) (nI v3)) (6 * c + 4) (nI v4)) (6 * c + 5) (nI v5)) (6 * c + 5) = nI v
                rw [upd_eq, upd_eq]
                exact ⟨rfl, v5, by omega, rfl⟩
          · refine Or.inl ⟨ns5, x, y, (upd (upd (upd (upd (upd (upd cm (6 * c) (nI 119)) (6 * c + 1) (nI v1)) (6 * c + 2) (nI v2)) (6 * c + 3) (nI v3)) (6 * c + 4) (nI v4)) (6 * c + 5) 0), by omega, (a4).trans ((b04).trans ((b14).trans ((b24).trans (b34)))), ?_⟩
            rw [f_X7_command_c97, if_neg (nI_in (show 6 * c < 366 by omega) (by decide)), if_pos (show nI 119 = 119 from rfl)]
            show (f_X7_number (mp M (nI o + 1) (-1) (upd cm (nI (6 * c)).toNatClampNeg (nI 119)) Q) 1).bind _ = _
            rw [nI_1 o, nI_clamp (n := 6 * c) (by omega), a5, Option.bind_some, nI_1 (6 * c), if_neg (nI_in (show 6 * c + 1 < 366 by omega) (by decide)), if_neg (show ¬ nI 119 = 105 by decide), if_neg (show ¬ nI 119 = 109 by decide), if_neg (show ¬ nI 119 = 112 by decide), if_neg (show ¬ nI 119 = 114 by decide), if_pos (show nI 119 = 119 from rfl)]
            show (f_X7_behind (mp M (nI o1) (-1) (upd (upd cm (6 * c) (nI 119)) (nI (6 * c + 1)).toNatClampNeg (nI v1)) Q) 61).bind _ = _
            rw [nI_clamp (n := 6 * c + 1) (by omega), show (61 : Int32) = nI 61 from rfl, b05, Option.bind_some, show (2 : Int32) = nI 2 from rfl, nI_ak, if_neg (nI_in (show 6 * c + 2 < 366 by omega) (by decide))]
            show (f_X7_behind (mp M (nI o2) (-1) (upd (upd (upd cm (6 * c) (nI 119)) (6 * c + 1) (nI v1)) (nI (6 * c + 2)).toNatClampNeg (nI v2)) Q) 45).bind _ = _
            rw [nI_clamp (n := 6 * c + 2) (by omega), show (45 : Int32) = nI 45 from rfl, b15, Option.bind_some, show (3 : Int32) = nI 3 from rfl, nI_ak, if_neg (nI_in (show 6 * c + 3 < 366 by omega) (by decide))]
            show (f_X7_behind (mp M (nI o3) (-1) (upd (upd (upd (upd cm (6 * c) (nI 119)) (6 * c + 1) (nI v1)) (6 * c + 2) (nI v2)) (nI (6 * c + 3)).toNatClampNeg (nI v3)) Q) 94).bind _ = _
            rw [nI_clamp (n := 6 * c + 3) (by omega), show (94 : Int32) = nI 94 from rfl, b25, Option.bind_some, show (4 : Int32) = nI 4 from rfl, nI_ak, if_neg (nI_in (show 6 * c + 4 < 366 by omega) (by decide))]
            show (f_X7_behind (mp M (nI o4) (-1) (upd (upd (upd (upd (upd cm (6 * c) (nI 119)) (6 * c + 1) (nI v1)) (6 * c + 2) (nI v2)) (6 * c + 3) (nI v3)) (nI (6 * c + 4)).toNatClampNeg (nI v4)) Q) 47).bind _ = _
            rw [nI_clamp (n := 6 * c + 4) (by omega), show (47 : Int32) = nI 47 from rfl, b35, Option.bind_some, show (5 : Int32) = nI 5 from rfl, nI_ak, if_neg (nI_in (show 6 * c + 5 < 366 by omega) (by decide))]
            show some (mp M (nI y) (nI x) (upd (upd (upd (upd (upd (upd cm (6 * c) (nI 119)) (6 * c + 1) (nI v1)) (6 * c + 2) (nI v2)) (6 * c + 3) (nI v3)) (6 * c + 4) (nI v4)) (nI (6 * c + 5)).toNatClampNeg 0) Q) = _
            rw [nI_clamp (n := 6 * c + 5) (by omega)]
        · refine Or.inl ⟨ns4, x, y, (upd (upd (upd (upd (upd (upd cm (6 * c) (nI 119)) (6 * c + 1) (nI v1)) (6 * c + 2) (nI v2)) (6 * c + 3) (nI v3)) (6 * c + 4) 0) (6 * c + 5) 0), by omega, (a4).trans ((b04).trans ((b14).trans (b24))), ?_⟩
          rw [f_X7_command_c97, if_neg (nI_in (show 6 * c < 366 by omega) (by decide)), if_pos (show nI 119 = 119 from rfl)]
          show (f_X7_number (mp M (nI o + 1) (-1) (upd cm (nI (6 * c)).toNatClampNeg (nI 119)) Q) 1).bind _ = _
          rw [nI_1 o, nI_clamp (n := 6 * c) (by omega), a5, Option.bind_some, nI_1 (6 * c), if_neg (nI_in (show 6 * c + 1 < 366 by omega) (by decide)), if_neg (show ¬ nI 119 = 105 by decide), if_neg (show ¬ nI 119 = 109 by decide), if_neg (show ¬ nI 119 = 112 by decide), if_neg (show ¬ nI 119 = 114 by decide), if_pos (show nI 119 = 119 from rfl)]
          show (f_X7_behind (mp M (nI o1) (-1) (upd (upd cm (6 * c) (nI 119)) (nI (6 * c + 1)).toNatClampNeg (nI v1)) Q) 61).bind _ = _
          rw [nI_clamp (n := 6 * c + 1) (by omega), show (61 : Int32) = nI 61 from rfl, b05, Option.bind_some, show (2 : Int32) = nI 2 from rfl, nI_ak, if_neg (nI_in (show 6 * c + 2 < 366 by omega) (by decide))]
          show (f_X7_behind (mp M (nI o2) (-1) (upd (upd (upd cm (6 * c) (nI 119)) (6 * c + 1) (nI v1)) (nI (6 * c + 2)).toNatClampNeg (nI v2)) Q) 45).bind _ = _
          rw [nI_clamp (n := 6 * c + 2) (by omega), show (45 : Int32) = nI 45 from rfl, b15, Option.bind_some, show (3 : Int32) = nI 3 from rfl, nI_ak, if_neg (nI_in (show 6 * c + 3 < 366 by omega) (by decide))]
          show (f_X7_behind (mp M (nI o3) (-1) (upd (upd (upd (upd cm (6 * c) (nI 119)) (6 * c + 1) (nI v1)) (6 * c + 2) (nI v2)) (nI (6 * c + 3)).toNatClampNeg (nI v3)) Q) 94).bind _ = _
          rw [nI_clamp (n := 6 * c + 3) (by omega), show (94 : Int32) = nI 94 from rfl, b25, Option.bind_some, show (4 : Int32) = nI 4 from rfl, nI_ak, if_neg (nI_in (show 6 * c + 4 < 366 by omega) (by decide))]
          show (f_X7_behind (mp M (nI y) (nI x) (upd (upd (upd (upd (upd cm (6 * c) (nI 119)) (6 * c + 1) (nI v1)) (6 * c + 2) (nI v2)) (6 * c + 3) (nI v3)) (nI (6 * c + 4)).toNatClampNeg 0) Q) 47).bind _ = _
          rw [nI_clamp (n := 6 * c + 4) (by omega), beh_err (nI_pos (by omega)), Option.bind_some, show (5 : Int32) = nI 5 from rfl, nI_ak, if_neg (nI_in (show 6 * c + 5 < 366 by omega) (by decide))]
          show some (mp M (nI y) (nI x) (upd (upd (upd (upd (upd (upd cm (6 * c) (nI 119)) (6 * c + 1) (nI v1)) (6 * c + 2) (nI v2)) (6 * c + 3) (nI v3)) (6 * c + 4) 0) (nI (6 * c + 5)).toNatClampNeg 0) Q) = _
          rw [nI_clamp (n := 6 * c + 5) (by omega)]
      · refine Or.inl ⟨ns3, x, y, (upd (upd (upd (upd (upd (upd cm (6 * c) (nI 119)) (6 * c + 1) (nI v1)) (6 * c + 2) (nI v2)) (6 * c + 3) 0) (6 * c + 4) 0) (6 * c + 5) 0), by omega, (a4).trans ((b04).trans (b14)), ?_⟩
        rw [f_X7_command_c97, if_neg (nI_in (show 6 * c < 366 by omega) (by decide)), if_pos (show nI 119 = 119 from rfl)]
        show (f_X7_number (mp M (nI o + 1) (-1) (upd cm (nI (6 * c)).toNatClampNeg (nI 119)) Q) 1).bind _ = _
        rw [nI_1 o, nI_clamp (n := 6 * c) (by omega), a5, Option.bind_some, nI_1 (6 * c), if_neg (nI_in (show 6 * c + 1 < 366 by omega) (by decide)), if_neg (show ¬ nI 119 = 105 by decide), if_neg (show ¬ nI 119 = 109 by decide), if_neg (show ¬ nI 119 = 112 by decide), if_neg (show ¬ nI 119 = 114 by decide), if_pos (show nI 119 = 119 from rfl)]
        show (f_X7_behind (mp M (nI o1) (-1) (upd (upd cm (6 * c) (nI 119)) (nI (6 * c + 1)).toNatClampNeg (nI v1)) Q) 61).bind _ = _
        rw [nI_clamp (n := 6 * c + 1) (by omega), show (61 : Int32) = nI 61 from rfl, b05, Option.bind_some, show (2 : Int32) = nI 2 from rfl, nI_ak, if_neg (nI_in (show 6 * c + 2 < 366 by omega) (by decide))]
        show (f_X7_behind (mp M (nI o2) (-1) (upd (upd (upd cm (6 * c) (nI 119)) (6 * c + 1) (nI v1)) (nI (6 * c + 2)).toNatClampNeg (nI v2)) Q) 45).bind _ = _
        rw [nI_clamp (n := 6 * c + 2) (by omega), show (45 : Int32) = nI 45 from rfl, b15, Option.bind_some, show (3 : Int32) = nI 3 from rfl, nI_ak, if_neg (nI_in (show 6 * c + 3 < 366 by omega) (by decide))]
        show (f_X7_behind (mp M (nI y) (nI x) (upd (upd (upd (upd cm (6 * c) (nI 119)) (6 * c + 1) (nI v1)) (6 * c + 2) (nI v2)) (nI (6 * c + 3)).toNatClampNeg 0) Q) 94).bind _ = _
        rw [nI_clamp (n := 6 * c + 3) (by omega), beh_err (nI_pos (by omega)), Option.bind_some, show (4 : Int32) = nI 4 from rfl, nI_ak, if_neg (nI_in (show 6 * c + 4 < 366 by omega) (by decide))]
        show (f_X7_behind (mp M (nI y) (nI x) (upd (upd (upd (upd (upd cm (6 * c) (nI 119)) (6 * c + 1) (nI v1)) (6 * c + 2) (nI v2)) (6 * c + 3) 0) (nI (6 * c + 4)).toNatClampNeg 0) Q) 47).bind _ = _
        rw [nI_clamp (n := 6 * c + 4) (by omega), beh_err (nI_pos (by omega)), Option.bind_some, show (5 : Int32) = nI 5 from rfl, nI_ak, if_neg (nI_in (show 6 * c + 5 < 366 by omega) (by decide))]
        show some (mp M (nI y) (nI x) (upd (upd (upd (upd (upd (upd cm (6 * c) (nI 119)) (6 * c + 1) (nI v1)) (6 * c + 2) (nI v2)) (6 * c + 3) 0) (6 * c + 4) 0) (nI (6 * c + 5)).toNatClampNeg 0) Q) = _
        rw [nI_clamp (n := 6 * c + 5) (by omega)]
    · refine Or.inl ⟨ns2, x, y, (upd (upd (upd (upd (upd (upd cm (6 * c) (nI 119)) (6 * c + 1) (nI v1)) (6 * c + 2) 0) (6 * c + 3) 0) (6 * c + 4) 0) (6 * c + 5) 0), by omega, (a4).trans (b04), ?_⟩
      rw [f_X7_command_c97, if_neg (nI_in (show 6 * c < 366 by omega) (by decide)), if_pos (show nI 119 = 119 from rfl)]
      show (f_X7_number (mp M (nI o + 1) (-1) (upd cm (nI (6 * c)).toNatClampNeg (nI 119)) Q) 1).bind _ = _
      rw [nI_1 o, nI_clamp (n := 6 * c) (by omega), a5, Option.bind_some, nI_1 (6 * c), if_neg (nI_in (show 6 * c + 1 < 366 by omega) (by decide)), if_neg (show ¬ nI 119 = 105 by decide), if_neg (show ¬ nI 119 = 109 by decide), if_neg (show ¬ nI 119 = 112 by decide), if_neg (show ¬ nI 119 = 114 by decide), if_pos (show nI 119 = 119 from rfl)]
      show (f_X7_behind (mp M (nI o1) (-1) (upd (upd cm (6 * c) (nI 119)) (nI (6 * c + 1)).toNatClampNeg (nI v1)) Q) 61).bind _ = _
      rw [nI_clamp (n := 6 * c + 1) (by omega), show (61 : Int32) = nI 61 from rfl, b05, Option.bind_some, show (2 : Int32) = nI 2 from rfl, nI_ak, if_neg (nI_in (show 6 * c + 2 < 366 by omega) (by decide))]
      show (f_X7_behind (mp M (nI y) (nI x) (upd (upd (upd cm (6 * c) (nI 119)) (6 * c + 1) (nI v1)) (nI (6 * c + 2)).toNatClampNeg 0) Q) 45).bind _ = _
      rw [nI_clamp (n := 6 * c + 2) (by omega), beh_err (nI_pos (by omega)), Option.bind_some, show (3 : Int32) = nI 3 from rfl, nI_ak, if_neg (nI_in (show 6 * c + 3 < 366 by omega) (by decide))]
      show (f_X7_behind (mp M (nI y) (nI x) (upd (upd (upd (upd cm (6 * c) (nI 119)) (6 * c + 1) (nI v1)) (6 * c + 2) 0) (nI (6 * c + 3)).toNatClampNeg 0) Q) 94).bind _ = _
      rw [nI_clamp (n := 6 * c + 3) (by omega), beh_err (nI_pos (by omega)), Option.bind_some, show (4 : Int32) = nI 4 from rfl, nI_ak, if_neg (nI_in (show 6 * c + 4 < 366 by omega) (by decide))]
      show (f_X7_behind (mp M (nI y) (nI x) (upd (upd (upd (upd (upd cm (6 * c) (nI 119)) (6 * c + 1) (nI v1)) (6 * c + 2) 0) (6 * c + 3) 0) (nI (6 * c + 4)).toNatClampNeg 0) Q) 47).bind _ = _
      rw [nI_clamp (n := 6 * c + 4) (by omega), beh_err (nI_pos (by omega)), Option.bind_some, show (5 : Int32) = nI 5 from rfl, nI_ak, if_neg (nI_in (show 6 * c + 5 < 366 by omega) (by decide))]
      show some (mp M (nI y) (nI x) (upd (upd (upd (upd (upd (upd cm (6 * c) (nI 119)) (6 * c + 1) (nI v1)) (6 * c + 2) 0) (6 * c + 3) 0) (6 * c + 4) 0) (nI (6 * c + 5)).toNatClampNeg 0) Q) = _
      rw [nI_clamp (n := 6 * c + 5) (by omega)]
  · refine Or.inl ⟨ns1, x, x, (upd (upd (upd (upd (upd (upd cm (6 * c) (nI 119)) (6 * c + 1) 0) (6 * c + 2) 0) (6 * c + 3) 0) (6 * c + 4) 0) (6 * c + 5) 0), by omega, a4, ?_⟩
    replace a5 : f_X7_number (mp M (nI (o + 1)) (-1) (upd cm (6 * c) (nI 119)) Q) 1 = _ := a5
    rw [f_X7_command_c97, if_neg (nI_in (show 6 * c < 366 by omega) (by decide)), if_pos (show nI 119 = 119 from rfl)]
    show (f_X7_number (mp M (nI o + 1) (-1) (upd cm (nI (6 * c)).toNatClampNeg (nI 119)) Q) 1).bind _ = _
    rw [nI_1 o, nI_clamp (n := 6 * c) (by omega), a5, Option.bind_some, nI_1 (6 * c), if_neg (nI_in (show 6 * c + 1 < 366 by omega) (by decide)), if_neg (show ¬ nI 119 = 105 by decide), if_neg (show ¬ nI 119 = 109 by decide), if_neg (show ¬ nI 119 = 112 by decide), if_neg (show ¬ nI 119 = 114 by decide), if_pos (show nI 119 = 119 from rfl)]
    show (f_X7_behind (mp M (nI x) (nI x) (upd (upd cm (6 * c) (nI 119)) (nI (6 * c + 1)).toNatClampNeg 0) Q) 61).bind _ = _
    rw [nI_clamp (n := 6 * c + 1) (by omega), beh_err (nI_pos (by omega)), Option.bind_some, show (2 : Int32) = nI 2 from rfl, nI_ak, if_neg (nI_in (show 6 * c + 2 < 366 by omega) (by decide))]
    show (f_X7_behind (mp M (nI x) (nI x) (upd (upd (upd cm (6 * c) (nI 119)) (6 * c + 1) 0) (nI (6 * c + 2)).toNatClampNeg 0) Q) 45).bind _ = _
    rw [nI_clamp (n := 6 * c + 2) (by omega), beh_err (nI_pos (by omega)), Option.bind_some, show (3 : Int32) = nI 3 from rfl, nI_ak, if_neg (nI_in (show 6 * c + 3 < 366 by omega) (by decide))]
    show (f_X7_behind (mp M (nI x) (nI x) (upd (upd (upd (upd cm (6 * c) (nI 119)) (6 * c + 1) 0) (6 * c + 2) 0) (nI (6 * c + 3)).toNatClampNeg 0) Q) 94).bind _ = _
    rw [nI_clamp (n := 6 * c + 3) (by omega), beh_err (nI_pos (by omega)), Option.bind_some, show (4 : Int32) = nI 4 from rfl, nI_ak, if_neg (nI_in (show 6 * c + 4 < 366 by omega) (by decide))]
    show (f_X7_behind (mp M (nI x) (nI x) (upd (upd (upd (upd (upd cm (6 * c) (nI 119)) (6 * c + 1) 0) (6 * c + 2) 0) (6 * c + 3) 0) (nI (6 * c + 4)).toNatClampNeg 0) Q) 47).bind _ = _
    rw [nI_clamp (n := 6 * c + 4) (by omega), beh_err (nI_pos (by omega)), Option.bind_some, show (5 : Int32) = nI 5 from rfl, nI_ak, if_neg (nI_in (show 6 * c + 5 < 366 by omega) (by decide))]
    show some (mp M (nI x) (nI x) (upd (upd (upd (upd (upd (upd cm (6 * c) (nI 119)) (6 * c + 1) 0) (6 * c + 2) 0) (6 * c + 3) 0) (6 * c + 4) 0) (nI (6 * c + 5)).toNatClampNeg 0) Q) = _
    rw [nI_clamp (n := 6 * c + 5) (by omega)]
