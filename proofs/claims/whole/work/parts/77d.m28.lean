/-! ===== mathematics, 28d: the parser ===== -/
set_option maxHeartbeats 100000 in
theorem parse_ok {C : CmdS} {M : ModS} {L : Nat} (h : IRn C M L) : parsed C M L (f_X0_parse C) (f_X7_parse M) := by
  have := parse_loop h 200 200 0 0 C.2.2.2.1 C.2.2.2.2.1 M.2.2.2.2.2.2.2.2.2.2.2.2.2.2.2.1 (by omega) (by omega) (by omega) (fun k hk => by omega) (by omega) (by omega)
  unfold f_X0_parse f_X7_parse
  exact this
