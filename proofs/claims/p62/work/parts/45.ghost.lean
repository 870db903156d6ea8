/-! ===== pure functions of the reference, and of calls of the class that this law does not make: no method stands behind them here ===== -/
abbrev ModS : Type := (Int32) × (Nat → Int32) × (Int32) × (Int32) × (Int32) × (Int32) × (Int32) × (Int32) × (Nat → Int32) × (Int32) × (Nat → Int32) × (Int32) × (Int32) × (Int32) × (Int32) × (Nat → Int32) × (Int32)
abbrev pq_le : List Nat := [3, 1, 3, 3, 9, 1, 0]
abbrev pq_by : List (List Int32) := [[35, 58, 35], [35], [35, 62, 35], [35, 45, 35], [64, 61, 35, 45, 35, 94, 35, 47, 35], [64], []]
def f_X0_isFull (T : CmdS) : Option (Int32) :=
    if T.2.1 < 60 then
      some 0
    else
      some 1
def f_X0_append (T : CmdS) (p1 : Int32) : Option (Int32 × (CmdS)) :=
    some ((T.2.1 + 1), ((pq_wr 60 T.1 T.2.1 p1), (T.2.1 + 1), T.2.2.1, T.2.2.2.1, T.2.2.2.2.1, T.2.2.2.2.2))
def f_X0_clearInput (T : CmdS) : Option (CmdS) :=
    some (T.1, 0, T.2.2.1, T.2.2.2.1, T.2.2.2.2.1, T.2.2.2.2.2)
def f_X0_kindAt (T : CmdS) (p1 : Int32) : Option (Int32) :=
    some (pq_rd 20 T.2.2.2.1 p1)
def f_X0_numberAt (T : CmdS) (p1 : Int32) (p2 : Int32) : Option (Int32) :=
    some (pq_rd 100 T.2.2.2.2.1 ((p1 * 5) + p2))
def f_X0_current (T : CmdS) : Option (Int32) :=
    if T.2.1 ≤ T.2.2.1 then
      some 0
    else
      some (pq_rd 60 T.1 T.2.2.1)
def f_X0_take (T : CmdS) (p1 : Int32) : Option (Int32 × (CmdS)) :=
    (f_X0_current T).bind fun q2 =>
    if q2 = p1 then
      some (1, (T.1, T.2.1, (T.2.2.1 + 1), T.2.2.2.1, T.2.2.2.2.1, T.2.2.2.2.2))
    else
      some (0, T)
def f_X0_readNumber_c58 (T : CmdS) (v1 : Int32) (v3 : Int32) (v4 : Int32) : Option (Int32 × (CmdS)) :=
    if v4 ≤ 0 then
      some (0, (T.1, T.2.1, T.2.2.1, T.2.2.2.1, (pq_wr 100 T.2.2.2.2.1 v1 v3), T.2.2.2.2.2))
    else
      some (1, (T.1, T.2.1, T.2.2.1, T.2.2.2.1, (pq_wr 100 T.2.2.2.2.1 v1 v3), T.2.2.2.2.2))
def f_X0_readNumber_c5 : Nat → CmdS → Int32 → Int32 → Int32 → Int32 → Option (Int32 × (CmdS))
  | 0, _, _, _, _, _ => none
  | n + 1, T, v1, v2, v3, v4 =>
    if v2 ≤ v4 then
      f_X0_readNumber_c58 T v1 v3 v4
    else
      (f_X0_current T).bind fun q4 =>
      if q4 < 48 then
        f_X0_readNumber_c58 T v1 v3 v4
      else
        (f_X0_current T).bind fun q7 =>
        if 57 < q7 then
          f_X0_readNumber_c58 T v1 v3 v4
        else
          (f_X0_current T).bind fun q10 =>
          f_X0_readNumber_c5 n (T.1, T.2.1, (T.2.2.1 + 1), T.2.2.2.1, T.2.2.2.2.1, T.2.2.2.2.2) v1 v2 (((10 * v3) + q10) - 48) (v4 + 1)
def f_X0_readNumber (T : CmdS) (p1 : Int32) (p2 : Int32) : Option (Int32 × (CmdS)) :=
    f_X0_readNumber_c5 200 T p1 p2 0 0
def f_X2_popInto (T : HistS) (O : DataS) : Option (HistS × DataS) :=
  if T.2.2 ≤ 0 then some (T, O)
  else if (if T.2.1 ≤ 0 then 7 else T.2.1 - 1) < 0 ∨ 8 ≤ (if T.2.1 ≤ 0 then 7 else T.2.1 - 1) then none
  else (f_X1_copyFrom O (T.1 (if T.2.1 ≤ 0 then 7 else T.2.1 - 1).toNatClampNeg)).bind fun D =>
    some ((T.1, (if T.2.1 ≤ 0 then 7 else T.2.1 - 1), T.2.2 - 1), D)
def f_X2_clear (T : HistS) : Option (HistS) :=
    some (T.1, T.2.1, 0)
def f_X7_thrown (T : ModS) : Option (Int32) :=
    some T.1
def f_X7_in (p1 : Int32) (p2 : Int32) (p3 : Int32) : Option (Int32) :=
    if p1 < p2 then
      some 0
    else
      if p3 < p1 then
        some 0
      else
        some 1
def f_X7_isNumber (p1 : Int32) : Option (Int32) :=
    (f_X7_in p1 0 99).bind fun q2 =>
    if q2 = 0 ∨ q2 = 1 then
      some q2
    else none
def f_X7_copies_c2 : Nat → ModS → Int32 → Int32 → Int32 → Option (ModS)
  | 0, _, _, _, _ => none
  | n + 1, T, v1, v2, v3 =>
    if 70 ≤ v3 then
      some T
    else
      if (((70 * v1) + v3) < 0 ∨ 770 ≤ ((70 * v1) + v3).toNatClampNeg) then none
      else
        if (((70 * v2) + v3) < 0 ∨ 770 ≤ ((70 * v2) + v3).toNatClampNeg) then none
        else
          f_X7_copies_c2 n (T.1, (upd T.2.1 ((70 * v2) + v3).toNatClampNeg (T.2.1 ((70 * v1) + v3).toNatClampNeg)), T.2.2.1, T.2.2.2.1, T.2.2.2.2.1, T.2.2.2.2.2.1, T.2.2.2.2.2.2.1, T.2.2.2.2.2.2.2.1, T.2.2.2.2.2.2.2.2.1, T.2.2.2.2.2.2.2.2.2.1, T.2.2.2.2.2.2.2.2.2.2.1, T.2.2.2.2.2.2.2.2.2.2.2.1, T.2.2.2.2.2.2.2.2.2.2.2.2.1, T.2.2.2.2.2.2.2.2.2.2.2.2.2.1, T.2.2.2.2.2.2.2.2.2.2.2.2.2.2.1, T.2.2.2.2.2.2.2.2.2.2.2.2.2.2.2.1, T.2.2.2.2.2.2.2.2.2.2.2.2.2.2.2.2) v1 v2 (v3 + 1)
def f_X7_copies (T : ModS) (p1 : Int32) (p2 : Int32) : Option (ModS) :=
    f_X7_copies_c2 200 T p1 p2 0
def f_X7_begins (T : ModS) : Option (ModS) :=
    (f_X7_copies T 0 10).bind fun q2 =>
    some q2
def f_X7_ends_c104 (T : ModS) : Option (Int32 × (ModS)) :=
    (f_X7_copies (T.1, T.2.1, (T.2.2.1 + 1), T.2.2.2.1, T.2.2.2.2.1, T.2.2.2.2.2.1, T.2.2.2.2.2.2.1, T.2.2.2.2.2.2.2.1, T.2.2.2.2.2.2.2.2.1, T.2.2.2.2.2.2.2.2.2.1, T.2.2.2.2.2.2.2.2.2.2.1, T.2.2.2.2.2.2.2.2.2.2.2.1, T.2.2.2.2.2.2.2.2.2.2.2.2.1, T.2.2.2.2.2.2.2.2.2.2.2.2.2.1, T.2.2.2.2.2.2.2.2.2.2.2.2.2.2.1, T.2.2.2.2.2.2.2.2.2.2.2.2.2.2.2.1, T.2.2.2.2.2.2.2.2.2.2.2.2.2.2.2.2) 10 (T.2.2.1 + 1)).bind fun q2 =>
    some (q2.2.2.2.2.1, q2)
def f_X7_ends_c71 : Nat → ModS → Int32 → Option (Int32 × (ModS))
  | 0, _, _ => none
  | n + 1, T, v6 =>
    if 8 ≤ v6 then
      f_X7_ends_c104 (T.1, T.2.1, (T.2.2.1 - 1), T.2.2.2.1, T.2.2.2.2.1, T.2.2.2.2.2.1, T.2.2.2.2.2.2.1, T.2.2.2.2.2.2.2.1, T.2.2.2.2.2.2.2.2.1, T.2.2.2.2.2.2.2.2.2.1, T.2.2.2.2.2.2.2.2.2.2.1, T.2.2.2.2.2.2.2.2.2.2.2.1, T.2.2.2.2.2.2.2.2.2.2.2.2.1, T.2.2.2.2.2.2.2.2.2.2.2.2.2.1, T.2.2.2.2.2.2.2.2.2.2.2.2.2.2.1, T.2.2.2.2.2.2.2.2.2.2.2.2.2.2.2.1, T.2.2.2.2.2.2.2.2.2.2.2.2.2.2.2.2)
    else
      (f_X7_copies T (v6 + 1) v6).bind fun q5 =>
      f_X7_ends_c71 n q5 (v6 + 1)
def f_X7_ends (T : ModS) (p1 : Int32) (p2 : Int32) (p3 : Int32) (p4 : Int32) (p5 : Int32) : Option (Int32 × (ModS)) :=
    if p1 = 1 then
      if p2 = 0 then
        if T.2.2.1 = 8 then
          f_X7_ends_c71 200 (p2, T.2.1, T.2.2.1, T.2.2.2.1, T.2.2.2.2.1, T.2.2.2.2.2.1, T.2.2.2.2.2.2.1, T.2.2.2.2.2.2.2.1, T.2.2.2.2.2.2.2.2.1, T.2.2.2.2.2.2.2.2.2.1, T.2.2.2.2.2.2.2.2.2.2.1, T.2.2.2.2.2.2.2.2.2.2.2.1, T.2.2.2.2.2.2.2.2.2.2.2.2.1, T.2.2.2.2.2.2.2.2.2.2.2.2.2.1, T.2.2.2.2.2.2.2.2.2.2.2.2.2.2.1, T.2.2.2.2.2.2.2.2.2.2.2.2.2.2.2.1, T.2.2.2.2.2.2.2.2.2.2.2.2.2.2.2.2) 1
        else
          f_X7_ends_c104 (p2, T.2.1, T.2.2.1, T.2.2.2.1, T.2.2.2.2.1, T.2.2.2.2.2.1, T.2.2.2.2.2.2.1, T.2.2.2.2.2.2.2.1, T.2.2.2.2.2.2.2.2.1, T.2.2.2.2.2.2.2.2.2.1, T.2.2.2.2.2.2.2.2.2.2.1, T.2.2.2.2.2.2.2.2.2.2.2.1, T.2.2.2.2.2.2.2.2.2.2.2.2.1, T.2.2.2.2.2.2.2.2.2.2.2.2.2.1, T.2.2.2.2.2.2.2.2.2.2.2.2.2.2.1, T.2.2.2.2.2.2.2.2.2.2.2.2.2.2.2.1, T.2.2.2.2.2.2.2.2.2.2.2.2.2.2.2.2)
      else
        (f_X7_copies (p2, T.2.1, T.2.2.1, T.2.2.2.1, T.2.2.2.2.1, T.2.2.2.2.2.1, T.2.2.2.2.2.2.1, T.2.2.2.2.2.2.2.1, T.2.2.2.2.2.2.2.2.1, T.2.2.2.2.2.2.2.2.2.1, T.2.2.2.2.2.2.2.2.2.2.1, T.2.2.2.2.2.2.2.2.2.2.2.1, T.2.2.2.2.2.2.2.2.2.2.2.2.1, T.2.2.2.2.2.2.2.2.2.2.2.2.2.1, T.2.2.2.2.2.2.2.2.2.2.2.2.2.2.1, T.2.2.2.2.2.2.2.2.2.2.2.2.2.2.2.1, T.2.2.2.2.2.2.2.2.2.2.2.2.2.2.2.2) 10 0).bind fun q26 =>
        some (0, q26)
    else
      if p1 = 2 then
        if p3 = 0 then
          if T.2.2.1 = 8 then
            f_X7_ends_c71 200 (p3, T.2.1, T.2.2.1, T.2.2.2.1, T.2.2.2.2.1, T.2.2.2.2.2.1, T.2.2.2.2.2.2.1, T.2.2.2.2.2.2.2.1, T.2.2.2.2.2.2.2.2.1, T.2.2.2.2.2.2.2.2.2.1, T.2.2.2.2.2.2.2.2.2.2.1, T.2.2.2.2.2.2.2.2.2.2.2.1, T.2.2.2.2.2.2.2.2.2.2.2.2.1, T.2.2.2.2.2.2.2.2.2.2.2.2.2.1, T.2.2.2.2.2.2.2.2.2.2.2.2.2.2.1, T.2.2.2.2.2.2.2.2.2.2.2.2.2.2.2.1, T.2.2.2.2.2.2.2.2.2.2.2.2.2.2.2.2) 1
          else
            f_X7_ends_c104 (p3, T.2.1, T.2.2.1, T.2.2.2.1, T.2.2.2.2.1, T.2.2.2.2.2.1, T.2.2.2.2.2.2.1, T.2.2.2.2.2.2.2.1, T.2.2.2.2.2.2.2.2.1, T.2.2.2.2.2.2.2.2.2.1, T.2.2.2.2.2.2.2.2.2.2.1, T.2.2.2.2.2.2.2.2.2.2.2.1, T.2.2.2.2.2.2.2.2.2.2.2.2.1, T.2.2.2.2.2.2.2.2.2.2.2.2.2.1, T.2.2.2.2.2.2.2.2.2.2.2.2.2.2.1, T.2.2.2.2.2.2.2.2.2.2.2.2.2.2.2.1, T.2.2.2.2.2.2.2.2.2.2.2.2.2.2.2.2)
        else
          (f_X7_copies (p3, T.2.1, T.2.2.1, T.2.2.2.1, T.2.2.2.2.1, T.2.2.2.2.2.1, T.2.2.2.2.2.2.1, T.2.2.2.2.2.2.2.1, T.2.2.2.2.2.2.2.2.1, T.2.2.2.2.2.2.2.2.2.1, T.2.2.2.2.2.2.2.2.2.2.1, T.2.2.2.2.2.2.2.2.2.2.2.1, T.2.2.2.2.2.2.2.2.2.2.2.2.1, T.2.2.2.2.2.2.2.2.2.2.2.2.2.1, T.2.2.2.2.2.2.2.2.2.2.2.2.2.2.1, T.2.2.2.2.2.2.2.2.2.2.2.2.2.2.2.1, T.2.2.2.2.2.2.2.2.2.2.2.2.2.2.2.2) 10 0).bind fun q22 =>
          some (0, q22)
      else
        if p1 = 3 then
          if p4 = 0 then
            if T.2.2.1 = 8 then
              f_X7_ends_c71 200 (p4, T.2.1, T.2.2.1, T.2.2.2.1, T.2.2.2.2.1, T.2.2.2.2.2.1, T.2.2.2.2.2.2.1, T.2.2.2.2.2.2.2.1, T.2.2.2.2.2.2.2.2.1, T.2.2.2.2.2.2.2.2.2.1, T.2.2.2.2.2.2.2.2.2.2.1, T.2.2.2.2.2.2.2.2.2.2.2.1, T.2.2.2.2.2.2.2.2.2.2.2.2.1, T.2.2.2.2.2.2.2.2.2.2.2.2.2.1, T.2.2.2.2.2.2.2.2.2.2.2.2.2.2.1, T.2.2.2.2.2.2.2.2.2.2.2.2.2.2.2.1, T.2.2.2.2.2.2.2.2.2.2.2.2.2.2.2.2) 1
            else
              f_X7_ends_c104 (p4, T.2.1, T.2.2.1, T.2.2.2.1, T.2.2.2.2.1, T.2.2.2.2.2.1, T.2.2.2.2.2.2.1, T.2.2.2.2.2.2.2.1, T.2.2.2.2.2.2.2.2.1, T.2.2.2.2.2.2.2.2.2.1, T.2.2.2.2.2.2.2.2.2.2.1, T.2.2.2.2.2.2.2.2.2.2.2.1, T.2.2.2.2.2.2.2.2.2.2.2.2.1, T.2.2.2.2.2.2.2.2.2.2.2.2.2.1, T.2.2.2.2.2.2.2.2.2.2.2.2.2.2.1, T.2.2.2.2.2.2.2.2.2.2.2.2.2.2.2.1, T.2.2.2.2.2.2.2.2.2.2.2.2.2.2.2.2)
          else
            (f_X7_copies (p4, T.2.1, T.2.2.1, T.2.2.2.1, T.2.2.2.2.1, T.2.2.2.2.2.1, T.2.2.2.2.2.2.1, T.2.2.2.2.2.2.2.1, T.2.2.2.2.2.2.2.2.1, T.2.2.2.2.2.2.2.2.2.1, T.2.2.2.2.2.2.2.2.2.2.1, T.2.2.2.2.2.2.2.2.2.2.2.1, T.2.2.2.2.2.2.2.2.2.2.2.2.1, T.2.2.2.2.2.2.2.2.2.2.2.2.2.1, T.2.2.2.2.2.2.2.2.2.2.2.2.2.2.1, T.2.2.2.2.2.2.2.2.2.2.2.2.2.2.2.1, T.2.2.2.2.2.2.2.2.2.2.2.2.2.2.2.2) 10 0).bind fun q18 =>
            some (0, q18)
        else
          if p1 = 4 then
            if p5 = 0 then
              if T.2.2.1 = 8 then
                f_X7_ends_c71 200 (p5, T.2.1, T.2.2.1, T.2.2.2.1, T.2.2.2.2.1, T.2.2.2.2.2.1, T.2.2.2.2.2.2.1, T.2.2.2.2.2.2.2.1, T.2.2.2.2.2.2.2.2.1, T.2.2.2.2.2.2.2.2.2.1, T.2.2.2.2.2.2.2.2.2.2.1, T.2.2.2.2.2.2.2.2.2.2.2.1, T.2.2.2.2.2.2.2.2.2.2.2.2.1, T.2.2.2.2.2.2.2.2.2.2.2.2.2.1, T.2.2.2.2.2.2.2.2.2.2.2.2.2.2.1, T.2.2.2.2.2.2.2.2.2.2.2.2.2.2.2.1, T.2.2.2.2.2.2.2.2.2.2.2.2.2.2.2.2) 1
              else
                f_X7_ends_c104 (p5, T.2.1, T.2.2.1, T.2.2.2.1, T.2.2.2.2.1, T.2.2.2.2.2.1, T.2.2.2.2.2.2.1, T.2.2.2.2.2.2.2.1, T.2.2.2.2.2.2.2.2.1, T.2.2.2.2.2.2.2.2.2.1, T.2.2.2.2.2.2.2.2.2.2.1, T.2.2.2.2.2.2.2.2.2.2.2.1, T.2.2.2.2.2.2.2.2.2.2.2.2.1, T.2.2.2.2.2.2.2.2.2.2.2.2.2.1, T.2.2.2.2.2.2.2.2.2.2.2.2.2.2.1, T.2.2.2.2.2.2.2.2.2.2.2.2.2.2.2.1, T.2.2.2.2.2.2.2.2.2.2.2.2.2.2.2.2)
            else
              (f_X7_copies (p5, T.2.1, T.2.2.1, T.2.2.2.1, T.2.2.2.2.1, T.2.2.2.2.2.1, T.2.2.2.2.2.2.1, T.2.2.2.2.2.2.2.1, T.2.2.2.2.2.2.2.2.1, T.2.2.2.2.2.2.2.2.2.1, T.2.2.2.2.2.2.2.2.2.2.1, T.2.2.2.2.2.2.2.2.2.2.2.1, T.2.2.2.2.2.2.2.2.2.2.2.2.1, T.2.2.2.2.2.2.2.2.2.2.2.2.2.1, T.2.2.2.2.2.2.2.2.2.2.2.2.2.2.1, T.2.2.2.2.2.2.2.2.2.2.2.2.2.2.2.1, T.2.2.2.2.2.2.2.2.2.2.2.2.2.2.2.2) 10 0).bind fun q14 =>
              some (0, q14)
          else
            if T.2.2.1 = 8 then
              f_X7_ends_c71 200 (0, T.2.1, T.2.2.1, T.2.2.2.1, T.2.2.2.2.1, T.2.2.2.2.2.1, T.2.2.2.2.2.2.1, T.2.2.2.2.2.2.2.1, T.2.2.2.2.2.2.2.2.1, T.2.2.2.2.2.2.2.2.2.1, T.2.2.2.2.2.2.2.2.2.2.1, T.2.2.2.2.2.2.2.2.2.2.2.1, T.2.2.2.2.2.2.2.2.2.2.2.2.1, T.2.2.2.2.2.2.2.2.2.2.2.2.2.1, T.2.2.2.2.2.2.2.2.2.2.2.2.2.2.1, T.2.2.2.2.2.2.2.2.2.2.2.2.2.2.2.1, T.2.2.2.2.2.2.2.2.2.2.2.2.2.2.2.2) 1
            else
              f_X7_ends_c104 (0, T.2.1, T.2.2.1, T.2.2.2.1, T.2.2.2.2.1, T.2.2.2.2.2.1, T.2.2.2.2.2.2.1, T.2.2.2.2.2.2.2.1, T.2.2.2.2.2.2.2.2.1, T.2.2.2.2.2.2.2.2.2.1, T.2.2.2.2.2.2.2.2.2.2.1, T.2.2.2.2.2.2.2.2.2.2.2.1, T.2.2.2.2.2.2.2.2.2.2.2.2.1, T.2.2.2.2.2.2.2.2.2.2.2.2.2.1, T.2.2.2.2.2.2.2.2.2.2.2.2.2.2.1, T.2.2.2.2.2.2.2.2.2.2.2.2.2.2.2.1, T.2.2.2.2.2.2.2.2.2.2.2.2.2.2.2.2)
def f_X7_isFine (T : ModS) (p1 : Int32) : Option (Int32 × (ModS)) :=
    if p1 = 0 then
      if p1 = 0 ∨ p1 = 1 then
        some (p1, (1, T.2.1, T.2.2.1, T.2.2.2.1, T.2.2.2.2.1, T.2.2.2.2.2.1, T.2.2.2.2.2.2.1, T.2.2.2.2.2.2.2.1, T.2.2.2.2.2.2.2.2.1, T.2.2.2.2.2.2.2.2.2.1, T.2.2.2.2.2.2.2.2.2.2.1, T.2.2.2.2.2.2.2.2.2.2.2.1, T.2.2.2.2.2.2.2.2.2.2.2.2.1, T.2.2.2.2.2.2.2.2.2.2.2.2.2.1, T.2.2.2.2.2.2.2.2.2.2.2.2.2.2.1, T.2.2.2.2.2.2.2.2.2.2.2.2.2.2.2.1, T.2.2.2.2.2.2.2.2.2.2.2.2.2.2.2.2))
      else none
    else
      if p1 = 0 ∨ p1 = 1 then
        some (p1, (0, T.2.1, T.2.2.1, T.2.2.2.1, T.2.2.2.2.1, T.2.2.2.2.2.1, T.2.2.2.2.2.2.1, T.2.2.2.2.2.2.2.1, T.2.2.2.2.2.2.2.2.1, T.2.2.2.2.2.2.2.2.2.1, T.2.2.2.2.2.2.2.2.2.2.1, T.2.2.2.2.2.2.2.2.2.2.2.1, T.2.2.2.2.2.2.2.2.2.2.2.2.1, T.2.2.2.2.2.2.2.2.2.2.2.2.2.1, T.2.2.2.2.2.2.2.2.2.2.2.2.2.2.1, T.2.2.2.2.2.2.2.2.2.2.2.2.2.2.2.1, T.2.2.2.2.2.2.2.2.2.2.2.2.2.2.2.2))
      else none
def f_X7_rejects (T : ModS) (p1 : Int32) (p2 : Int32) (p3 : Int32) : Option (Int32 × (ModS)) :=
    if p1 = 0 then
      if p1 = 0 ∨ p1 = 1 then
        some (p1, T)
      else none
    else
      if p1 = 0 ∨ p1 = 1 then
        some (p1, (T.1, T.2.1, T.2.2.1, T.2.2.2.1, T.2.2.2.2.1, p2, p3, 0, T.2.2.2.2.2.2.2.2.1, T.2.2.2.2.2.2.2.2.2.1, T.2.2.2.2.2.2.2.2.2.2.1, T.2.2.2.2.2.2.2.2.2.2.2.1, T.2.2.2.2.2.2.2.2.2.2.2.2.1, T.2.2.2.2.2.2.2.2.2.2.2.2.2.1, T.2.2.2.2.2.2.2.2.2.2.2.2.2.2.1, T.2.2.2.2.2.2.2.2.2.2.2.2.2.2.2.1, T.2.2.2.2.2.2.2.2.2.2.2.2.2.2.2.2))
      else none
def f_X7_rejectionReason (T : ModS) : Option (Int32 × (ModS)) :=
    if T.2.2.2.2.2.1 = 0 then
      (f_X7_isFine T 0).bind fun q3 =>
      if q3.1 = 0 then
        some (0, q3.2)
      else
        some (q3.2.2.2.2.2.2.1, q3.2)
    else
      (f_X7_isFine T 1).bind fun q6 =>
      if q6.1 = 0 then
        some (0, q6.2)
      else
        some (q6.2.2.2.2.2.2.1, q6.2)
def f_X7_rejectionDetail (T : ModS) : Option (Int32 × (ModS)) :=
    if T.2.2.2.2.2.1 = 0 then
      (f_X7_isFine T 0).bind fun q3 =>
      if q3.1 = 0 then
        some (0, q3.2)
      else
        some (q3.2.2.2.2.2.2.2.1, q3.2)
    else
      (f_X7_isFine T 1).bind fun q6 =>
      if q6.1 = 0 then
        some (0, q6.2)
      else
        some (q6.2.2.2.2.2.2.2.1, q6.2)
def f_X7_causeReason (T : ModS) : Option (Int32 × (ModS)) :=
    if T.2.2.2.2.2.2.2.1 = 0 then
      (f_X7_isFine T 0).bind fun q3 =>
      if q3.1 = 0 then
        some (0, q3.2)
      else
        some (q3.2.2.2.2.2.2.2.2.1, q3.2)
    else
      (f_X7_isFine T 1).bind fun q6 =>
      if q6.1 = 0 then
        some (0, q6.2)
      else
        some (q6.2.2.2.2.2.2.2.2.1, q6.2)
def f_X7_key (T : ModS) (p1 : Int32) : Option (Int32) :=
    if ((2 + (2 * p1)) < 0 ∨ 770 ≤ (2 + (2 * p1)).toNatClampNeg) then none
    else
      some (T.2.1 (2 + (2 * p1)).toNatClampNeg)
def f_X7_priority (T : ModS) (p1 : Int32) : Option (Int32) :=
    if (((2 + (2 * p1)) + 1) < 0 ∨ 770 ≤ ((2 + (2 * p1)) + 1).toNatClampNeg) then none
    else
      some (T.2.1 ((2 + (2 * p1)) + 1).toNatClampNeg)
def f_X7_below_c4 : Nat → ModS → Int32 → Int32 → Int32 → Option (Int32)
  | 0, _, _, _, _ => none
  | n + 1, T, v1, v2, v3 =>
    if (T.2.1 (0 : Int32).toNatClampNeg) ≤ v3 then
      some v2
    else
      (f_X7_key T v3).bind fun q3 =>
      if v1 ≤ q3 then
        f_X7_below_c4 n T v1 (v2 + 0) (v3 + 1)
      else
        f_X7_below_c4 n T v1 (v2 + 1) (v3 + 1)
def f_X7_below (T : ModS) (p1 : Int32) : Option (Int32) :=
    f_X7_below_c4 200 T p1 0 0
def f_X7_find (T : ModS) (p1 : Int32) : Option (Int32) :=
    (f_X7_below T p1).bind fun q2 =>
    if (T.2.1 (0 : Int32).toNatClampNeg) ≤ q2 then
      some (-1)
    else
      (f_X7_key T q2).bind fun q5 =>
      if q5 = p1 then
        some q2
      else
        some (-1)
def f_X7_isAbove (T : ModS) (p1 : Int32) (p2 : Int32) : Option (Int32) :=
    (f_X7_priority T p1).bind fun q2 =>
    (f_X7_priority T p2).bind fun q4 =>
    if q4 < q2 then
      some 1
    else
      (f_X7_priority T p1).bind fun q7 =>
      (f_X7_priority T p2).bind fun q9 =>
      if q7 = q9 then
        if p2 ≤ p1 then
          some 0
        else
          some 1
      else
        some 0
def f_X7_top_c16 : Nat → ModS → Int32 → Int32 → Int32 → Option (Int32)
  | 0, _, _, _, _ => none
  | n + 1, T, v2, v3, v4 =>
    if v2 < v4 then
      some v3
    else
      (f_X7_isAbove T v4 v3).bind fun q3 =>
      if q3 = 0 then
        f_X7_top_c16 n T v2 v3 (v4 + 1)
      else
        f_X7_top_c16 n T v2 v4 (v4 + 1)
def f_X7_top (T : ModS) (p1 : Int32) (p2 : Int32) : Option (Int32) :=
    if p2 < p1 then
      f_X7_top_c16 200 T p2 (-1) (p1 + 1)
    else
      f_X7_top_c16 200 T p2 p1 (p1 + 1)
def f_X7_first_c2 : Nat → ModS → Int32 → Int32 → Option (Int32)
  | 0, _, _, _ => none
  | n + 1, T, v1, v2 =>
    if v2 ≤ 0 then
      some v2
    else
      (f_X7_isAbove T v1 (v2 - 1)).bind fun q3 =>
      if q3 = 0 then
        some v2
      else
        f_X7_first_c2 n T v1 (v2 + (-1))
def f_X7_first (T : ModS) (p1 : Int32) : Option (Int32) :=
    f_X7_first_c2 200 T p1 p1
def f_X7_last_c2 : Nat → ModS → Int32 → Int32 → Option (Int32)
  | 0, _, _, _ => none
  | n + 1, T, v1, v2 =>
    if ((T.2.1 (0 : Int32).toNatClampNeg) - 1) ≤ v2 then
      some v2
    else
      (f_X7_isAbove T v1 (v2 + 1)).bind fun q3 =>
      if q3 = 0 then
        some v2
      else
        f_X7_last_c2 n T v1 (v2 + 1)
def f_X7_last (T : ModS) (p1 : Int32) : Option (Int32) :=
    f_X7_last_c2 200 T p1 p1
def f_X7_depth_c4 : Nat → ModS → Int32 → Int32 → Int32 → Option (Int32)
  | 0, _, _, _, _ => none
  | n + 1, T, v1, v2, v3 =>
    if (T.2.1 (0 : Int32).toNatClampNeg) ≤ v3 then
      some v2
    else
      if v3 = v1 then
        f_X7_depth_c4 n T v1 (v2 + 0) (v3 + 1)
      else
        (f_X7_first T v3).bind fun q4 =>
        if v1 < q4 then
          f_X7_depth_c4 n T v1 (v2 + 0) (v3 + 1)
        else
          (f_X7_last T v3).bind fun q7 =>
          if q7 < v1 then
            f_X7_depth_c4 n T v1 (v2 + 0) (v3 + 1)
          else
            f_X7_depth_c4 n T v1 (v2 + 1) (v3 + 1)
def f_X7_depth (T : ModS) (p1 : Int32) : Option (Int32) :=
    f_X7_depth_c4 200 T p1 0 0
def f_X7_path_c11 : Nat → ModS → Int32 → Int32 → Int32 → Option (Int32)
  | 0, _, _, _, _ => none
  | n + 1, T, v2, v3, v4 =>
    if (T.2.1 (0 : Int32).toNatClampNeg) ≤ v4 then
      some v2
    else
      if v3 ≤ v4 then
        (f_X7_first T v4).bind fun q4 =>
        if v3 < q4 then
          f_X7_path_c11 n T (v2 + 0) v3 (v4 + 1)
        else
          f_X7_path_c11 n T (v2 + 1) v3 (v4 + 1)
      else
        (f_X7_last T v4).bind fun q7 =>
        if q7 < (v3 - 1) then
          f_X7_path_c11 n T (v2 + 0) v3 (v4 + 1)
        else
          f_X7_path_c11 n T (v2 + 1) v3 (v4 + 1)
def f_X7_path (T : ModS) (p1 : Int32) : Option (Int32) :=
    (f_X7_below T p1).bind fun q10 =>
    f_X7_path_c11 200 T 0 q10 0
def f_X7_opens_c18 : Nat → ModS → Int32 → Int32 → Int32 → Int32 → Option (ModS)
  | 0, _, _, _, _, _ => none
  | n + 1, T, v1, v2, v3, v4 =>
    if v4 < (2 * v3) then
      if ((2 + (2 * v3)) < 0 ∨ 770 ≤ (2 + (2 * v3)).toNatClampNeg) then none
      else
        if (((2 + (2 * v3)) + 1) < 0 ∨ 770 ≤ ((2 + (2 * v3)) + 1).toNatClampNeg) then none
        else
          some (T.1, (upd (upd (upd T.2.1 (2 + (2 * v3)).toNatClampNeg v1) ((2 + (2 * v3)) + 1).toNatClampNeg v2) (0 : Int32).toNatClampNeg (((upd (upd T.2.1 (2 + (2 * v3)).toNatClampNeg v1) ((2 + (2 * v3)) + 1).toNatClampNeg v2) (0 : Int32).toNatClampNeg) + 1)), T.2.2.1, T.2.2.2.1, T.2.2.2.2.1, T.2.2.2.2.2.1, T.2.2.2.2.2.2.1, T.2.2.2.2.2.2.2.1, T.2.2.2.2.2.2.2.2.1, T.2.2.2.2.2.2.2.2.2.1, T.2.2.2.2.2.2.2.2.2.2.1, T.2.2.2.2.2.2.2.2.2.2.2.1, T.2.2.2.2.2.2.2.2.2.2.2.2.1, T.2.2.2.2.2.2.2.2.2.2.2.2.2.1, T.2.2.2.2.2.2.2.2.2.2.2.2.2.2.1, T.2.2.2.2.2.2.2.2.2.2.2.2.2.2.2.1, T.2.2.2.2.2.2.2.2.2.2.2.2.2.2.2.2)
    else
      if ((2 + v4) < 0 ∨ 770 ≤ (2 + v4).toNatClampNeg) then none
      else
        if (((2 + v4) + 2) < 0 ∨ 770 ≤ ((2 + v4) + 2).toNatClampNeg) then none
        else
          f_X7_opens_c18 n (T.1, (upd T.2.1 ((2 + v4) + 2).toNatClampNeg (T.2.1 (2 + v4).toNatClampNeg)), T.2.2.1, T.2.2.2.1, T.2.2.2.2.1, T.2.2.2.2.2.1, T.2.2.2.2.2.2.1, T.2.2.2.2.2.2.2.1, T.2.2.2.2.2.2.2.2.1, T.2.2.2.2.2.2.2.2.2.1, T.2.2.2.2.2.2.2.2.2.2.1, T.2.2.2.2.2.2.2.2.2.2.2.1, T.2.2.2.2.2.2.2.2.2.2.2.2.1, T.2.2.2.2.2.2.2.2.2.2.2.2.2.1, T.2.2.2.2.2.2.2.2.2.2.2.2.2.2.1, T.2.2.2.2.2.2.2.2.2.2.2.2.2.2.2.1, T.2.2.2.2.2.2.2.2.2.2.2.2.2.2.2.2) v1 v2 v3 (v4 + (-1))
def f_X7_opens (T : ModS) (p1 : Int32) (p2 : Int32) : Option (ModS) :=
    (f_X7_below T p1).bind fun q7 =>
    f_X7_opens_c18 200 T p1 p2 q7 ((2 * (T.2.1 (0 : Int32).toNatClampNeg)) - 1)
def f_X7_shuts_c13 : Nat → ModS → Int32 → Int32 → Option (ModS)
  | 0, _, _, _ => none
  | n + 1, T, v2, v3 =>
    if (2 * v2) ≤ v3 then
      if ((2 + (2 * v2)) < 0 ∨ 770 ≤ (2 + (2 * v2)).toNatClampNeg) then none
      else
        if (((2 + (2 * v2)) + 1) < 0 ∨ 770 ≤ ((2 + (2 * v2)) + 1).toNatClampNeg) then none
        else
          some (T.1, (upd (upd (upd T.2.1 (2 + (2 * v2)).toNatClampNeg 0) ((2 + (2 * v2)) + 1).toNatClampNeg 0) (0 : Int32).toNatClampNeg v2), T.2.2.1, T.2.2.2.1, T.2.2.2.2.1, T.2.2.2.2.2.1, T.2.2.2.2.2.2.1, T.2.2.2.2.2.2.2.1, T.2.2.2.2.2.2.2.2.1, T.2.2.2.2.2.2.2.2.2.1, T.2.2.2.2.2.2.2.2.2.2.1, T.2.2.2.2.2.2.2.2.2.2.2.1, T.2.2.2.2.2.2.2.2.2.2.2.2.1, T.2.2.2.2.2.2.2.2.2.2.2.2.2.1, T.2.2.2.2.2.2.2.2.2.2.2.2.2.2.1, T.2.2.2.2.2.2.2.2.2.2.2.2.2.2.2.1, T.2.2.2.2.2.2.2.2.2.2.2.2.2.2.2.2)
    else
      if (((2 + v3) + 2) < 0 ∨ 770 ≤ ((2 + v3) + 2).toNatClampNeg) then none
      else
        if ((2 + v3) < 0 ∨ 770 ≤ (2 + v3).toNatClampNeg) then none
        else
          f_X7_shuts_c13 n (T.1, (upd T.2.1 (2 + v3).toNatClampNeg (T.2.1 ((2 + v3) + 2).toNatClampNeg)), T.2.2.1, T.2.2.2.1, T.2.2.2.2.1, T.2.2.2.2.2.1, T.2.2.2.2.2.2.1, T.2.2.2.2.2.2.2.1, T.2.2.2.2.2.2.2.2.1, T.2.2.2.2.2.2.2.2.2.1, T.2.2.2.2.2.2.2.2.2.2.1, T.2.2.2.2.2.2.2.2.2.2.2.1, T.2.2.2.2.2.2.2.2.2.2.2.2.1, T.2.2.2.2.2.2.2.2.2.2.2.2.2.1, T.2.2.2.2.2.2.2.2.2.2.2.2.2.2.1, T.2.2.2.2.2.2.2.2.2.2.2.2.2.2.2.1, T.2.2.2.2.2.2.2.2.2.2.2.2.2.2.2.2) v2 (v3 + 1)
def f_X7_shuts (T : ModS) (p1 : Int32) : Option (ModS) :=
    f_X7_shuts_c13 200 T ((T.2.1 (0 : Int32).toNatClampNeg) - 1) (2 * p1)
def f_X7_putsIn (T : ModS) (p1 : Int32) (p2 : Int32) : Option (Int32 × (ModS)) :=
    (f_X7_path T p1).bind fun q2 =>
    (f_X7_opens T p1 p2).bind fun q4 =>
    (f_X7_below q4 p1).bind fun q6 =>
    (f_X7_depth q4 q6).bind fun q8 =>
    some ((q2 - q8), q4)
def f_X7_takesOut (T : ModS) (p1 : Int32) : Option (Int32 × (ModS)) :=
    (f_X7_depth T p1).bind fun q2 =>
    (f_X7_key T p1).bind fun q4 =>
    (f_X7_shuts T p1).bind fun q6 =>
    (f_X7_path q6 q4).bind fun q8 =>
    some ((q8 - q2), q6)
def f_X7_w (T : ModS) (p1 : Int32) (p2 : Int32) : Option (Int32) :=
    if (((50 + (5 * p1)) + p2) < 0 ∨ 770 ≤ ((50 + (5 * p1)) + p2).toNatClampNeg) then none
    else
      some (T.2.1 ((50 + (5 * p1)) + p2).toNatClampNeg)
def f_X7_isWithin (T : ModS) (p1 : Int32) (p2 : Int32) (p3 : Int32) : Option (Int32) :=
    (f_X7_w T p1 0).bind fun q2 =>
    if q2 = 1 then
      (f_X7_w T p1 1).bind fun q5 =>
      (f_X7_w T p1 2).bind fun q7 =>
      (f_X7_in p2 q5 q7).bind fun q9 =>
      if q9 = 0 then
        some 0
      else
        (f_X7_w T p1 3).bind fun q12 =>
        if p3 < q12 then
          some 0
        else
          some 1
    else
      some 0
def f_X7_inWindow_c4 : Nat → ModS → Int32 → Int32 → Int32 → Option (Int32)
  | 0, _, _, _, _ => none
  | n + 1, T, v1, v2, v3 =>
    if (T.2.1 (0 : Int32).toNatClampNeg) ≤ v3 then
      some v2
    else
      (f_X7_key T v3).bind fun q3 =>
      (f_X7_priority T v3).bind fun q5 =>
      (f_X7_isWithin T v1 q3 q5).bind fun q7 =>
      if q7 = 0 then
        f_X7_inWindow_c4 n T v1 (v2 + 0) (v3 + 1)
      else
        f_X7_inWindow_c4 n T v1 (v2 + 1) (v3 + 1)
def f_X7_inWindow (T : ModS) (p1 : Int32) : Option (Int32) :=
    f_X7_inWindow_c4 200 T p1 0 0
def f_X7_overfull_c2 : Nat → ModS → Int32 → Option (Int32)
  | 0, _, _ => none
  | n + 1, T, v1 =>
    if 4 ≤ v1 then
      some (-1)
    else
      (f_X7_w T v1 0).bind fun q3 =>
      if q3 = 1 then
        (f_X7_inWindow T v1).bind fun q6 =>
        (f_X7_w T v1 4).bind fun q8 =>
        if q6 ≤ q8 then
          f_X7_overfull_c2 n T (v1 + 1)
        else
          some v1
      else
        f_X7_overfull_c2 n T (v1 + 1)
def f_X7_overfull (T : ModS) : Option (Int32) :=
    f_X7_overfull_c2 200 T 0
def f_X7_counts (T : ModS) (p1 : Int32) : Option (Int32 × (ModS)) :=
    (f_X7_overfull (T.1, (upd T.2.1 (1 : Int32).toNatClampNeg ((T.2.1 (1 : Int32).toNatClampNeg) + p1)), T.2.2.1, T.2.2.2.1, p1, T.2.2.2.2.2.1, T.2.2.2.2.2.2.1, T.2.2.2.2.2.2.2.1, T.2.2.2.2.2.2.2.2.1, T.2.2.2.2.2.2.2.2.2.1, T.2.2.2.2.2.2.2.2.2.2.1, T.2.2.2.2.2.2.2.2.2.2.2.1, T.2.2.2.2.2.2.2.2.2.2.2.2.1, T.2.2.2.2.2.2.2.2.2.2.2.2.2.1, T.2.2.2.2.2.2.2.2.2.2.2.2.2.2.1, T.2.2.2.2.2.2.2.2.2.2.2.2.2.2.2.1, T.2.2.2.2.2.2.2.2.2.2.2.2.2.2.2.2)).bind fun q2 =>
    if q2 < 0 then
      (f_X7_overfull (T.1, (upd T.2.1 (1 : Int32).toNatClampNeg ((T.2.1 (1 : Int32).toNatClampNeg) + p1)), T.2.2.1, T.2.2.2.1, p1, T.2.2.2.2.2.1, T.2.2.2.2.2.2.1, T.2.2.2.2.2.2.2.1, T.2.2.2.2.2.2.2.2.1, T.2.2.2.2.2.2.2.2.2.1, T.2.2.2.2.2.2.2.2.2.2.1, T.2.2.2.2.2.2.2.2.2.2.2.1, T.2.2.2.2.2.2.2.2.2.2.2.2.1, T.2.2.2.2.2.2.2.2.2.2.2.2.2.1, T.2.2.2.2.2.2.2.2.2.2.2.2.2.2.1, T.2.2.2.2.2.2.2.2.2.2.2.2.2.2.2.1, T.2.2.2.2.2.2.2.2.2.2.2.2.2.2.2.2)).bind fun q5 =>
      (f_X7_rejects (T.1, (upd T.2.1 (1 : Int32).toNatClampNeg ((T.2.1 (1 : Int32).toNatClampNeg) + p1)), T.2.2.1, T.2.2.2.1, p1, T.2.2.2.2.2.1, T.2.2.2.2.2.2.1, T.2.2.2.2.2.2.2.1, T.2.2.2.2.2.2.2.2.1, T.2.2.2.2.2.2.2.2.2.1, T.2.2.2.2.2.2.2.2.2.2.1, T.2.2.2.2.2.2.2.2.2.2.2.1, T.2.2.2.2.2.2.2.2.2.2.2.2.1, T.2.2.2.2.2.2.2.2.2.2.2.2.2.1, T.2.2.2.2.2.2.2.2.2.2.2.2.2.2.1, T.2.2.2.2.2.2.2.2.2.2.2.2.2.2.2.1, T.2.2.2.2.2.2.2.2.2.2.2.2.2.2.2.2) 0 3 q5).bind fun q7 =>
      if q7.1 = 0 then
        some (0, q7.2)
      else
        some (3, q7.2)
    else
      (f_X7_overfull (T.1, (upd T.2.1 (1 : Int32).toNatClampNeg ((T.2.1 (1 : Int32).toNatClampNeg) + p1)), T.2.2.1, T.2.2.2.1, p1, T.2.2.2.2.2.1, T.2.2.2.2.2.2.1, T.2.2.2.2.2.2.2.1, T.2.2.2.2.2.2.2.2.1, T.2.2.2.2.2.2.2.2.2.1, T.2.2.2.2.2.2.2.2.2.2.1, T.2.2.2.2.2.2.2.2.2.2.2.1, T.2.2.2.2.2.2.2.2.2.2.2.2.1, T.2.2.2.2.2.2.2.2.2.2.2.2.2.1, T.2.2.2.2.2.2.2.2.2.2.2.2.2.2.1, T.2.2.2.2.2.2.2.2.2.2.2.2.2.2.2.1, T.2.2.2.2.2.2.2.2.2.2.2.2.2.2.2.2)).bind fun q10 =>
      (f_X7_rejects (T.1, (upd T.2.1 (1 : Int32).toNatClampNeg ((T.2.1 (1 : Int32).toNatClampNeg) + p1)), T.2.2.1, T.2.2.2.1, p1, T.2.2.2.2.2.1, T.2.2.2.2.2.2.1, T.2.2.2.2.2.2.2.1, T.2.2.2.2.2.2.2.2.1, T.2.2.2.2.2.2.2.2.2.1, T.2.2.2.2.2.2.2.2.2.2.1, T.2.2.2.2.2.2.2.2.2.2.2.1, T.2.2.2.2.2.2.2.2.2.2.2.2.1, T.2.2.2.2.2.2.2.2.2.2.2.2.2.1, T.2.2.2.2.2.2.2.2.2.2.2.2.2.2.1, T.2.2.2.2.2.2.2.2.2.2.2.2.2.2.2.1, T.2.2.2.2.2.2.2.2.2.2.2.2.2.2.2.2) 1 3 q10).bind fun q12 =>
      if q12.1 = 0 then
        some (0, q12.2)
      else
        some (3, q12.2)
def f_X7_inserts (T : ModS) (p1 : Int32) (p2 : Int32) : Option (Int32 × (ModS)) :=
    (f_X7_isNumber p1).bind fun q2 =>
    if q2 = 0 then
      some (2, T)
    else
      (f_X7_isNumber p2).bind fun q5 =>
      if q5 = 0 then
        some (2, T)
      else
        (f_X7_find T p1).bind fun q8 =>
        if (T.2.1 (0 : Int32).toNatClampNeg) = 24 then
          (f_X7_rejects T 1 1 24).bind fun q49 =>
          if q49.1 = 0 then
            if q8 < 0 then
              if 0 ≤ q8 then
                (f_X7_priority q49.2 q8).bind fun q54 =>
                (f_X7_rejects q49.2 0 2 q54).bind fun q56 =>
                if q56.1 = 0 then
                  (f_X7_putsIn q56.2 p1 p2).bind fun q59 =>
                  (f_X7_counts q59.2 q59.1).bind fun q61 =>
                  some (q61.1, q61.2)
                else
                  some (3, q56.2)
              else
                (f_X7_rejects q49.2 0 2 0).bind fun q63 =>
                if q63.1 = 0 then
                  (f_X7_putsIn q63.2 p1 p2).bind fun q66 =>
                  (f_X7_counts q66.2 q66.1).bind fun q68 =>
                  some (q68.1, q68.2)
                else
                  some (3, q63.2)
            else
              if 0 ≤ q8 then
                (f_X7_priority q49.2 q8).bind fun q71 =>
                (f_X7_rejects q49.2 1 2 q71).bind fun q73 =>
                if q73.1 = 0 then
                  (f_X7_putsIn q73.2 p1 p2).bind fun q76 =>
                  (f_X7_counts q76.2 q76.1).bind fun q78 =>
                  some (q78.1, q78.2)
                else
                  some (3, q73.2)
              else
                (f_X7_rejects q49.2 1 2 0).bind fun q80 =>
                if q80.1 = 0 then
                  (f_X7_putsIn q80.2 p1 p2).bind fun q83 =>
                  (f_X7_counts q83.2 q83.1).bind fun q85 =>
                  some (q85.1, q85.2)
                else
                  some (3, q80.2)
          else
            some (3, q49.2)
        else
          (f_X7_rejects T 0 1 24).bind fun q11 =>
          if q11.1 = 0 then
            if q8 < 0 then
              if 0 ≤ q8 then
                (f_X7_priority q11.2 q8).bind fun q16 =>
                (f_X7_rejects q11.2 0 2 q16).bind fun q18 =>
                if q18.1 = 0 then
                  (f_X7_putsIn q18.2 p1 p2).bind fun q21 =>
                  (f_X7_counts q21.2 q21.1).bind fun q23 =>
                  some (q23.1, q23.2)
                else
                  some (3, q18.2)
              else
                (f_X7_rejects q11.2 0 2 0).bind fun q25 =>
                if q25.1 = 0 then
                  (f_X7_putsIn q25.2 p1 p2).bind fun q28 =>
                  (f_X7_counts q28.2 q28.1).bind fun q30 =>
                  some (q30.1, q30.2)
                else
                  some (3, q25.2)
            else
              if 0 ≤ q8 then
                (f_X7_priority q11.2 q8).bind fun q33 =>
                (f_X7_rejects q11.2 1 2 q33).bind fun q35 =>
                if q35.1 = 0 then
                  (f_X7_putsIn q35.2 p1 p2).bind fun q38 =>
                  (f_X7_counts q38.2 q38.1).bind fun q40 =>
                  some (q40.1, q40.2)
                else
                  some (3, q35.2)
              else
                (f_X7_rejects q11.2 1 2 0).bind fun q42 =>
                if q42.1 = 0 then
                  (f_X7_putsIn q42.2 p1 p2).bind fun q45 =>
                  (f_X7_counts q45.2 q45.1).bind fun q47 =>
                  some (q47.1, q47.2)
                else
                  some (3, q42.2)
          else
            some (3, q11.2)
def f_X7_insert (T : ModS) (p1 : Int32) (p2 : Int32) : Option (Int32 × (ModS)) :=
    (f_X7_begins T).bind fun q2 =>
    (f_X7_inserts q2 p1 p2).bind fun q4 =>
    (f_X7_ends q4.2 q4.1 0 1 2 0).bind fun q6 =>
    some (q6.1, q6.2)
def f_X7_deletes (T : ModS) (p1 : Int32) : Option (Int32 × (ModS)) :=
    (f_X7_find T p1).bind fun q2 =>
    if 0 ≤ q2 then
      (f_X7_takesOut T q2).bind fun q5 =>
      (f_X7_counts q5.2 q5.1).bind fun q7 =>
      some (q7.1, q7.2)
    else
      some (4, T)
def f_X7_delete (T : ModS) (p1 : Int32) : Option (Int32 × (ModS)) :=
    (f_X7_begins T).bind fun q2 =>
    (f_X7_deletes q2 p1).bind fun q4 =>
    (f_X7_ends q4.2 q4.1 0 0 0 1).bind fun q6 =>
    some (q6.1, q6.2)
def f_X7_prefers (T : ModS) (p1 : Int32) (p2 : Int32) : Option (Int32 × (ModS)) :=
    (f_X7_find T p1).bind fun q2 =>
    if 0 ≤ q2 then
      (f_X7_isNumber p2).bind fun q5 =>
      if q5 = 0 then
        some (2, T)
      else
        (f_X7_depth T q2).bind fun q8 =>
        if (((2 + (2 * q2)) + 1) < 0 ∨ 770 ≤ ((2 + (2 * q2)) + 1).toNatClampNeg) then none
        else
          (f_X7_depth (T.1, (upd T.2.1 ((2 + (2 * q2)) + 1).toNatClampNeg p2), T.2.2.1, T.2.2.2.1, T.2.2.2.2.1, T.2.2.2.2.2.1, T.2.2.2.2.2.2.1, T.2.2.2.2.2.2.2.1, T.2.2.2.2.2.2.2.2.1, T.2.2.2.2.2.2.2.2.2.1, T.2.2.2.2.2.2.2.2.2.2.1, T.2.2.2.2.2.2.2.2.2.2.2.1, T.2.2.2.2.2.2.2.2.2.2.2.2.1, T.2.2.2.2.2.2.2.2.2.2.2.2.2.1, T.2.2.2.2.2.2.2.2.2.2.2.2.2.2.1, T.2.2.2.2.2.2.2.2.2.2.2.2.2.2.2.1, T.2.2.2.2.2.2.2.2.2.2.2.2.2.2.2.2) q2).bind fun q11 =>
          if 0 ≤ (q11 - q8) then
            (f_X7_counts (T.1, (upd T.2.1 ((2 + (2 * q2)) + 1).toNatClampNeg p2), T.2.2.1, T.2.2.2.1, T.2.2.2.2.1, T.2.2.2.2.2.1, T.2.2.2.2.2.2.1, T.2.2.2.2.2.2.2.1, T.2.2.2.2.2.2.2.2.1, T.2.2.2.2.2.2.2.2.2.1, T.2.2.2.2.2.2.2.2.2.2.1, T.2.2.2.2.2.2.2.2.2.2.2.1, T.2.2.2.2.2.2.2.2.2.2.2.2.1, T.2.2.2.2.2.2.2.2.2.2.2.2.2.1, T.2.2.2.2.2.2.2.2.2.2.2.2.2.2.1, T.2.2.2.2.2.2.2.2.2.2.2.2.2.2.2.1, T.2.2.2.2.2.2.2.2.2.2.2.2.2.2.2.2) (q11 - q8)).bind fun q14 =>
            some (q14.1, q14.2)
          else
            (f_X7_counts (T.1, (upd T.2.1 ((2 + (2 * q2)) + 1).toNatClampNeg p2), T.2.2.1, T.2.2.2.1, T.2.2.2.2.1, T.2.2.2.2.2.1, T.2.2.2.2.2.2.1, T.2.2.2.2.2.2.2.1, T.2.2.2.2.2.2.2.2.1, T.2.2.2.2.2.2.2.2.2.1, T.2.2.2.2.2.2.2.2.2.2.1, T.2.2.2.2.2.2.2.2.2.2.2.1, T.2.2.2.2.2.2.2.2.2.2.2.2.1, T.2.2.2.2.2.2.2.2.2.2.2.2.2.1, T.2.2.2.2.2.2.2.2.2.2.2.2.2.2.1, T.2.2.2.2.2.2.2.2.2.2.2.2.2.2.2.1, T.2.2.2.2.2.2.2.2.2.2.2.2.2.2.2.2) (-(q11 - q8))).bind fun q16 =>
            some (q16.1, q16.2)
    else
      some (4, T)
def f_X7_changePriority (T : ModS) (p1 : Int32) (p2 : Int32) : Option (Int32 × (ModS)) :=
    (f_X7_begins T).bind fun q2 =>
    (f_X7_prefers q2 p1 p2).bind fun q4 =>
    (f_X7_ends q4.2 q4.1 0 2 3 1).bind fun q6 =>
    some (q6.1, q6.2)
def f_X7_moves (T : ModS) (p1 : Int32) (p2 : Int32) : Option (Int32 × (ModS)) :=
    (f_X7_find T p1).bind fun q2 =>
    if 0 ≤ q2 then
      (f_X7_isNumber p2).bind fun q5 =>
      if q5 = 0 then
        some (2, T)
      else
        (f_X7_find T p2).bind fun q8 =>
        if q8 < 0 then
          if 0 ≤ q8 then
            (f_X7_priority T q8).bind fun q12 =>
            (f_X7_rejects T 0 2 q12).bind fun q14 =>
            if q14.1 = 0 then
              (f_X7_priority q14.2 q2).bind fun q17 =>
              (f_X7_takesOut q14.2 q2).bind fun q19 =>
              (f_X7_putsIn q19.2 p2 q17).bind fun q21 =>
              (f_X7_counts q21.2 (q19.1 + q21.1)).bind fun q23 =>
              some (q23.1, q23.2)
            else
              some (3, q14.2)
          else
            (f_X7_rejects T 0 2 0).bind fun q25 =>
            if q25.1 = 0 then
              (f_X7_priority q25.2 q2).bind fun q28 =>
              (f_X7_takesOut q25.2 q2).bind fun q30 =>
              (f_X7_putsIn q30.2 p2 q28).bind fun q32 =>
              (f_X7_counts q32.2 (q30.1 + q32.1)).bind fun q34 =>
              some (q34.1, q34.2)
            else
              some (3, q25.2)
        else
          if 0 ≤ q8 then
            (f_X7_priority T q8).bind fun q37 =>
            (f_X7_rejects T 1 2 q37).bind fun q39 =>
            if q39.1 = 0 then
              (f_X7_priority q39.2 q2).bind fun q42 =>
              (f_X7_takesOut q39.2 q2).bind fun q44 =>
              (f_X7_putsIn q44.2 p2 q42).bind fun q46 =>
              (f_X7_counts q46.2 (q44.1 + q46.1)).bind fun q48 =>
              some (q48.1, q48.2)
            else
              some (3, q39.2)
          else
            (f_X7_rejects T 1 2 0).bind fun q50 =>
            if q50.1 = 0 then
              (f_X7_priority q50.2 q2).bind fun q53 =>
              (f_X7_takesOut q50.2 q2).bind fun q55 =>
              (f_X7_putsIn q55.2 p2 q53).bind fun q57 =>
              (f_X7_counts q57.2 (q55.1 + q57.1)).bind fun q59 =>
              some (q59.1, q59.2)
            else
              some (3, q50.2)
    else
      some (4, T)
def f_X7_moveKey (T : ModS) (p1 : Int32) (p2 : Int32) : Option (Int32 × (ModS)) :=
    (f_X7_begins T).bind fun q2 =>
    (f_X7_moves q2 p1 p2).bind fun q4 =>
    (f_X7_ends q4.2 q4.1 0 2 3 1).bind fun q6 =>
    some (q6.1, q6.2)
def f_X7_isRange (p1 : Int32) (p2 : Int32) : Option (Int32) :=
    (f_X7_isNumber p1).bind fun q2 =>
    if q2 = 0 then
      some 0
    else
      (f_X7_isNumber p2).bind fun q5 =>
      if q5 = 0 then
        some 0
      else
        if p2 < p1 then
          some 0
        else
          some 1
def f_X7_clears_c24 : Nat → ModS → Int32 → Int32 → Int32 → Option (Int32 × (ModS))
  | 0, _, _, _, _ => none
  | n + 1, T, v1, v2, v3 =>
    if v3 < 0 then
      some (0, T)
    else
      (f_X7_key T v3).bind fun q3 =>
      (f_X7_in q3 v1 v2).bind fun q5 =>
      if q5 = 0 then
        f_X7_clears_c24 n T v1 v2 (v3 + (-1))
      else
        (f_X7_shuts T v3).bind fun q8 =>
        f_X7_clears_c24 n (q8.1, q8.2.1, q8.2.2.1, q8.2.2.2.1, (q8.2.2.2.2.1 + 1), q8.2.2.2.2.2.1, q8.2.2.2.2.2.2.1, q8.2.2.2.2.2.2.2.1, q8.2.2.2.2.2.2.2.2.1, q8.2.2.2.2.2.2.2.2.2.1, q8.2.2.2.2.2.2.2.2.2.2.1, q8.2.2.2.2.2.2.2.2.2.2.2.1, q8.2.2.2.2.2.2.2.2.2.2.2.2.1, q8.2.2.2.2.2.2.2.2.2.2.2.2.2.1, q8.2.2.2.2.2.2.2.2.2.2.2.2.2.2.1, q8.2.2.2.2.2.2.2.2.2.2.2.2.2.2.2.1, q8.2.2.2.2.2.2.2.2.2.2.2.2.2.2.2.2) v1 v2 (v3 + (-1))
def f_X7_clears (T : ModS) (p1 : Int32) (p2 : Int32) : Option (Int32 × (ModS)) :=
    (f_X7_isRange p1 p2).bind fun q10 =>
    if q10 = 0 then
      some (2, T)
    else
      f_X7_clears_c24 200 (T.1, T.2.1, T.2.2.1, T.2.2.2.1, 0, T.2.2.2.2.2.1, T.2.2.2.2.2.2.1, T.2.2.2.2.2.2.2.1, T.2.2.2.2.2.2.2.2.1, T.2.2.2.2.2.2.2.2.2.1, T.2.2.2.2.2.2.2.2.2.2.1, T.2.2.2.2.2.2.2.2.2.2.2.1, T.2.2.2.2.2.2.2.2.2.2.2.2.1, T.2.2.2.2.2.2.2.2.2.2.2.2.2.1, T.2.2.2.2.2.2.2.2.2.2.2.2.2.2.1, T.2.2.2.2.2.2.2.2.2.2.2.2.2.2.2.1, T.2.2.2.2.2.2.2.2.2.2.2.2.2.2.2.2) p1 p2 ((T.2.1 (0 : Int32).toNatClampNeg) - 1)
def f_X7_deleteRange (T : ModS) (p1 : Int32) (p2 : Int32) : Option (Int32 × (ModS)) :=
    (f_X7_begins T).bind fun q2 =>
    (f_X7_clears q2 p1 p2).bind fun q4 =>
    (f_X7_ends q4.2 q4.1 0 1 0 0).bind fun q6 =>
    some (q6.1, q6.2)
def f_X7_isWindow (p1 : Int32) : Option (Int32) :=
    (f_X7_in p1 0 3).bind fun q2 =>
    if q2 = 0 ∨ q2 = 1 then
      some q2
    else none
def f_X7_writesWindow (T : ModS) (p1 : Int32) (p2 : Int32) (p3 : Int32) (p4 : Int32) : Option (ModS) :=
    if ((50 + (5 * p1)) < 0 ∨ 770 ≤ (50 + (5 * p1)).toNatClampNeg) then none
    else
      if (((50 + (5 * p1)) + 1) < 0 ∨ 770 ≤ ((50 + (5 * p1)) + 1).toNatClampNeg) then none
      else
        if (((50 + (5 * p1)) + 2) < 0 ∨ 770 ≤ ((50 + (5 * p1)) + 2).toNatClampNeg) then none
        else
          some (T.1, (upd (upd (upd T.2.1 (50 + (5 * p1)).toNatClampNeg p2) ((50 + (5 * p1)) + 1).toNatClampNeg p3) ((50 + (5 * p1)) + 2).toNatClampNeg p4), T.2.2.1, T.2.2.2.1, T.2.2.2.2.1, T.2.2.2.2.2.1, T.2.2.2.2.2.2.1, T.2.2.2.2.2.2.2.1, T.2.2.2.2.2.2.2.2.1, T.2.2.2.2.2.2.2.2.2.1, T.2.2.2.2.2.2.2.2.2.2.1, T.2.2.2.2.2.2.2.2.2.2.2.1, T.2.2.2.2.2.2.2.2.2.2.2.2.1, T.2.2.2.2.2.2.2.2.2.2.2.2.2.1, T.2.2.2.2.2.2.2.2.2.2.2.2.2.2.1, T.2.2.2.2.2.2.2.2.2.2.2.2.2.2.2.1, T.2.2.2.2.2.2.2.2.2.2.2.2.2.2.2.2)
def f_X7_sets (T : ModS) (p1 : Int32) (p2 : Int32) (p3 : Int32) (p4 : Int32) (p5 : Int32) : Option (Int32 × (ModS)) :=
    (f_X7_isWindow p1).bind fun q2 =>
    if q2 = 0 then
      some (1, T)
    else
      (f_X7_isRange p2 p3).bind fun q5 =>
      if q5 = 0 then
        some (2, T)
      else
        (f_X7_isNumber p4).bind fun q8 =>
        if q8 = 0 then
          some (2, T)
        else
          (f_X7_in p5 1 24).bind fun q11 =>
          if q11 = 0 then
            some (2, T)
          else
            (f_X7_writesWindow T p1 1 p2 p3).bind fun q14 =>
            if (((50 + (5 * p1)) + 3) < 0 ∨ 770 ≤ ((50 + (5 * p1)) + 3).toNatClampNeg) then none
            else
              if (((50 + (5 * p1)) + 4) < 0 ∨ 770 ≤ ((50 + (5 * p1)) + 4).toNatClampNeg) then none
              else
                (f_X7_inWindow (q14.1, (upd (upd q14.2.1 ((50 + (5 * p1)) + 3).toNatClampNeg p4) ((50 + (5 * p1)) + 4).toNatClampNeg p5), q14.2.2.1, q14.2.2.2.1, q14.2.2.2.2.1, q14.2.2.2.2.2.1, q14.2.2.2.2.2.2.1, q14.2.2.2.2.2.2.2.1, q14.2.2.2.2.2.2.2.2.1, q14.2.2.2.2.2.2.2.2.2.1, q14.2.2.2.2.2.2.2.2.2.2.1, q14.2.2.2.2.2.2.2.2.2.2.2.1, q14.2.2.2.2.2.2.2.2.2.2.2.2.1, q14.2.2.2.2.2.2.2.2.2.2.2.2.2.1, q14.2.2.2.2.2.2.2.2.2.2.2.2.2.2.1, q14.2.2.2.2.2.2.2.2.2.2.2.2.2.2.2.1, q14.2.2.2.2.2.2.2.2.2.2.2.2.2.2.2.2) p1).bind fun q18 =>
                if q18 ≤ p5 then
                  (f_X7_rejects (q14.1, (upd (upd q14.2.1 ((50 + (5 * p1)) + 3).toNatClampNeg p4) ((50 + (5 * p1)) + 4).toNatClampNeg p5), q14.2.2.1, q14.2.2.2.1, q18, q14.2.2.2.2.2.1, q14.2.2.2.2.2.2.1, q14.2.2.2.2.2.2.2.1, q14.2.2.2.2.2.2.2.2.1, q14.2.2.2.2.2.2.2.2.2.1, q14.2.2.2.2.2.2.2.2.2.2.1, q14.2.2.2.2.2.2.2.2.2.2.2.1, q14.2.2.2.2.2.2.2.2.2.2.2.2.1, q14.2.2.2.2.2.2.2.2.2.2.2.2.2.1, q14.2.2.2.2.2.2.2.2.2.2.2.2.2.2.1, q14.2.2.2.2.2.2.2.2.2.2.2.2.2.2.2.1, q14.2.2.2.2.2.2.2.2.2.2.2.2.2.2.2.2) 0 3 p1).bind fun q21 =>
                  if q21.1 = 0 then
                    some (0, q21.2)
                  else
                    some (3, q21.2)
                else
                  (f_X7_rejects (q14.1, (upd (upd q14.2.1 ((50 + (5 * p1)) + 3).toNatClampNeg p4) ((50 + (5 * p1)) + 4).toNatClampNeg p5), q14.2.2.1, q14.2.2.2.1, q18, q14.2.2.2.2.2.1, q14.2.2.2.2.2.2.1, q14.2.2.2.2.2.2.2.1, q14.2.2.2.2.2.2.2.2.1, q14.2.2.2.2.2.2.2.2.2.1, q14.2.2.2.2.2.2.2.2.2.2.1, q14.2.2.2.2.2.2.2.2.2.2.2.1, q14.2.2.2.2.2.2.2.2.2.2.2.2.1, q14.2.2.2.2.2.2.2.2.2.2.2.2.2.1, q14.2.2.2.2.2.2.2.2.2.2.2.2.2.2.1, q14.2.2.2.2.2.2.2.2.2.2.2.2.2.2.2.1, q14.2.2.2.2.2.2.2.2.2.2.2.2.2.2.2.2) 1 3 p1).bind fun q24 =>
                  if q24.1 = 0 then
                    some (0, q24.2)
                  else
                    some (3, q24.2)
def f_X7_setWindow (T : ModS) (p1 : Int32) (p2 : Int32) (p3 : Int32) (p4 : Int32) (p5 : Int32) : Option (Int32 × (ModS)) :=
    (f_X7_begins T).bind fun q2 =>
    (f_X7_sets q2 p1 p2 p3 p4 p5).bind fun q4 =>
    (f_X7_ends q4.2 q4.1 1 2 3 0).bind fun q6 =>
    some (q6.1, q6.2)
def f_X7_removes (T : ModS) (p1 : Int32) : Option (Int32 × (ModS)) :=
    (f_X7_isWindow p1).bind fun q2 =>
    if q2 = 0 then
      some (1, T)
    else
      (f_X7_w T p1 0).bind fun q5 =>
      if q5 = 0 then
        some (4, T)
      else
        (f_X7_inWindow T p1).bind fun q8 =>
        (f_X7_writesWindow (T.1, T.2.1, T.2.2.1, T.2.2.2.1, q8, T.2.2.2.2.2.1, T.2.2.2.2.2.2.1, T.2.2.2.2.2.2.2.1, T.2.2.2.2.2.2.2.2.1, T.2.2.2.2.2.2.2.2.2.1, T.2.2.2.2.2.2.2.2.2.2.1, T.2.2.2.2.2.2.2.2.2.2.2.1, T.2.2.2.2.2.2.2.2.2.2.2.2.1, T.2.2.2.2.2.2.2.2.2.2.2.2.2.1, T.2.2.2.2.2.2.2.2.2.2.2.2.2.2.1, T.2.2.2.2.2.2.2.2.2.2.2.2.2.2.2.1, T.2.2.2.2.2.2.2.2.2.2.2.2.2.2.2.2) p1 0 0 0).bind fun q10 =>
        some (0, q10)
def f_X7_removeWindow (T : ModS) (p1 : Int32) : Option (Int32 × (ModS)) :=
    (f_X7_begins T).bind fun q2 =>
    (f_X7_removes q2 p1).bind fun q4 =>
    (f_X7_ends q4.2 q4.1 1 0 0 2).bind fun q6 =>
    some (q6.1, q6.2)
def f_X7_size (T : ModS) : Option (Int32 × (ModS)) :=
    some ((T.2.1 (0 : Int32).toNatClampNeg), (0, T.2.1, T.2.2.1, T.2.2.2.1, T.2.2.2.2.1, T.2.2.2.2.2.1, T.2.2.2.2.2.2.1, T.2.2.2.2.2.2.2.1, T.2.2.2.2.2.2.2.2.1, T.2.2.2.2.2.2.2.2.2.1, T.2.2.2.2.2.2.2.2.2.2.1, T.2.2.2.2.2.2.2.2.2.2.2.1, T.2.2.2.2.2.2.2.2.2.2.2.2.1, T.2.2.2.2.2.2.2.2.2.2.2.2.2.1, T.2.2.2.2.2.2.2.2.2.2.2.2.2.2.1, T.2.2.2.2.2.2.2.2.2.2.2.2.2.2.2.1, T.2.2.2.2.2.2.2.2.2.2.2.2.2.2.2.2))
def f_X7_contains (T : ModS) (p1 : Int32) : Option (Int32 × (ModS)) :=
    (f_X7_find (0, T.2.1, T.2.2.1, T.2.2.2.1, T.2.2.2.2.1, T.2.2.2.2.2.1, T.2.2.2.2.2.2.1, T.2.2.2.2.2.2.2.1, T.2.2.2.2.2.2.2.2.1, T.2.2.2.2.2.2.2.2.2.1, T.2.2.2.2.2.2.2.2.2.2.1, T.2.2.2.2.2.2.2.2.2.2.2.1, T.2.2.2.2.2.2.2.2.2.2.2.2.1, T.2.2.2.2.2.2.2.2.2.2.2.2.2.1, T.2.2.2.2.2.2.2.2.2.2.2.2.2.2.1, T.2.2.2.2.2.2.2.2.2.2.2.2.2.2.2.1, T.2.2.2.2.2.2.2.2.2.2.2.2.2.2.2.2) p1).bind fun q2 =>
    if q2 < 0 then
      some (0, (0, T.2.1, T.2.2.1, T.2.2.2.1, T.2.2.2.2.1, T.2.2.2.2.2.1, T.2.2.2.2.2.2.1, T.2.2.2.2.2.2.2.1, T.2.2.2.2.2.2.2.2.1, T.2.2.2.2.2.2.2.2.2.1, T.2.2.2.2.2.2.2.2.2.2.1, T.2.2.2.2.2.2.2.2.2.2.2.1, T.2.2.2.2.2.2.2.2.2.2.2.2.1, T.2.2.2.2.2.2.2.2.2.2.2.2.2.1, T.2.2.2.2.2.2.2.2.2.2.2.2.2.2.1, T.2.2.2.2.2.2.2.2.2.2.2.2.2.2.2.1, T.2.2.2.2.2.2.2.2.2.2.2.2.2.2.2.2))
    else
      some (1, (0, T.2.1, T.2.2.1, T.2.2.2.1, T.2.2.2.2.1, T.2.2.2.2.2.1, T.2.2.2.2.2.2.1, T.2.2.2.2.2.2.2.1, T.2.2.2.2.2.2.2.2.1, T.2.2.2.2.2.2.2.2.2.1, T.2.2.2.2.2.2.2.2.2.2.1, T.2.2.2.2.2.2.2.2.2.2.2.1, T.2.2.2.2.2.2.2.2.2.2.2.2.1, T.2.2.2.2.2.2.2.2.2.2.2.2.2.1, T.2.2.2.2.2.2.2.2.2.2.2.2.2.2.1, T.2.2.2.2.2.2.2.2.2.2.2.2.2.2.2.1, T.2.2.2.2.2.2.2.2.2.2.2.2.2.2.2.2))
def f_X7_priorityOf (T : ModS) (p1 : Int32) : Option (Int32 × (ModS)) :=
    (f_X7_find T p1).bind fun q2 =>
    if q2 < 0 then
      (f_X7_isFine T 0).bind fun q5 =>
      if q5.1 = 0 then
        some (0, q5.2)
      else
        (f_X7_priority q5.2 q2).bind fun q8 =>
        some (q8, q5.2)
    else
      (f_X7_isFine T 1).bind fun q10 =>
      if q10.1 = 0 then
        some (0, q10.2)
      else
        (f_X7_priority q10.2 q2).bind fun q13 =>
        some (q13, q10.2)
def f_X7_keyOr (T : ModS) (p1 : Int32) : Option (Int32 × (ModS)) :=
    (f_X7_in p1 0 ((T.2.1 (0 : Int32).toNatClampNeg) - 1)).bind fun q2 =>
    (f_X7_isFine T q2).bind fun q4 =>
    if q4.1 = 0 then
      some (0, q4.2)
    else
      (f_X7_key q4.2 p1).bind fun q7 =>
      some (q7, q4.2)
def f_X7_lowestKey (T : ModS) : Option (Int32 × (ModS)) :=
    (f_X7_keyOr T 0).bind fun q2 =>
    some (q2.1, q2.2)
def f_X7_greatestKey (T : ModS) : Option (Int32 × (ModS)) :=
    (f_X7_keyOr T ((T.2.1 (0 : Int32).toNatClampNeg) - 1)).bind fun q2 =>
    some (q2.1, q2.2)
def f_X7_floorAt (T : ModS) (p1 : Int32) : Option (Int32) :=
    (f_X7_below T p1).bind fun q2 =>
    if (T.2.1 (0 : Int32).toNatClampNeg) ≤ q2 then
      some (q2 - 1)
    else
      (f_X7_key T q2).bind fun q5 =>
      if q5 = p1 then
        some q2
      else
        some (q2 - 1)
def f_X7_floorKey (T : ModS) (p1 : Int32) : Option (Int32 × (ModS)) :=
    (f_X7_floorAt T p1).bind fun q2 =>
    (f_X7_keyOr T q2).bind fun q4 =>
    some (q4.1, q4.2)
def f_X7_ceilingKey (T : ModS) (p1 : Int32) : Option (Int32 × (ModS)) :=
    (f_X7_below T p1).bind fun q2 =>
    (f_X7_keyOr T q2).bind fun q4 =>
    some (q4.1, q4.2)
def f_X7_nearestKey_c95 (T : ModS) (v2 : Int32) : Option (Int32 × (ModS)) :=
    (f_X7_key T v2).bind fun q2 =>
    some (q2, T)
def f_X7_nearestKey (T : ModS) (p1 : Int32) : Option (Int32 × (ModS)) :=
    (f_X7_isNumber p1).bind fun q4 =>
    if q4 = 0 then
      some (0, (1, T.2.1, T.2.2.1, T.2.2.2.1, T.2.2.2.2.1, T.2.2.2.2.2.1, T.2.2.2.2.2.2.1, T.2.2.2.2.2.2.2.1, T.2.2.2.2.2.2.2.2.1, T.2.2.2.2.2.2.2.2.2.1, T.2.2.2.2.2.2.2.2.2.2.1, T.2.2.2.2.2.2.2.2.2.2.2.1, T.2.2.2.2.2.2.2.2.2.2.2.2.1, T.2.2.2.2.2.2.2.2.2.2.2.2.2.1, T.2.2.2.2.2.2.2.2.2.2.2.2.2.2.1, T.2.2.2.2.2.2.2.2.2.2.2.2.2.2.2.1, T.2.2.2.2.2.2.2.2.2.2.2.2.2.2.2.2))
    else
      if (T.2.1 (0 : Int32).toNatClampNeg) = 0 then
        some (0, (2, T.2.1, T.2.2.1, T.2.2.2.1, T.2.2.2.2.1, T.2.2.2.2.2.1, T.2.2.2.2.2.2.1, T.2.2.2.2.2.2.2.1, T.2.2.2.2.2.2.2.2.1, T.2.2.2.2.2.2.2.2.2.1, T.2.2.2.2.2.2.2.2.2.2.1, T.2.2.2.2.2.2.2.2.2.2.2.1, T.2.2.2.2.2.2.2.2.2.2.2.2.1, T.2.2.2.2.2.2.2.2.2.2.2.2.2.1, T.2.2.2.2.2.2.2.2.2.2.2.2.2.2.1, T.2.2.2.2.2.2.2.2.2.2.2.2.2.2.2.1, T.2.2.2.2.2.2.2.2.2.2.2.2.2.2.2.2))
      else
        (f_X7_floorAt (0, T.2.1, T.2.2.1, T.2.2.2.1, T.2.2.2.2.1, T.2.2.2.2.2.1, T.2.2.2.2.2.2.1, T.2.2.2.2.2.2.2.1, T.2.2.2.2.2.2.2.2.1, T.2.2.2.2.2.2.2.2.2.1, T.2.2.2.2.2.2.2.2.2.2.1, T.2.2.2.2.2.2.2.2.2.2.2.1, T.2.2.2.2.2.2.2.2.2.2.2.2.1, T.2.2.2.2.2.2.2.2.2.2.2.2.2.1, T.2.2.2.2.2.2.2.2.2.2.2.2.2.2.1, T.2.2.2.2.2.2.2.2.2.2.2.2.2.2.2.1, T.2.2.2.2.2.2.2.2.2.2.2.2.2.2.2.2) p1).bind fun q8 =>
        (f_X7_below (0, T.2.1, T.2.2.1, T.2.2.2.1, T.2.2.2.2.1, T.2.2.2.2.2.1, T.2.2.2.2.2.2.1, T.2.2.2.2.2.2.2.1, T.2.2.2.2.2.2.2.2.1, T.2.2.2.2.2.2.2.2.2.1, T.2.2.2.2.2.2.2.2.2.2.1, T.2.2.2.2.2.2.2.2.2.2.2.1, T.2.2.2.2.2.2.2.2.2.2.2.2.1, T.2.2.2.2.2.2.2.2.2.2.2.2.2.1, T.2.2.2.2.2.2.2.2.2.2.2.2.2.2.1, T.2.2.2.2.2.2.2.2.2.2.2.2.2.2.2.1, T.2.2.2.2.2.2.2.2.2.2.2.2.2.2.2.2) p1).bind fun q10 =>
        if 0 ≤ q8 then
          if (T.2.1 (0 : Int32).toNatClampNeg) ≤ q10 then
            f_X7_nearestKey_c95 (0, T.2.1, T.2.2.1, T.2.2.2.1, T.2.2.2.2.1, T.2.2.2.2.2.1, T.2.2.2.2.2.2.1, T.2.2.2.2.2.2.2.1, T.2.2.2.2.2.2.2.2.1, T.2.2.2.2.2.2.2.2.2.1, T.2.2.2.2.2.2.2.2.2.2.1, T.2.2.2.2.2.2.2.2.2.2.2.1, T.2.2.2.2.2.2.2.2.2.2.2.2.1, T.2.2.2.2.2.2.2.2.2.2.2.2.2.1, T.2.2.2.2.2.2.2.2.2.2.2.2.2.2.1, T.2.2.2.2.2.2.2.2.2.2.2.2.2.2.2.1, T.2.2.2.2.2.2.2.2.2.2.2.2.2.2.2.2) q8
          else
            (f_X7_key (0, T.2.1, T.2.2.1, T.2.2.2.1, T.2.2.2.2.1, T.2.2.2.2.2.1, T.2.2.2.2.2.2.1, T.2.2.2.2.2.2.2.1, T.2.2.2.2.2.2.2.2.1, T.2.2.2.2.2.2.2.2.2.1, T.2.2.2.2.2.2.2.2.2.2.1, T.2.2.2.2.2.2.2.2.2.2.2.1, T.2.2.2.2.2.2.2.2.2.2.2.2.1, T.2.2.2.2.2.2.2.2.2.2.2.2.2.1, T.2.2.2.2.2.2.2.2.2.2.2.2.2.2.1, T.2.2.2.2.2.2.2.2.2.2.2.2.2.2.2.1, T.2.2.2.2.2.2.2.2.2.2.2.2.2.2.2.2) q10).bind fun q14 =>
            (f_X7_key (0, T.2.1, T.2.2.1, T.2.2.2.1, T.2.2.2.2.1, T.2.2.2.2.2.1, T.2.2.2.2.2.2.1, T.2.2.2.2.2.2.2.1, T.2.2.2.2.2.2.2.2.1, T.2.2.2.2.2.2.2.2.2.1, T.2.2.2.2.2.2.2.2.2.2.1, T.2.2.2.2.2.2.2.2.2.2.2.1, T.2.2.2.2.2.2.2.2.2.2.2.2.1, T.2.2.2.2.2.2.2.2.2.2.2.2.2.1, T.2.2.2.2.2.2.2.2.2.2.2.2.2.2.1, T.2.2.2.2.2.2.2.2.2.2.2.2.2.2.2.1, T.2.2.2.2.2.2.2.2.2.2.2.2.2.2.2.2) q8).bind fun q16 =>
            if (p1 - q16) ≤ (q14 - p1) then
              f_X7_nearestKey_c95 (0, T.2.1, T.2.2.1, T.2.2.2.1, T.2.2.2.2.1, T.2.2.2.2.2.1, T.2.2.2.2.2.2.1, T.2.2.2.2.2.2.2.1, T.2.2.2.2.2.2.2.2.1, T.2.2.2.2.2.2.2.2.2.1, T.2.2.2.2.2.2.2.2.2.2.1, T.2.2.2.2.2.2.2.2.2.2.2.1, T.2.2.2.2.2.2.2.2.2.2.2.2.1, T.2.2.2.2.2.2.2.2.2.2.2.2.2.1, T.2.2.2.2.2.2.2.2.2.2.2.2.2.2.1, T.2.2.2.2.2.2.2.2.2.2.2.2.2.2.2.1, T.2.2.2.2.2.2.2.2.2.2.2.2.2.2.2.2) q8
            else
              (f_X7_key (0, T.2.1, T.2.2.1, T.2.2.2.1, T.2.2.2.2.1, T.2.2.2.2.2.1, T.2.2.2.2.2.2.1, T.2.2.2.2.2.2.2.1, T.2.2.2.2.2.2.2.2.1, T.2.2.2.2.2.2.2.2.2.1, T.2.2.2.2.2.2.2.2.2.2.1, T.2.2.2.2.2.2.2.2.2.2.2.1, T.2.2.2.2.2.2.2.2.2.2.2.2.1, T.2.2.2.2.2.2.2.2.2.2.2.2.2.1, T.2.2.2.2.2.2.2.2.2.2.2.2.2.2.1, T.2.2.2.2.2.2.2.2.2.2.2.2.2.2.2.1, T.2.2.2.2.2.2.2.2.2.2.2.2.2.2.2.2) q10).bind fun q19 =>
              some (q19, (0, T.2.1, T.2.2.1, T.2.2.2.1, T.2.2.2.2.1, T.2.2.2.2.2.1, T.2.2.2.2.2.2.1, T.2.2.2.2.2.2.2.1, T.2.2.2.2.2.2.2.2.1, T.2.2.2.2.2.2.2.2.2.1, T.2.2.2.2.2.2.2.2.2.2.1, T.2.2.2.2.2.2.2.2.2.2.2.1, T.2.2.2.2.2.2.2.2.2.2.2.2.1, T.2.2.2.2.2.2.2.2.2.2.2.2.2.1, T.2.2.2.2.2.2.2.2.2.2.2.2.2.2.1, T.2.2.2.2.2.2.2.2.2.2.2.2.2.2.2.1, T.2.2.2.2.2.2.2.2.2.2.2.2.2.2.2.2))
        else
          (f_X7_key (0, T.2.1, T.2.2.1, T.2.2.2.1, T.2.2.2.2.1, T.2.2.2.2.2.1, T.2.2.2.2.2.2.1, T.2.2.2.2.2.2.2.1, T.2.2.2.2.2.2.2.2.1, T.2.2.2.2.2.2.2.2.2.1, T.2.2.2.2.2.2.2.2.2.2.1, T.2.2.2.2.2.2.2.2.2.2.2.1, T.2.2.2.2.2.2.2.2.2.2.2.2.1, T.2.2.2.2.2.2.2.2.2.2.2.2.2.1, T.2.2.2.2.2.2.2.2.2.2.2.2.2.2.1, T.2.2.2.2.2.2.2.2.2.2.2.2.2.2.2.1, T.2.2.2.2.2.2.2.2.2.2.2.2.2.2.2.2) q10).bind fun q21 =>
          some (q21, (0, T.2.1, T.2.2.1, T.2.2.2.1, T.2.2.2.2.1, T.2.2.2.2.2.1, T.2.2.2.2.2.2.1, T.2.2.2.2.2.2.2.1, T.2.2.2.2.2.2.2.2.1, T.2.2.2.2.2.2.2.2.2.1, T.2.2.2.2.2.2.2.2.2.2.1, T.2.2.2.2.2.2.2.2.2.2.2.1, T.2.2.2.2.2.2.2.2.2.2.2.2.1, T.2.2.2.2.2.2.2.2.2.2.2.2.2.1, T.2.2.2.2.2.2.2.2.2.2.2.2.2.2.1, T.2.2.2.2.2.2.2.2.2.2.2.2.2.2.2.1, T.2.2.2.2.2.2.2.2.2.2.2.2.2.2.2.2))
def f_X7_rankOf (T : ModS) (p1 : Int32) : Option (Int32 × (ModS)) :=
    (f_X7_below (0, T.2.1, T.2.2.1, T.2.2.2.1, T.2.2.2.2.1, T.2.2.2.2.2.1, T.2.2.2.2.2.2.1, T.2.2.2.2.2.2.2.1, T.2.2.2.2.2.2.2.2.1, T.2.2.2.2.2.2.2.2.2.1, T.2.2.2.2.2.2.2.2.2.2.1, T.2.2.2.2.2.2.2.2.2.2.2.1, T.2.2.2.2.2.2.2.2.2.2.2.2.1, T.2.2.2.2.2.2.2.2.2.2.2.2.2.1, T.2.2.2.2.2.2.2.2.2.2.2.2.2.2.1, T.2.2.2.2.2.2.2.2.2.2.2.2.2.2.2.1, T.2.2.2.2.2.2.2.2.2.2.2.2.2.2.2.2) p1).bind fun q2 =>
    some (q2, (0, T.2.1, T.2.2.1, T.2.2.2.1, T.2.2.2.2.1, T.2.2.2.2.2.1, T.2.2.2.2.2.2.1, T.2.2.2.2.2.2.2.1, T.2.2.2.2.2.2.2.2.1, T.2.2.2.2.2.2.2.2.2.1, T.2.2.2.2.2.2.2.2.2.2.1, T.2.2.2.2.2.2.2.2.2.2.2.1, T.2.2.2.2.2.2.2.2.2.2.2.2.1, T.2.2.2.2.2.2.2.2.2.2.2.2.2.1, T.2.2.2.2.2.2.2.2.2.2.2.2.2.2.1, T.2.2.2.2.2.2.2.2.2.2.2.2.2.2.2.1, T.2.2.2.2.2.2.2.2.2.2.2.2.2.2.2.2))
def f_X7_keyAt (T : ModS) (p1 : Int32) : Option (Int32 × (ModS)) :=
    (f_X7_keyOr T p1).bind fun q2 =>
    some (q2.1, q2.2)
def f_X7_keyByPriority_c17 (k2 : ModS → Int32 → Int32 → Option (Int32 × (ModS))) : Nat → ModS → Int32 → Int32 → Int32 → Int32 → Option (Int32 × (ModS))
  | 0, _, _, _, _, _ => none
  | n + 1, T, v1, v2, v3, v4 =>
    if (T.2.1 (0 : Int32).toNatClampNeg) ≤ v4 then
      if v3 = v1 then
        (f_X7_isFine T 1).bind fun q9 =>
        if q9.1 = 0 then
          k2 q9.2 v1 (v2 + 1)
        else
          (f_X7_key q9.2 v2).bind fun q12 =>
          some (q12, q9.2)
      else
        (f_X7_isFine T 0).bind fun q4 =>
        if q4.1 = 0 then
          k2 q4.2 v1 (v2 + 1)
        else
          (f_X7_key q4.2 v2).bind fun q7 =>
          some (q7, q4.2)
    else
      if v4 = v2 then
        f_X7_keyByPriority_c17 k2 n T v1 v2 (v3 + 0) (v4 + 1)
      else
        (f_X7_isAbove T v4 v2).bind fun q15 =>
        if q15 = 0 then
          f_X7_keyByPriority_c17 k2 n T v1 v2 (v3 + 0) (v4 + 1)
        else
          f_X7_keyByPriority_c17 k2 n T v1 v2 (v3 + 1) (v4 + 1)
def f_X7_keyByPriority_c2 : Nat → ModS → Int32 → Int32 → Option (Int32 × (ModS))
  | 0, _, _, _ => none
  | n + 1, T, v1, v2 =>
    if (T.2.1 (0 : Int32).toNatClampNeg) ≤ v2 then
      some (0, (1, T.2.1, T.2.2.1, T.2.2.2.1, T.2.2.2.2.1, T.2.2.2.2.2.1, T.2.2.2.2.2.2.1, T.2.2.2.2.2.2.2.1, T.2.2.2.2.2.2.2.2.1, T.2.2.2.2.2.2.2.2.2.1, T.2.2.2.2.2.2.2.2.2.2.1, T.2.2.2.2.2.2.2.2.2.2.2.1, T.2.2.2.2.2.2.2.2.2.2.2.2.1, T.2.2.2.2.2.2.2.2.2.2.2.2.2.1, T.2.2.2.2.2.2.2.2.2.2.2.2.2.2.1, T.2.2.2.2.2.2.2.2.2.2.2.2.2.2.2.1, T.2.2.2.2.2.2.2.2.2.2.2.2.2.2.2.2))
    else
      f_X7_keyByPriority_c17 (f_X7_keyByPriority_c2 n) 200 T v1 v2 0 0
def f_X7_keyByPriority (T : ModS) (p1 : Int32) : Option (Int32 × (ModS)) :=
    f_X7_keyByPriority_c2 200 T p1 0
def f_X7_root (T : ModS) : Option (Int32 × (ModS)) :=
    (f_X7_top T 0 ((T.2.1 (0 : Int32).toNatClampNeg) - 1)).bind fun q2 =>
    (f_X7_keyOr T q2).bind fun q4 =>
    some (q4.1, q4.2)
def f_X7_leftAt (T : ModS) (p1 : Int32) : Option (Int32) :=
    if 0 ≤ p1 then
      (f_X7_first T p1).bind fun q3 =>
      (f_X7_top T q3 (p1 - 1)).bind fun q5 =>
      some q5
    else
      some (-1)
def f_X7_rightAt (T : ModS) (p1 : Int32) : Option (Int32) :=
    if 0 ≤ p1 then
      (f_X7_last T p1).bind fun q3 =>
      (f_X7_top T (p1 + 1) q3).bind fun q5 =>
      some q5
    else
      some (-1)
def f_X7_hasLeft (T : ModS) (p1 : Int32) : Option (Int32 × (ModS)) :=
    (f_X7_find T p1).bind fun q2 =>
    if q2 < 0 then
      (f_X7_isFine T 0).bind fun q5 =>
      if q5.1 = 0 then
        some (0, q5.2)
      else
        (f_X7_find q5.2 p1).bind fun q8 =>
        (f_X7_leftAt q5.2 q8).bind fun q10 =>
        if q10 < 0 then
          some (0, q5.2)
        else
          some (1, q5.2)
    else
      (f_X7_isFine T 1).bind fun q13 =>
      if q13.1 = 0 then
        some (0, q13.2)
      else
        (f_X7_find q13.2 p1).bind fun q16 =>
        (f_X7_leftAt q13.2 q16).bind fun q18 =>
        if q18 < 0 then
          some (0, q13.2)
        else
          some (1, q13.2)
def f_X7_hasRight (T : ModS) (p1 : Int32) : Option (Int32 × (ModS)) :=
    (f_X7_find T p1).bind fun q2 =>
    if q2 < 0 then
      (f_X7_isFine T 0).bind fun q5 =>
      if q5.1 = 0 then
        some (0, q5.2)
      else
        (f_X7_find q5.2 p1).bind fun q8 =>
        (f_X7_rightAt q5.2 q8).bind fun q10 =>
        if q10 < 0 then
          some (0, q5.2)
        else
          some (1, q5.2)
    else
      (f_X7_isFine T 1).bind fun q13 =>
      if q13.1 = 0 then
        some (0, q13.2)
      else
        (f_X7_find q13.2 p1).bind fun q16 =>
        (f_X7_rightAt q13.2 q16).bind fun q18 =>
        if q18 < 0 then
          some (0, q13.2)
        else
          some (1, q13.2)
def f_X7_leftOf (T : ModS) (p1 : Int32) : Option (Int32 × (ModS)) :=
    (f_X7_find T p1).bind fun q2 =>
    (f_X7_leftAt T q2).bind fun q4 =>
    (f_X7_keyOr T q4).bind fun q6 =>
    some (q6.1, q6.2)
def f_X7_rightOf (T : ModS) (p1 : Int32) : Option (Int32 × (ModS)) :=
    (f_X7_find T p1).bind fun q2 =>
    (f_X7_rightAt T q2).bind fun q4 =>
    (f_X7_keyOr T q4).bind fun q6 =>
    some (q6.1, q6.2)
def f_X7_parentAt (T : ModS) (p1 : Int32) : Option (Int32) :=
    if 0 ≤ p1 then
      (f_X7_first T p1).bind fun q3 =>
      (f_X7_last T p1).bind fun q5 =>
      if 0 ≤ (q3 - 1) then
        if (T.2.1 (0 : Int32).toNatClampNeg) ≤ (q5 + 1) then
          some (q3 - 1)
        else
          (f_X7_isAbove T (q3 - 1) (q5 + 1)).bind fun q9 =>
          if q9 = 0 then
            some (q3 - 1)
          else
            some (q5 + 1)
      else
        if (T.2.1 (0 : Int32).toNatClampNeg) ≤ (q5 + 1) then
          some (-1)
        else
          some (q5 + 1)
    else
      some (-1)
def f_X7_parentOf (T : ModS) (p1 : Int32) : Option (Int32 × (ModS)) :=
    (f_X7_find T p1).bind fun q2 =>
    (f_X7_parentAt T q2).bind fun q4 =>
    (f_X7_keyOr T q4).bind fun q6 =>
    some (q6.1, q6.2)
def f_X7_depthOf (T : ModS) (p1 : Int32) : Option (Int32 × (ModS)) :=
    (f_X7_find T p1).bind fun q2 =>
    if q2 < 0 then
      (f_X7_isFine T 0).bind fun q5 =>
      if q5.1 = 0 then
        some (0, q5.2)
      else
        (f_X7_depth q5.2 q2).bind fun q8 =>
        some (q8, q5.2)
    else
      (f_X7_isFine T 1).bind fun q10 =>
      if q10.1 = 0 then
        some (0, q10.2)
      else
        (f_X7_depth q10.2 q2).bind fun q13 =>
        some (q13, q10.2)
def f_X7_sizeAt (T : ModS) (p1 : Int32) : Option (Int32) :=
    if 0 ≤ p1 then
      (f_X7_last T p1).bind fun q3 =>
      (f_X7_first T p1).bind fun q5 =>
      some ((q3 - q5) + 1)
    else
      some 0
def f_X7_subtreeSize (T : ModS) (p1 : Int32) : Option (Int32 × (ModS)) :=
    (f_X7_find T p1).bind fun q2 =>
    if q2 < 0 then
      (f_X7_isFine T 0).bind fun q5 =>
      if q5.1 = 0 then
        some (0, q5.2)
      else
        (f_X7_find q5.2 p1).bind fun q8 =>
        (f_X7_sizeAt q5.2 q8).bind fun q10 =>
        some (q10, q5.2)
    else
      (f_X7_isFine T 1).bind fun q12 =>
      if q12.1 = 0 then
        some (0, q12.2)
      else
        (f_X7_find q12.2 p1).bind fun q15 =>
        (f_X7_sizeAt q12.2 q15).bind fun q17 =>
        some (q17, q12.2)
def f_X7_imbalanceOf (T : ModS) (p1 : Int32) : Option (Int32 × (ModS)) :=
    (f_X7_find T p1).bind fun q2 =>
    if q2 < 0 then
      (f_X7_isFine T 0).bind fun q5 =>
      if q5.1 = 0 then
        some (0, q5.2)
      else
        (f_X7_leftAt q5.2 q2).bind fun q8 =>
        (f_X7_sizeAt q5.2 q8).bind fun q10 =>
        (f_X7_rightAt q5.2 q2).bind fun q12 =>
        (f_X7_sizeAt q5.2 q12).bind fun q14 =>
        some ((q10 - q14), q5.2)
    else
      (f_X7_isFine T 1).bind fun q16 =>
      if q16.1 = 0 then
        some (0, q16.2)
      else
        (f_X7_leftAt q16.2 q2).bind fun q19 =>
        (f_X7_sizeAt q16.2 q19).bind fun q21 =>
        (f_X7_rightAt q16.2 q2).bind fun q23 =>
        (f_X7_sizeAt q16.2 q23).bind fun q25 =>
        some ((q21 - q25), q16.2)
def f_X7_height_c9 : Nat → ModS → Int32 → Int32 → Option (Int32 × (ModS))
  | 0, _, _, _ => none
  | n + 1, T, v1, v2 =>
    if (T.2.1 (0 : Int32).toNatClampNeg) ≤ v2 then
      some (v1, T)
    else
      (f_X7_depth T v2).bind fun q3 =>
      if q3 ≤ v1 then
        f_X7_height_c9 n T v1 (v2 + 1)
      else
        (f_X7_depth T v2).bind fun q6 =>
        f_X7_height_c9 n T q6 (v2 + 1)
def f_X7_height (T : ModS) : Option (Int32 × (ModS)) :=
    f_X7_height_c9 200 (0, T.2.1, T.2.2.1, T.2.2.2.1, T.2.2.2.2.1, T.2.2.2.2.2.1, T.2.2.2.2.2.2.1, T.2.2.2.2.2.2.2.1, T.2.2.2.2.2.2.2.2.1, T.2.2.2.2.2.2.2.2.2.1, T.2.2.2.2.2.2.2.2.2.2.1, T.2.2.2.2.2.2.2.2.2.2.2.1, T.2.2.2.2.2.2.2.2.2.2.2.2.1, T.2.2.2.2.2.2.2.2.2.2.2.2.2.1, T.2.2.2.2.2.2.2.2.2.2.2.2.2.2.1, T.2.2.2.2.2.2.2.2.2.2.2.2.2.2.2.1, T.2.2.2.2.2.2.2.2.2.2.2.2.2.2.2.2) (-1) 0
def f_X7_leaves_c4 : Nat → ModS → Int32 → Int32 → Option (Int32)
  | 0, _, _, _ => none
  | n + 1, T, v1, v2 =>
    if (T.2.1 (0 : Int32).toNatClampNeg) ≤ v2 then
      some v1
    else
      (f_X7_sizeAt T v2).bind fun q3 =>
      if q3 = 1 then
        f_X7_leaves_c4 n T (v1 + 1) (v2 + 1)
      else
        f_X7_leaves_c4 n T (v1 + 0) (v2 + 1)
def f_X7_leaves (T : ModS) : Option (Int32) :=
    f_X7_leaves_c4 200 T 0 0
def f_X7_leafCount (T : ModS) : Option (Int32 × (ModS)) :=
    (f_X7_leaves (0, T.2.1, T.2.2.1, T.2.2.2.1, T.2.2.2.2.1, T.2.2.2.2.2.1, T.2.2.2.2.2.2.1, T.2.2.2.2.2.2.2.1, T.2.2.2.2.2.2.2.2.1, T.2.2.2.2.2.2.2.2.2.1, T.2.2.2.2.2.2.2.2.2.2.1, T.2.2.2.2.2.2.2.2.2.2.2.1, T.2.2.2.2.2.2.2.2.2.2.2.2.1, T.2.2.2.2.2.2.2.2.2.2.2.2.2.1, T.2.2.2.2.2.2.2.2.2.2.2.2.2.2.1, T.2.2.2.2.2.2.2.2.2.2.2.2.2.2.2.1, T.2.2.2.2.2.2.2.2.2.2.2.2.2.2.2.2)).bind fun q2 =>
    some (q2, (0, T.2.1, T.2.2.1, T.2.2.2.1, T.2.2.2.2.1, T.2.2.2.2.2.1, T.2.2.2.2.2.2.1, T.2.2.2.2.2.2.2.1, T.2.2.2.2.2.2.2.2.1, T.2.2.2.2.2.2.2.2.2.1, T.2.2.2.2.2.2.2.2.2.2.1, T.2.2.2.2.2.2.2.2.2.2.2.1, T.2.2.2.2.2.2.2.2.2.2.2.2.1, T.2.2.2.2.2.2.2.2.2.2.2.2.2.1, T.2.2.2.2.2.2.2.2.2.2.2.2.2.2.1, T.2.2.2.2.2.2.2.2.2.2.2.2.2.2.2.1, T.2.2.2.2.2.2.2.2.2.2.2.2.2.2.2.2))
def f_X7_common (T : ModS) (p1 : Int32) (p2 : Int32) : Option (Int32) :=
    if p2 ≤ p1 then
      (f_X7_top T p2 p1).bind fun q3 =>
      some q3
    else
      (f_X7_top T p1 p2).bind fun q5 =>
      some q5
def f_X7_commonAncestor (T : ModS) (p1 : Int32) (p2 : Int32) : Option (Int32 × (ModS)) :=
    (f_X7_find T p1).bind fun q2 =>
    (f_X7_find T p2).bind fun q4 =>
    if q2 < 0 then
      (f_X7_isFine T 0).bind fun q7 =>
      if q7.1 = 0 then
        some (0, q7.2)
      else
        (f_X7_common q7.2 q2 q4).bind fun q10 =>
        (f_X7_key q7.2 q10).bind fun q12 =>
        some (q12, q7.2)
    else
      if q4 < 0 then
        (f_X7_isFine T 0).bind fun q15 =>
        if q15.1 = 0 then
          some (0, q15.2)
        else
          (f_X7_common q15.2 q2 q4).bind fun q18 =>
          (f_X7_key q15.2 q18).bind fun q20 =>
          some (q20, q15.2)
      else
        (f_X7_isFine T 1).bind fun q22 =>
        if q22.1 = 0 then
          some (0, q22.2)
        else
          (f_X7_common q22.2 q2 q4).bind fun q25 =>
          (f_X7_key q22.2 q25).bind fun q27 =>
          some (q27, q22.2)
def f_X7_distance (T : ModS) (p1 : Int32) (p2 : Int32) : Option (Int32 × (ModS)) :=
    (f_X7_find T p1).bind fun q2 =>
    (f_X7_find T p2).bind fun q4 =>
    if q2 < 0 then
      (f_X7_isFine T 0).bind fun q7 =>
      if q7.1 = 0 then
        some (0, q7.2)
      else
        (f_X7_depth q7.2 q2).bind fun q10 =>
        (f_X7_depth q7.2 q4).bind fun q12 =>
        (f_X7_common q7.2 q2 q4).bind fun q14 =>
        (f_X7_depth q7.2 q14).bind fun q16 =>
        some (((q10 + q12) - (2 * q16)), q7.2)
    else
      if q4 < 0 then
        (f_X7_isFine T 0).bind fun q19 =>
        if q19.1 = 0 then
          some (0, q19.2)
        else
          (f_X7_depth q19.2 q2).bind fun q22 =>
          (f_X7_depth q19.2 q4).bind fun q24 =>
          (f_X7_common q19.2 q2 q4).bind fun q26 =>
          (f_X7_depth q19.2 q26).bind fun q28 =>
          some (((q22 + q24) - (2 * q28)), q19.2)
      else
        (f_X7_isFine T 1).bind fun q30 =>
        if q30.1 = 0 then
          some (0, q30.2)
        else
          (f_X7_depth q30.2 q2).bind fun q33 =>
          (f_X7_depth q30.2 q4).bind fun q35 =>
          (f_X7_common q30.2 q2 q4).bind fun q37 =>
          (f_X7_depth q30.2 q37).bind fun q39 =>
          some (((q33 + q35) - (2 * q39)), q30.2)
def f_X7_countInRange (T : ModS) (p1 : Int32) (p2 : Int32) : Option (Int32 × (ModS)) :=
    (f_X7_isRange p1 p2).bind fun q2 =>
    (f_X7_isFine T q2).bind fun q4 =>
    if q4.1 = 0 then
      some (0, q4.2)
    else
      (f_X7_below q4.2 (p2 + 1)).bind fun q7 =>
      (f_X7_below q4.2 p1).bind fun q9 =>
      some ((q7 - q9), q4.2)
def f_X7_countInRangeByScan (T : ModS) (p1 : Int32) (p2 : Int32) : Option (Int32 × (ModS)) :=
    (f_X7_countInRange T p1 p2).bind fun q2 =>
    some (q2.1, q2.2)
def f_X7_topInRange_c32 (T : ModS) (v3 : Int32) (s0 : Int32) : Option (Int32 × (ModS)) :=
    if v3 = 0 then
      some (0, (1, T.2.1, T.2.2.1, T.2.2.2.1, T.2.2.2.2.1, T.2.2.2.2.2.1, T.2.2.2.2.2.2.1, T.2.2.2.2.2.2.2.1, T.2.2.2.2.2.2.2.2.1, T.2.2.2.2.2.2.2.2.2.1, T.2.2.2.2.2.2.2.2.2.2.1, T.2.2.2.2.2.2.2.2.2.2.2.1, T.2.2.2.2.2.2.2.2.2.2.2.2.1, T.2.2.2.2.2.2.2.2.2.2.2.2.2.1, T.2.2.2.2.2.2.2.2.2.2.2.2.2.2.1, T.2.2.2.2.2.2.2.2.2.2.2.2.2.2.2.1, T.2.2.2.2.2.2.2.2.2.2.2.2.2.2.2.2))
    else
      if 0 ≤ s0 then
        (f_X7_key (0, T.2.1, T.2.2.1, T.2.2.2.1, T.2.2.2.2.1, T.2.2.2.2.2.1, T.2.2.2.2.2.2.1, T.2.2.2.2.2.2.2.1, T.2.2.2.2.2.2.2.2.1, T.2.2.2.2.2.2.2.2.2.1, T.2.2.2.2.2.2.2.2.2.2.1, T.2.2.2.2.2.2.2.2.2.2.2.1, T.2.2.2.2.2.2.2.2.2.2.2.2.1, T.2.2.2.2.2.2.2.2.2.2.2.2.2.1, T.2.2.2.2.2.2.2.2.2.2.2.2.2.2.1, T.2.2.2.2.2.2.2.2.2.2.2.2.2.2.2.1, T.2.2.2.2.2.2.2.2.2.2.2.2.2.2.2.2) s0).bind fun q4 =>
        some (q4, (0, T.2.1, T.2.2.1, T.2.2.2.1, T.2.2.2.2.1, T.2.2.2.2.2.1, T.2.2.2.2.2.2.1, T.2.2.2.2.2.2.2.1, T.2.2.2.2.2.2.2.2.1, T.2.2.2.2.2.2.2.2.2.1, T.2.2.2.2.2.2.2.2.2.2.1, T.2.2.2.2.2.2.2.2.2.2.2.1, T.2.2.2.2.2.2.2.2.2.2.2.2.1, T.2.2.2.2.2.2.2.2.2.2.2.2.2.1, T.2.2.2.2.2.2.2.2.2.2.2.2.2.2.1, T.2.2.2.2.2.2.2.2.2.2.2.2.2.2.2.1, T.2.2.2.2.2.2.2.2.2.2.2.2.2.2.2.2))
      else
        some (0, (2, T.2.1, T.2.2.1, T.2.2.2.1, T.2.2.2.2.1, T.2.2.2.2.2.1, T.2.2.2.2.2.2.1, T.2.2.2.2.2.2.2.1, T.2.2.2.2.2.2.2.2.1, T.2.2.2.2.2.2.2.2.2.1, T.2.2.2.2.2.2.2.2.2.2.1, T.2.2.2.2.2.2.2.2.2.2.2.1, T.2.2.2.2.2.2.2.2.2.2.2.2.1, T.2.2.2.2.2.2.2.2.2.2.2.2.2.1, T.2.2.2.2.2.2.2.2.2.2.2.2.2.2.1, T.2.2.2.2.2.2.2.2.2.2.2.2.2.2.2.1, T.2.2.2.2.2.2.2.2.2.2.2.2.2.2.2.2))
def f_X7_topInRange (T : ModS) (p1 : Int32) (p2 : Int32) : Option (Int32 × (ModS)) :=
    (f_X7_isRange p1 p2).bind fun q6 =>
    if q6 = 0 then
      f_X7_topInRange_c32 T q6 (-1)
    else
      (f_X7_below T p1).bind fun q9 =>
      (f_X7_below T (p2 + 1)).bind fun q11 =>
      (f_X7_top T q9 (q11 - 1)).bind fun q13 =>
      f_X7_topInRange_c32 T q6 q13
def f_X7_topInRangeByScan (T : ModS) (p1 : Int32) (p2 : Int32) : Option (Int32 × (ModS)) :=
    (f_X7_topInRange T p1 p2).bind fun q2 =>
    some (q2.1, q2.2)
def f_X7_countAbove_c39 : Nat → ModS → Int32 → Int32 → Int32 → Int32 → Option (Int32 × (ModS))
  | 0, _, _, _, _, _ => none
  | n + 1, T, v2, v3, v4, v5 =>
    (f_X7_below T (v2 + 1)).bind fun q2 =>
    if q2 ≤ v5 then
      some (v4, T)
    else
      (f_X7_priority T v5).bind fun q5 =>
      if q5 < v3 then
        f_X7_countAbove_c39 n T v2 v3 (v4 + 0) (v5 + 1)
      else
        f_X7_countAbove_c39 n T v2 v3 (v4 + 1) (v5 + 1)
def f_X7_countAbove (T : ModS) (p1 : Int32) (p2 : Int32) (p3 : Int32) : Option (Int32 × (ModS)) :=
    (f_X7_isRange p1 p2).bind fun q8 =>
    if q8 = 0 then
      (f_X7_isFine T 0).bind fun q11 =>
      if q11.1 = 0 then
        some (0, q11.2)
      else
        (f_X7_below q11.2 p1).bind fun q14 =>
        f_X7_countAbove_c39 200 q11.2 p2 p3 0 q14
    else
      (f_X7_isNumber p3).bind fun q16 =>
      if q16 = 0 then
        (f_X7_isFine T 0).bind fun q19 =>
        if q19.1 = 0 then
          some (0, q19.2)
        else
          (f_X7_below q19.2 p1).bind fun q22 =>
          f_X7_countAbove_c39 200 q19.2 p2 p3 0 q22
      else
        (f_X7_isFine T 1).bind fun q24 =>
        if q24.1 = 0 then
          some (0, q24.2)
        else
          (f_X7_below q24.2 p1).bind fun q27 =>
          f_X7_countAbove_c39 200 q24.2 p2 p3 0 q27
def f_X7_countAboveByScan (T : ModS) (p1 : Int32) (p2 : Int32) (p3 : Int32) : Option (Int32 × (ModS)) :=
    (f_X7_countAbove T p1 p2 p3).bind fun q2 =>
    some (q2.1, q2.2)
def f_X7_sumInRange_c23 : Nat → ModS → Int32 → Int32 → Int32 → Option (Int64 × (ModS))
  | 0, _, _, _, _ => none
  | n + 1, T, v2, v3, v4 =>
    (f_X7_below T (v2 + 1)).bind fun q2 =>
    if q2 ≤ v4 then
      some (v3.toInt64, T)
    else
      (f_X7_priority T v4).bind fun q5 =>
      f_X7_sumInRange_c23 n T v2 (v3 + q5) (v4 + 1)
def f_X7_sumInRange (T : ModS) (p1 : Int32) (p2 : Int32) : Option (Int64 × (ModS)) :=
    (f_X7_isRange p1 p2).bind fun q7 =>
    (f_X7_isFine T q7).bind fun q9 =>
    if q9.1 = 0 then
      some (0, q9.2)
    else
      (f_X7_below q9.2 p1).bind fun q12 =>
      f_X7_sumInRange_c23 200 q9.2 p2 0 q12
def f_X7_isWindowSet (T : ModS) (p1 : Int32) : Option (Int32 × (ModS)) :=
    (f_X7_isWindow p1).bind fun q2 =>
    (f_X7_isFine T q2).bind fun q4 =>
    if q4.1 = 0 then
      some (0, q4.2)
    else
      (f_X7_w q4.2 p1 0).bind fun q7 =>
      if q7 = 1 then
        some (1, q4.2)
      else
        some (0, q4.2)
def f_X7_isSet (T : ModS) (p1 : Int32) : Option (Int32 × (ModS)) :=
    (f_X7_isWindow p1).bind fun q2 =>
    if q2 = 0 then
      some (0, (1, T.2.1, T.2.2.1, T.2.2.2.1, T.2.2.2.2.1, T.2.2.2.2.2.1, T.2.2.2.2.2.2.1, T.2.2.2.2.2.2.2.1, T.2.2.2.2.2.2.2.2.1, T.2.2.2.2.2.2.2.2.2.1, T.2.2.2.2.2.2.2.2.2.2.1, T.2.2.2.2.2.2.2.2.2.2.2.1, T.2.2.2.2.2.2.2.2.2.2.2.2.1, T.2.2.2.2.2.2.2.2.2.2.2.2.2.1, T.2.2.2.2.2.2.2.2.2.2.2.2.2.2.1, T.2.2.2.2.2.2.2.2.2.2.2.2.2.2.2.1, T.2.2.2.2.2.2.2.2.2.2.2.2.2.2.2.2))
    else
      (f_X7_w T p1 0).bind fun q5 =>
      if q5 = 0 then
        some (0, (2, T.2.1, T.2.2.1, T.2.2.2.1, T.2.2.2.2.1, T.2.2.2.2.2.1, T.2.2.2.2.2.2.1, T.2.2.2.2.2.2.2.1, T.2.2.2.2.2.2.2.2.1, T.2.2.2.2.2.2.2.2.2.1, T.2.2.2.2.2.2.2.2.2.2.1, T.2.2.2.2.2.2.2.2.2.2.2.1, T.2.2.2.2.2.2.2.2.2.2.2.2.1, T.2.2.2.2.2.2.2.2.2.2.2.2.2.1, T.2.2.2.2.2.2.2.2.2.2.2.2.2.2.1, T.2.2.2.2.2.2.2.2.2.2.2.2.2.2.2.1, T.2.2.2.2.2.2.2.2.2.2.2.2.2.2.2.2))
      else
        some (1, (0, T.2.1, T.2.2.1, T.2.2.2.1, T.2.2.2.2.1, T.2.2.2.2.2.1, T.2.2.2.2.2.2.1, T.2.2.2.2.2.2.2.1, T.2.2.2.2.2.2.2.2.1, T.2.2.2.2.2.2.2.2.2.1, T.2.2.2.2.2.2.2.2.2.2.1, T.2.2.2.2.2.2.2.2.2.2.2.1, T.2.2.2.2.2.2.2.2.2.2.2.2.1, T.2.2.2.2.2.2.2.2.2.2.2.2.2.1, T.2.2.2.2.2.2.2.2.2.2.2.2.2.2.1, T.2.2.2.2.2.2.2.2.2.2.2.2.2.2.2.1, T.2.2.2.2.2.2.2.2.2.2.2.2.2.2.2.2))
def f_X7_pointsInWindow (T : ModS) (p1 : Int32) : Option (Int32 × (ModS)) :=
    (f_X7_isSet T p1).bind fun q2 =>
    if q2.1 = 0 then
      some (0, q2.2)
    else
      (f_X7_inWindow q2.2 p1).bind fun q5 =>
      some (q5, q2.2)
def f_X7_roomInWindow (T : ModS) (p1 : Int32) : Option (Int32 × (ModS)) :=
    (f_X7_isSet T p1).bind fun q2 =>
    if q2.1 = 0 then
      some (0, q2.2)
    else
      (f_X7_w q2.2 p1 4).bind fun q5 =>
      (f_X7_inWindow q2.2 p1).bind fun q7 =>
      some ((q5 - q7), q2.2)
def f_X7_windowKeyAt_c15 : Nat → ModS → Int32 → Int32 → Int32 → Int32 → Option (Int32 × (ModS))
  | 0, _, _, _, _, _ => none
  | n + 1, T, v1, v2, v3, v4 =>
    if (T.2.1 (0 : Int32).toNatClampNeg) ≤ v4 then
      some (0, (2, T.2.1, T.2.2.1, T.2.2.2.1, T.2.2.2.2.1, T.2.2.2.2.2.1, T.2.2.2.2.2.2.1, T.2.2.2.2.2.2.2.1, T.2.2.2.2.2.2.2.2.1, T.2.2.2.2.2.2.2.2.2.1, T.2.2.2.2.2.2.2.2.2.2.1, T.2.2.2.2.2.2.2.2.2.2.2.1, T.2.2.2.2.2.2.2.2.2.2.2.2.1, T.2.2.2.2.2.2.2.2.2.2.2.2.2.1, T.2.2.2.2.2.2.2.2.2.2.2.2.2.2.1, T.2.2.2.2.2.2.2.2.2.2.2.2.2.2.2.1, T.2.2.2.2.2.2.2.2.2.2.2.2.2.2.2.2))
    else
      (f_X7_key T v4).bind fun q3 =>
      (f_X7_priority T v4).bind fun q5 =>
      (f_X7_isWithin T v1 q3 q5).bind fun q7 =>
      if q7 = 0 then
        f_X7_windowKeyAt_c15 n T v1 v2 v3 (v4 + 1)
      else
        if v3 = v2 then
          (f_X7_key T v4).bind fun q11 =>
          some (q11, T)
        else
          f_X7_windowKeyAt_c15 n T v1 v2 (v3 + 1) (v4 + 1)
def f_X7_windowKeyAt (T : ModS) (p1 : Int32) (p2 : Int32) : Option (Int32 × (ModS)) :=
    (f_X7_isSet T p1).bind fun q13 =>
    if q13.1 = 0 then
      some (0, q13.2)
    else
      f_X7_windowKeyAt_c15 200 q13.2 p1 p2 0 0
def f_X7_canInsert_c49 : Nat → ModS → Int32 → Int32 → Int32 → Option (Int32 × (ModS))
  | 0, _, _, _, _ => none
  | n + 1, T, v1, v2, v3 =>
    if 4 ≤ v3 then
      some (1, T)
    else
      (f_X7_isWithin T v3 v1 v2).bind fun q3 =>
      if q3 = 0 then
        f_X7_canInsert_c49 n T v1 v2 (v3 + 1)
      else
        (f_X7_inWindow T v3).bind fun q6 =>
        (f_X7_w T v3 4).bind fun q8 =>
        if q6 = q8 then
          some (0, T)
        else
          f_X7_canInsert_c49 n T v1 v2 (v3 + 1)
def f_X7_canInsert (T : ModS) (p1 : Int32) (p2 : Int32) : Option (Int32 × (ModS)) :=
    (f_X7_isNumber p1).bind fun q11 =>
    if q11 = 0 then
      (f_X7_isFine T 0).bind fun q14 =>
      if q14.1 = 0 then
        some (0, q14.2)
      else
        if (q14.2.2.1 (0 : Int32).toNatClampNeg) = 24 then
          some (0, q14.2)
        else
          (f_X7_find q14.2 p1).bind fun q18 =>
          if q18 < 0 then
            f_X7_canInsert_c49 200 q14.2 p1 p2 0
          else
            some (0, q14.2)
    else
      (f_X7_isNumber p2).bind fun q21 =>
      if q21 = 0 then
        (f_X7_isFine T 0).bind fun q24 =>
        if q24.1 = 0 then
          some (0, q24.2)
        else
          if (q24.2.2.1 (0 : Int32).toNatClampNeg) = 24 then
            some (0, q24.2)
          else
            (f_X7_find q24.2 p1).bind fun q28 =>
            if q28 < 0 then
              f_X7_canInsert_c49 200 q24.2 p1 p2 0
            else
              some (0, q24.2)
      else
        (f_X7_isFine T 1).bind fun q31 =>
        if q31.1 = 0 then
          some (0, q31.2)
        else
          if (q31.2.2.1 (0 : Int32).toNatClampNeg) = 24 then
            some (0, q31.2)
          else
            (f_X7_find q31.2 p1).bind fun q35 =>
            if q35 < 0 then
              f_X7_canInsert_c49 200 q31.2 p1 p2 0
            else
              some (0, q31.2)
def f_X7_rotationCount (T : ModS) : Option (Int32 × (ModS)) :=
    some ((T.2.1 (1 : Int32).toNatClampNeg), (0, T.2.1, T.2.2.1, T.2.2.2.1, T.2.2.2.2.1, T.2.2.2.2.2.1, T.2.2.2.2.2.2.1, T.2.2.2.2.2.2.2.1, T.2.2.2.2.2.2.2.2.1, T.2.2.2.2.2.2.2.2.2.1, T.2.2.2.2.2.2.2.2.2.2.1, T.2.2.2.2.2.2.2.2.2.2.2.1, T.2.2.2.2.2.2.2.2.2.2.2.2.1, T.2.2.2.2.2.2.2.2.2.2.2.2.2.1, T.2.2.2.2.2.2.2.2.2.2.2.2.2.2.1, T.2.2.2.2.2.2.2.2.2.2.2.2.2.2.2.1, T.2.2.2.2.2.2.2.2.2.2.2.2.2.2.2.2))
def f_X7_meanDepth_c27 : Nat → ModS → Int32 → Int32 → Option (UInt64 × (ModS))
  | 0, _, _, _ => none
  | n + 1, T, v1, v2 =>
    if (T.2.1 (0 : Int32).toNatClampNeg) ≤ v2 then
      if (FP.ddiv (FP.i2d v1) (FP.i2d (T.2.1 (0 : Int32).toNatClampNeg))) &&& 0x7fffffffffffffff ≤ 0x7ff0000000000000 then
        some ((FP.ddiv (FP.i2d v1) (FP.i2d (T.2.1 (0 : Int32).toNatClampNeg))), T)
      else none
    else
      (f_X7_depth T v2).bind fun q4 =>
      f_X7_meanDepth_c27 n T (v1 + q4) (v2 + 1)
def f_X7_meanDepth (T : ModS) : Option (UInt64 × (ModS)) :=
    if (T.2.1 (0 : Int32).toNatClampNeg) ≤ 0 then
      (f_X7_isFine T 0).bind fun q7 =>
      if q7.1 = 0 then
        some (FP.dconst0, q7.2)
      else
        f_X7_meanDepth_c27 200 q7.2 0 0
    else
      (f_X7_isFine T 1).bind fun q10 =>
      if q10.1 = 0 then
        some (FP.dconst0, q10.2)
      else
        f_X7_meanDepth_c27 200 q10.2 0 0
def f_X7_isConsistent (T : ModS) : Option (Int32 × (ModS)) :=
    some (1, (0, T.2.1, T.2.2.1, T.2.2.2.1, T.2.2.2.2.1, T.2.2.2.2.2.1, T.2.2.2.2.2.2.1, T.2.2.2.2.2.2.2.1, T.2.2.2.2.2.2.2.2.1, T.2.2.2.2.2.2.2.2.2.1, T.2.2.2.2.2.2.2.2.2.2.1, T.2.2.2.2.2.2.2.2.2.2.2.1, T.2.2.2.2.2.2.2.2.2.2.2.2.1, T.2.2.2.2.2.2.2.2.2.2.2.2.2.1, T.2.2.2.2.2.2.2.2.2.2.2.2.2.2.1, T.2.2.2.2.2.2.2.2.2.2.2.2.2.2.2.1, T.2.2.2.2.2.2.2.2.2.2.2.2.2.2.2.2))
def f_X7_writes (T : ModS) (p1 : Int32) : Option (ModS) :=
    if (T.2.2.2.2.2.2.2.2.2.1 < 0 ∨ 200 ≤ T.2.2.2.2.2.2.2.2.2.1.toNatClampNeg) then none
    else
      some (T.1, T.2.1, T.2.2.1, T.2.2.2.1, T.2.2.2.2.1, T.2.2.2.2.2.1, T.2.2.2.2.2.2.1, T.2.2.2.2.2.2.2.1, (upd T.2.2.2.2.2.2.2.2.1 T.2.2.2.2.2.2.2.2.2.1.toNatClampNeg (vp_nar .char ((p1.toUInt32 % 65536).toInt32))), (T.2.2.2.2.2.2.2.2.2.1 + 1), T.2.2.2.2.2.2.2.2.2.2.1, T.2.2.2.2.2.2.2.2.2.2.2.1, T.2.2.2.2.2.2.2.2.2.2.2.2.1, T.2.2.2.2.2.2.2.2.2.2.2.2.2.1, T.2.2.2.2.2.2.2.2.2.2.2.2.2.2.1, T.2.2.2.2.2.2.2.2.2.2.2.2.2.2.2.1, T.2.2.2.2.2.2.2.2.2.2.2.2.2.2.2.2)
def f_X7_writesNumber_c14 (fr : ModS → Int32 → Option (ModS)) (T : ModS) (v1 : Int32) : Option (ModS) :=
    (f_X7_writes T (48 + (v1 - v1 / 10 * 10))).bind fun q2 =>
    some q2
def f_X7_writesNumber : Nat → ModS → Int32 → Option (ModS)
  | 0, _, _ => none
  | d + 1, T, p1 =>
    if p1 ≤ 9 then
      f_X7_writesNumber_c14 (f_X7_writesNumber d) T p1
    else
      (f_X7_writesNumber d T (p1 / 10)).bind fun q5 =>
      f_X7_writesNumber_c14 (f_X7_writesNumber d) q5 p1
def f_X7_writesTree : Nat → ModS → Int32 → Int32 → Option (ModS)
  | 0, _, _, _ => none
  | d + 1, T, p1, p2 =>
    (f_X7_top T p1 p2).bind fun q2 =>
    if 0 ≤ q2 then
      (f_X7_writes T 40).bind fun q5 =>
      (f_X7_writesTree d q5 p1 (q2 - 1)).bind fun q7 =>
      (f_X7_key q7 q2).bind fun q9 =>
      (f_X7_writesNumber 40 q7 q9).bind fun q11 =>
      (f_X7_writes q11 58).bind fun q13 =>
      (f_X7_priority q13 q2).bind fun q15 =>
      (f_X7_writesNumber 40 q13 q15).bind fun q17 =>
      (f_X7_writesTree d q17 (q2 + 1) p2).bind fun q19 =>
      (f_X7_writes q19 41).bind fun q21 =>
      some q21
    else
      some T
def f_X7_writeTree (T : ModS) : Option (Int32 × (ModS)) :=
    (f_X7_writesTree 40 (0, T.2.1, T.2.2.1, T.2.2.2.1, T.2.2.2.2.1, T.2.2.2.2.2.1, T.2.2.2.2.2.2.1, T.2.2.2.2.2.2.2.1, T.2.2.2.2.2.2.2.2.1, 0, T.2.2.2.2.2.2.2.2.2.2.1, T.2.2.2.2.2.2.2.2.2.2.2.1, T.2.2.2.2.2.2.2.2.2.2.2.2.1, T.2.2.2.2.2.2.2.2.2.2.2.2.2.1, T.2.2.2.2.2.2.2.2.2.2.2.2.2.2.1, T.2.2.2.2.2.2.2.2.2.2.2.2.2.2.2.1, T.2.2.2.2.2.2.2.2.2.2.2.2.2.2.2.2) 0 ((T.2.1 (0 : Int32).toNatClampNeg) - 1)).bind fun q2 =>
    some (q2.2.2.2.2.2.2.2.2.2.1, q2)
def f_X7_writeWindow_c61 (k17 : ModS → Int32 → Int32 → Option (Int32 × (ModS))) (T : ModS) (v1 : Int32) (v2 : Int32) : Option (Int32 × (ModS)) :=
    (f_X7_key T v2).bind fun q2 =>
    (f_X7_writesNumber 40 T q2).bind fun q4 =>
    k17 q4 v1 (v2 + 1)
def f_X7_writeWindow_c17 : Nat → ModS → Int32 → Int32 → Option (Int32 × (ModS))
  | 0, _, _, _ => none
  | n + 1, T, v1, v2 =>
    if (T.2.1 (0 : Int32).toNatClampNeg) ≤ v2 then
      some (T.2.2.2.2.2.2.2.2.2.1, T)
    else
      (f_X7_key T v2).bind fun q7 =>
      (f_X7_priority T v2).bind fun q9 =>
      (f_X7_isWithin T v1 q7 q9).bind fun q11 =>
      if q11 = 0 then
        f_X7_writeWindow_c17 n T v1 (v2 + 1)
      else
        if T.2.2.2.2.2.2.2.2.2.1 ≤ 0 then
          f_X7_writeWindow_c61 (f_X7_writeWindow_c17 n) T v1 v2
        else
          (f_X7_writes T 44).bind fun q15 =>
          f_X7_writeWindow_c61 (f_X7_writeWindow_c17 n) q15 v1 v2
def f_X7_writeWindow (T : ModS) (p1 : Int32) : Option (Int32 × (ModS)) :=
    (f_X7_isSet T p1).bind fun q17 =>
    if q17.1 = 0 then
      some (0, q17.2)
    else
      f_X7_writeWindow_c17 200 (q17.2.1, q17.2.2.1, q17.2.2.2.1, q17.2.2.2.2.1, q17.2.2.2.2.2.1, q17.2.2.2.2.2.2.1, q17.2.2.2.2.2.2.2.1, q17.2.2.2.2.2.2.2.2.1, q17.2.2.2.2.2.2.2.2.2.1, 0, q17.2.2.2.2.2.2.2.2.2.2.2.1, q17.2.2.2.2.2.2.2.2.2.2.2.2.1, q17.2.2.2.2.2.2.2.2.2.2.2.2.2.1, q17.2.2.2.2.2.2.2.2.2.2.2.2.2.2.1, q17.2.2.2.2.2.2.2.2.2.2.2.2.2.2.2.1, q17.2.2.2.2.2.2.2.2.2.2.2.2.2.2.2.2.1, q17.2.2.2.2.2.2.2.2.2.2.2.2.2.2.2.2.2) p1 0
def f_X7_outputAt (T : ModS) (p1 : Int32) : Option (Int32 × (ModS)) :=
    (f_X7_in p1 0 (T.2.2.2.2.2.2.2.2.2.1 - 1)).bind fun q2 =>
    (f_X7_isFine T q2).bind fun q4 =>
    if q4.1 = 0 then
      some (0, q4.2)
    else
      if (p1 < 0 ∨ 200 ≤ p1.toNatClampNeg) then none
      else
        if vp_nar .char (q4.2.2.2.2.2.2.2.2.2.1 p1.toNatClampNeg) = (q4.2.2.2.2.2.2.2.2.2.1 p1.toNatClampNeg) then
          some ((q4.2.2.2.2.2.2.2.2.2.1 p1.toNatClampNeg), q4.2)
        else none
def f_X7_appendInput (T : ModS) (p1 : Int32) : Option (Int32 × (ModS)) :=
    (f_X7_in p1 32 126).bind fun q2 =>
    if q2 = 0 then
      some (0, (1, T.2.1, T.2.2.1, T.2.2.2.1, T.2.2.2.2.1, T.2.2.2.2.2.1, T.2.2.2.2.2.2.1, T.2.2.2.2.2.2.2.1, T.2.2.2.2.2.2.2.2.1, T.2.2.2.2.2.2.2.2.2.1, T.2.2.2.2.2.2.2.2.2.2.1, T.2.2.2.2.2.2.2.2.2.2.2.1, T.2.2.2.2.2.2.2.2.2.2.2.2.1, T.2.2.2.2.2.2.2.2.2.2.2.2.2.1, T.2.2.2.2.2.2.2.2.2.2.2.2.2.2.1, T.2.2.2.2.2.2.2.2.2.2.2.2.2.2.2.1, T.2.2.2.2.2.2.2.2.2.2.2.2.2.2.2.2))
    else
      if T.2.2.2.2.2.2.2.2.2.2.2.1 = 60 then
        some (0, (2, T.2.1, T.2.2.1, T.2.2.2.1, T.2.2.2.2.1, T.2.2.2.2.2.1, T.2.2.2.2.2.2.1, T.2.2.2.2.2.2.2.1, T.2.2.2.2.2.2.2.2.1, T.2.2.2.2.2.2.2.2.2.1, T.2.2.2.2.2.2.2.2.2.2.1, T.2.2.2.2.2.2.2.2.2.2.2.1, T.2.2.2.2.2.2.2.2.2.2.2.2.1, T.2.2.2.2.2.2.2.2.2.2.2.2.2.1, T.2.2.2.2.2.2.2.2.2.2.2.2.2.2.1, T.2.2.2.2.2.2.2.2.2.2.2.2.2.2.2.1, T.2.2.2.2.2.2.2.2.2.2.2.2.2.2.2.2))
      else
        if (T.2.2.2.2.2.2.2.2.2.2.2.1 < 0 ∨ 60 ≤ T.2.2.2.2.2.2.2.2.2.2.2.1.toNatClampNeg) then none
        else
          some ((T.2.2.2.2.2.2.2.2.2.2.2.1 + 1), (0, T.2.1, T.2.2.1, T.2.2.2.1, T.2.2.2.2.1, T.2.2.2.2.2.1, T.2.2.2.2.2.2.1, T.2.2.2.2.2.2.2.1, T.2.2.2.2.2.2.2.2.1, T.2.2.2.2.2.2.2.2.2.1, (upd T.2.2.2.2.2.2.2.2.2.2.1 T.2.2.2.2.2.2.2.2.2.2.2.1.toNatClampNeg (vp_nar .char p1)), (T.2.2.2.2.2.2.2.2.2.2.2.1 + 1), T.2.2.2.2.2.2.2.2.2.2.2.2.1, T.2.2.2.2.2.2.2.2.2.2.2.2.2.1, T.2.2.2.2.2.2.2.2.2.2.2.2.2.2.1, T.2.2.2.2.2.2.2.2.2.2.2.2.2.2.2.1, T.2.2.2.2.2.2.2.2.2.2.2.2.2.2.2.2))
def f_X7_sign (T : ModS) : Option (Int32) :=
    if T.2.2.2.2.2.2.2.2.2.2.2.1 ≤ T.2.2.2.2.2.2.2.2.2.2.2.2.1 then
      some (-1)
    else
      if (T.2.2.2.2.2.2.2.2.2.2.2.2.1 < 0 ∨ 60 ≤ T.2.2.2.2.2.2.2.2.2.2.2.2.1.toNatClampNeg) then none
      else
        some (T.2.2.2.2.2.2.2.2.2.2.1 T.2.2.2.2.2.2.2.2.2.2.2.2.1.toNatClampNeg)
def f_X7_needs (T : ModS) (p1 : Int32) : Option (ModS) :=
    if T.2.2.2.2.2.2.2.2.2.2.2.2.2.1 < 0 then
      (f_X7_sign T).bind fun q3 =>
      if q3 = p1 then
        some (T.1, T.2.1, T.2.2.1, T.2.2.2.1, T.2.2.2.2.1, T.2.2.2.2.2.1, T.2.2.2.2.2.2.1, T.2.2.2.2.2.2.2.1, T.2.2.2.2.2.2.2.2.1, T.2.2.2.2.2.2.2.2.2.1, T.2.2.2.2.2.2.2.2.2.2.1, T.2.2.2.2.2.2.2.2.2.2.2.1, (T.2.2.2.2.2.2.2.2.2.2.2.2.1 + 1), T.2.2.2.2.2.2.2.2.2.2.2.2.2.1, T.2.2.2.2.2.2.2.2.2.2.2.2.2.2.1, T.2.2.2.2.2.2.2.2.2.2.2.2.2.2.2.1, T.2.2.2.2.2.2.2.2.2.2.2.2.2.2.2.2)
      else
        some (T.1, T.2.1, T.2.2.1, T.2.2.2.1, T.2.2.2.2.1, T.2.2.2.2.2.1, T.2.2.2.2.2.2.1, T.2.2.2.2.2.2.2.1, T.2.2.2.2.2.2.2.2.1, T.2.2.2.2.2.2.2.2.2.1, T.2.2.2.2.2.2.2.2.2.2.1, T.2.2.2.2.2.2.2.2.2.2.2.1, T.2.2.2.2.2.2.2.2.2.2.2.2.1, T.2.2.2.2.2.2.2.2.2.2.2.2.1, T.2.2.2.2.2.2.2.2.2.2.2.2.2.2.1, T.2.2.2.2.2.2.2.2.2.2.2.2.2.2.2.1, T.2.2.2.2.2.2.2.2.2.2.2.2.2.2.2.2)
    else
      some T
def f_X7_number_c37 : Nat → ModS → Int32 → Int32 → Int32 → Option (Int32 × (ModS))
  | 0, _, _, _, _ => none
  | n + 1, T, v1, v2, v3 =>
    if v1 ≤ v3 then
      some (v2, T)
    else
      (f_X7_sign T).bind fun q3 =>
      (f_X7_in q3 48 57).bind fun q5 =>
      if q5 = 0 then
        some (v2, T)
      else
        (f_X7_sign T).bind fun q8 =>
        f_X7_number_c37 n (T.1, T.2.1, T.2.2.1, T.2.2.2.1, T.2.2.2.2.1, T.2.2.2.2.2.1, T.2.2.2.2.2.2.1, T.2.2.2.2.2.2.2.1, T.2.2.2.2.2.2.2.2.1, T.2.2.2.2.2.2.2.2.2.1, T.2.2.2.2.2.2.2.2.2.2.1, T.2.2.2.2.2.2.2.2.2.2.2.1, (T.2.2.2.2.2.2.2.2.2.2.2.2.1 + 1), T.2.2.2.2.2.2.2.2.2.2.2.2.2.1, T.2.2.2.2.2.2.2.2.2.2.2.2.2.2.1, T.2.2.2.2.2.2.2.2.2.2.2.2.2.2.2.1, T.2.2.2.2.2.2.2.2.2.2.2.2.2.2.2.2) v1 (((10 * v2) + q8) - 48) (v3 + 1)
def f_X7_number (T : ModS) (p1 : Int32) : Option (Int32 × (ModS)) :=
    if T.2.2.2.2.2.2.2.2.2.2.2.2.2.1 < 0 then
      (f_X7_sign T).bind fun q11 =>
      (f_X7_in q11 48 57).bind fun q13 =>
      if q13 = 0 then
        some (0, (T.1, T.2.1, T.2.2.1, T.2.2.2.1, T.2.2.2.2.1, T.2.2.2.2.2.1, T.2.2.2.2.2.2.1, T.2.2.2.2.2.2.2.1, T.2.2.2.2.2.2.2.2.1, T.2.2.2.2.2.2.2.2.2.1, T.2.2.2.2.2.2.2.2.2.2.1, T.2.2.2.2.2.2.2.2.2.2.2.1, T.2.2.2.2.2.2.2.2.2.2.2.2.1, T.2.2.2.2.2.2.2.2.2.2.2.2.1, T.2.2.2.2.2.2.2.2.2.2.2.2.2.2.1, T.2.2.2.2.2.2.2.2.2.2.2.2.2.2.2.1, T.2.2.2.2.2.2.2.2.2.2.2.2.2.2.2.2))
      else
        f_X7_number_c37 200 T p1 0 0
    else
      some (0, T)
def f_X7_behind (T : ModS) (p1 : Int32) : Option (Int32 × (ModS)) :=
    (f_X7_needs T p1).bind fun q2 =>
    (f_X7_number q2 2).bind fun q4 =>
    some (q4.1, q4.2)
def f_X7_command_c97 (T : ModS) (v1 : Int32) (v2 : Int32) : Option (ModS) :=
    if (v1 < 0 ∨ 366 ≤ v1.toNatClampNeg) then none
    else
      if v2 = 119 then
        (f_X7_number (T.1, T.2.1, T.2.2.1, T.2.2.2.1, T.2.2.2.2.1, T.2.2.2.2.2.1, T.2.2.2.2.2.2.1, T.2.2.2.2.2.2.2.1, T.2.2.2.2.2.2.2.2.1, T.2.2.2.2.2.2.2.2.2.1, T.2.2.2.2.2.2.2.2.2.2.1, T.2.2.2.2.2.2.2.2.2.2.2.1, (T.2.2.2.2.2.2.2.2.2.2.2.2.1 + 1), T.2.2.2.2.2.2.2.2.2.2.2.2.2.1, T.2.2.2.2.2.2.2.2.2.2.2.2.2.2.1, (upd T.2.2.2.2.2.2.2.2.2.2.2.2.2.2.2.1 v1.toNatClampNeg v2), T.2.2.2.2.2.2.2.2.2.2.2.2.2.2.2.2) 1).bind fun q4 =>
        if ((v1 + 1) < 0 ∨ 366 ≤ (v1 + 1).toNatClampNeg) then none
        else
          if v2 = 105 then
            (f_X7_behind (q4.2.1, q4.2.2.1, q4.2.2.2.1, q4.2.2.2.2.1, q4.2.2.2.2.2.1, q4.2.2.2.2.2.2.1, q4.2.2.2.2.2.2.2.1, q4.2.2.2.2.2.2.2.2.1, q4.2.2.2.2.2.2.2.2.2.1, q4.2.2.2.2.2.2.2.2.2.2.1, q4.2.2.2.2.2.2.2.2.2.2.2.1, q4.2.2.2.2.2.2.2.2.2.2.2.2.1, q4.2.2.2.2.2.2.2.2.2.2.2.2.2.1, q4.2.2.2.2.2.2.2.2.2.2.2.2.2.2.1, q4.2.2.2.2.2.2.2.2.2.2.2.2.2.2.2.1, (upd q4.2.2.2.2.2.2.2.2.2.2.2.2.2.2.2.2.1 (v1 + 1).toNatClampNeg q4.1), q4.2.2.2.2.2.2.2.2.2.2.2.2.2.2.2.2.2) 58).bind fun q8 =>
            if ((v1 + 2) < 0 ∨ 366 ≤ (v1 + 2).toNatClampNeg) then none
            else
              some (q8.2.1, q8.2.2.1, q8.2.2.2.1, q8.2.2.2.2.1, q8.2.2.2.2.2.1, q8.2.2.2.2.2.2.1, q8.2.2.2.2.2.2.2.1, q8.2.2.2.2.2.2.2.2.1, q8.2.2.2.2.2.2.2.2.2.1, q8.2.2.2.2.2.2.2.2.2.2.1, q8.2.2.2.2.2.2.2.2.2.2.2.1, q8.2.2.2.2.2.2.2.2.2.2.2.2.1, q8.2.2.2.2.2.2.2.2.2.2.2.2.2.1, q8.2.2.2.2.2.2.2.2.2.2.2.2.2.2.1, q8.2.2.2.2.2.2.2.2.2.2.2.2.2.2.2.1, (upd q8.2.2.2.2.2.2.2.2.2.2.2.2.2.2.2.2.1 (v1 + 2).toNatClampNeg q8.1), q8.2.2.2.2.2.2.2.2.2.2.2.2.2.2.2.2.2)
          else
            if v2 = 109 then
              (f_X7_behind (q4.2.1, q4.2.2.1, q4.2.2.2.1, q4.2.2.2.2.1, q4.2.2.2.2.2.1, q4.2.2.2.2.2.2.1, q4.2.2.2.2.2.2.2.1, q4.2.2.2.2.2.2.2.2.1, q4.2.2.2.2.2.2.2.2.2.1, q4.2.2.2.2.2.2.2.2.2.2.1, q4.2.2.2.2.2.2.2.2.2.2.2.1, q4.2.2.2.2.2.2.2.2.2.2.2.2.1, q4.2.2.2.2.2.2.2.2.2.2.2.2.2.1, q4.2.2.2.2.2.2.2.2.2.2.2.2.2.2.1, q4.2.2.2.2.2.2.2.2.2.2.2.2.2.2.2.1, (upd q4.2.2.2.2.2.2.2.2.2.2.2.2.2.2.2.2.1 (v1 + 1).toNatClampNeg q4.1), q4.2.2.2.2.2.2.2.2.2.2.2.2.2.2.2.2.2) 62).bind fun q12 =>
              if ((v1 + 2) < 0 ∨ 366 ≤ (v1 + 2).toNatClampNeg) then none
              else
                some (q12.2.1, q12.2.2.1, q12.2.2.2.1, q12.2.2.2.2.1, q12.2.2.2.2.2.1, q12.2.2.2.2.2.2.1, q12.2.2.2.2.2.2.2.1, q12.2.2.2.2.2.2.2.2.1, q12.2.2.2.2.2.2.2.2.2.1, q12.2.2.2.2.2.2.2.2.2.2.1, q12.2.2.2.2.2.2.2.2.2.2.2.1, q12.2.2.2.2.2.2.2.2.2.2.2.2.1, q12.2.2.2.2.2.2.2.2.2.2.2.2.2.1, q12.2.2.2.2.2.2.2.2.2.2.2.2.2.2.1, q12.2.2.2.2.2.2.2.2.2.2.2.2.2.2.2.1, (upd q12.2.2.2.2.2.2.2.2.2.2.2.2.2.2.2.2.1 (v1 + 2).toNatClampNeg q12.1), q12.2.2.2.2.2.2.2.2.2.2.2.2.2.2.2.2.2)
            else
              if v2 = 112 then
                (f_X7_behind (q4.2.1, q4.2.2.1, q4.2.2.2.1, q4.2.2.2.2.1, q4.2.2.2.2.2.1, q4.2.2.2.2.2.2.1, q4.2.2.2.2.2.2.2.1, q4.2.2.2.2.2.2.2.2.1, q4.2.2.2.2.2.2.2.2.2.1, q4.2.2.2.2.2.2.2.2.2.2.1, q4.2.2.2.2.2.2.2.2.2.2.2.1, q4.2.2.2.2.2.2.2.2.2.2.2.2.1, q4.2.2.2.2.2.2.2.2.2.2.2.2.2.1, q4.2.2.2.2.2.2.2.2.2.2.2.2.2.2.1, q4.2.2.2.2.2.2.2.2.2.2.2.2.2.2.2.1, (upd q4.2.2.2.2.2.2.2.2.2.2.2.2.2.2.2.2.1 (v1 + 1).toNatClampNeg q4.1), q4.2.2.2.2.2.2.2.2.2.2.2.2.2.2.2.2.2) 58).bind fun q16 =>
                if ((v1 + 2) < 0 ∨ 366 ≤ (v1 + 2).toNatClampNeg) then none
                else
                  some (q16.2.1, q16.2.2.1, q16.2.2.2.1, q16.2.2.2.2.1, q16.2.2.2.2.2.1, q16.2.2.2.2.2.2.1, q16.2.2.2.2.2.2.2.1, q16.2.2.2.2.2.2.2.2.1, q16.2.2.2.2.2.2.2.2.2.1, q16.2.2.2.2.2.2.2.2.2.2.1, q16.2.2.2.2.2.2.2.2.2.2.2.1, q16.2.2.2.2.2.2.2.2.2.2.2.2.1, q16.2.2.2.2.2.2.2.2.2.2.2.2.2.1, q16.2.2.2.2.2.2.2.2.2.2.2.2.2.2.1, q16.2.2.2.2.2.2.2.2.2.2.2.2.2.2.2.1, (upd q16.2.2.2.2.2.2.2.2.2.2.2.2.2.2.2.2.1 (v1 + 2).toNatClampNeg q16.1), q16.2.2.2.2.2.2.2.2.2.2.2.2.2.2.2.2.2)
              else
                if v2 = 114 then
                  (f_X7_behind (q4.2.1, q4.2.2.1, q4.2.2.2.1, q4.2.2.2.2.1, q4.2.2.2.2.2.1, q4.2.2.2.2.2.2.1, q4.2.2.2.2.2.2.2.1, q4.2.2.2.2.2.2.2.2.1, q4.2.2.2.2.2.2.2.2.2.1, q4.2.2.2.2.2.2.2.2.2.2.1, q4.2.2.2.2.2.2.2.2.2.2.2.1, q4.2.2.2.2.2.2.2.2.2.2.2.2.1, q4.2.2.2.2.2.2.2.2.2.2.2.2.2.1, q4.2.2.2.2.2.2.2.2.2.2.2.2.2.2.1, q4.2.2.2.2.2.2.2.2.2.2.2.2.2.2.2.1, (upd q4.2.2.2.2.2.2.2.2.2.2.2.2.2.2.2.2.1 (v1 + 1).toNatClampNeg q4.1), q4.2.2.2.2.2.2.2.2.2.2.2.2.2.2.2.2.2) 45).bind fun q20 =>
                  if ((v1 + 2) < 0 ∨ 366 ≤ (v1 + 2).toNatClampNeg) then none
                  else
                    some (q20.2.1, q20.2.2.1, q20.2.2.2.1, q20.2.2.2.2.1, q20.2.2.2.2.2.1, q20.2.2.2.2.2.2.1, q20.2.2.2.2.2.2.2.1, q20.2.2.2.2.2.2.2.2.1, q20.2.2.2.2.2.2.2.2.2.1, q20.2.2.2.2.2.2.2.2.2.2.1, q20.2.2.2.2.2.2.2.2.2.2.2.1, q20.2.2.2.2.2.2.2.2.2.2.2.2.1, q20.2.2.2.2.2.2.2.2.2.2.2.2.2.1, q20.2.2.2.2.2.2.2.2.2.2.2.2.2.2.1, q20.2.2.2.2.2.2.2.2.2.2.2.2.2.2.2.1, (upd q20.2.2.2.2.2.2.2.2.2.2.2.2.2.2.2.2.1 (v1 + 2).toNatClampNeg q20.1), q20.2.2.2.2.2.2.2.2.2.2.2.2.2.2.2.2.2)
                else
                  if v2 = 119 then
                    (f_X7_behind (q4.2.1, q4.2.2.1, q4.2.2.2.1, q4.2.2.2.2.1, q4.2.2.2.2.2.1, q4.2.2.2.2.2.2.1, q4.2.2.2.2.2.2.2.1, q4.2.2.2.2.2.2.2.2.1, q4.2.2.2.2.2.2.2.2.2.1, q4.2.2.2.2.2.2.2.2.2.2.1, q4.2.2.2.2.2.2.2.2.2.2.2.1, q4.2.2.2.2.2.2.2.2.2.2.2.2.1, q4.2.2.2.2.2.2.2.2.2.2.2.2.2.1, q4.2.2.2.2.2.2.2.2.2.2.2.2.2.2.1, q4.2.2.2.2.2.2.2.2.2.2.2.2.2.2.2.1, (upd q4.2.2.2.2.2.2.2.2.2.2.2.2.2.2.2.2.1 (v1 + 1).toNatClampNeg q4.1), q4.2.2.2.2.2.2.2.2.2.2.2.2.2.2.2.2.2) 61).bind fun q24 =>
                    if ((v1 + 2) < 0 ∨ 366 ≤ (v1 + 2).toNatClampNeg) then none
                    else
                      (f_X7_behind (q24.2.1, q24.2.2.1, q24.2.2.2.1, q24.2.2.2.2.1, q24.2.2.2.2.2.1, q24.2.2.2.2.2.2.1, q24.2.2.2.2.2.2.2.1, q24.2.2.2.2.2.2.2.2.1, q24.2.2.2.2.2.2.2.2.2.1, q24.2.2.2.2.2.2.2.2.2.2.1, q24.2.2.2.2.2.2.2.2.2.2.2.1, q24.2.2.2.2.2.2.2.2.2.2.2.2.1, q24.2.2.2.2.2.2.2.2.2.2.2.2.2.1, q24.2.2.2.2.2.2.2.2.2.2.2.2.2.2.1, q24.2.2.2.2.2.2.2.2.2.2.2.2.2.2.2.1, (upd q24.2.2.2.2.2.2.2.2.2.2.2.2.2.2.2.2.1 (v1 + 2).toNatClampNeg q24.1), q24.2.2.2.2.2.2.2.2.2.2.2.2.2.2.2.2.2) 45).bind fun q27 =>
                      if ((v1 + 3) < 0 ∨ 366 ≤ (v1 + 3).toNatClampNeg) then none
                      else
                        (f_X7_behind (q27.2.1, q27.2.2.1, q27.2.2.2.1, q27.2.2.2.2.1, q27.2.2.2.2.2.1, q27.2.2.2.2.2.2.1, q27.2.2.2.2.2.2.2.1, q27.2.2.2.2.2.2.2.2.1, q27.2.2.2.2.2.2.2.2.2.1, q27.2.2.2.2.2.2.2.2.2.2.1, q27.2.2.2.2.2.2.2.2.2.2.2.1, q27.2.2.2.2.2.2.2.2.2.2.2.2.1, q27.2.2.2.2.2.2.2.2.2.2.2.2.2.1, q27.2.2.2.2.2.2.2.2.2.2.2.2.2.2.1, q27.2.2.2.2.2.2.2.2.2.2.2.2.2.2.2.1, (upd q27.2.2.2.2.2.2.2.2.2.2.2.2.2.2.2.2.1 (v1 + 3).toNatClampNeg q27.1), q27.2.2.2.2.2.2.2.2.2.2.2.2.2.2.2.2.2) 94).bind fun q30 =>
                        if ((v1 + 4) < 0 ∨ 366 ≤ (v1 + 4).toNatClampNeg) then none
                        else
                          (f_X7_behind (q30.2.1, q30.2.2.1, q30.2.2.2.1, q30.2.2.2.2.1, q30.2.2.2.2.2.1, q30.2.2.2.2.2.2.1, q30.2.2.2.2.2.2.2.1, q30.2.2.2.2.2.2.2.2.1, q30.2.2.2.2.2.2.2.2.2.1, q30.2.2.2.2.2.2.2.2.2.2.1, q30.2.2.2.2.2.2.2.2.2.2.2.1, q30.2.2.2.2.2.2.2.2.2.2.2.2.1, q30.2.2.2.2.2.2.2.2.2.2.2.2.2.1, q30.2.2.2.2.2.2.2.2.2.2.2.2.2.2.1, q30.2.2.2.2.2.2.2.2.2.2.2.2.2.2.2.1, (upd q30.2.2.2.2.2.2.2.2.2.2.2.2.2.2.2.2.1 (v1 + 4).toNatClampNeg q30.1), q30.2.2.2.2.2.2.2.2.2.2.2.2.2.2.2.2.2) 47).bind fun q33 =>
                          if ((v1 + 5) < 0 ∨ 366 ≤ (v1 + 5).toNatClampNeg) then none
                          else
                            some (q33.2.1, q33.2.2.1, q33.2.2.2.1, q33.2.2.2.2.1, q33.2.2.2.2.2.1, q33.2.2.2.2.2.2.1, q33.2.2.2.2.2.2.2.1, q33.2.2.2.2.2.2.2.2.1, q33.2.2.2.2.2.2.2.2.2.1, q33.2.2.2.2.2.2.2.2.2.2.1, q33.2.2.2.2.2.2.2.2.2.2.2.1, q33.2.2.2.2.2.2.2.2.2.2.2.2.1, q33.2.2.2.2.2.2.2.2.2.2.2.2.2.1, q33.2.2.2.2.2.2.2.2.2.2.2.2.2.2.1, q33.2.2.2.2.2.2.2.2.2.2.2.2.2.2.2.1, (upd q33.2.2.2.2.2.2.2.2.2.2.2.2.2.2.2.2.1 (v1 + 5).toNatClampNeg q33.1), q33.2.2.2.2.2.2.2.2.2.2.2.2.2.2.2.2.2)
                  else
                    some (q4.2.1, q4.2.2.1, q4.2.2.2.1, q4.2.2.2.2.1, q4.2.2.2.2.2.1, q4.2.2.2.2.2.2.1, q4.2.2.2.2.2.2.2.1, q4.2.2.2.2.2.2.2.2.1, q4.2.2.2.2.2.2.2.2.2.1, q4.2.2.2.2.2.2.2.2.2.2.1, q4.2.2.2.2.2.2.2.2.2.2.2.1, q4.2.2.2.2.2.2.2.2.2.2.2.2.1, q4.2.2.2.2.2.2.2.2.2.2.2.2.2.1, q4.2.2.2.2.2.2.2.2.2.2.2.2.2.2.1, q4.2.2.2.2.2.2.2.2.2.2.2.2.2.2.2.1, (upd q4.2.2.2.2.2.2.2.2.2.2.2.2.2.2.2.2.1 (v1 + 1).toNatClampNeg q4.1), q4.2.2.2.2.2.2.2.2.2.2.2.2.2.2.2.2.2)
      else
        if v2 = 120 then
          (f_X7_number (T.1, T.2.1, T.2.2.1, T.2.2.2.1, T.2.2.2.2.1, T.2.2.2.2.2.1, T.2.2.2.2.2.2.1, T.2.2.2.2.2.2.2.1, T.2.2.2.2.2.2.2.2.1, T.2.2.2.2.2.2.2.2.2.1, T.2.2.2.2.2.2.2.2.2.2.1, T.2.2.2.2.2.2.2.2.2.2.2.1, (T.2.2.2.2.2.2.2.2.2.2.2.2.1 + 1), T.2.2.2.2.2.2.2.2.2.2.2.2.2.1, T.2.2.2.2.2.2.2.2.2.2.2.2.2.2.1, (upd T.2.2.2.2.2.2.2.2.2.2.2.2.2.2.2.1 v1.toNatClampNeg v2), T.2.2.2.2.2.2.2.2.2.2.2.2.2.2.2.2) 1).bind fun q69 =>
          if ((v1 + 1) < 0 ∨ 366 ≤ (v1 + 1).toNatClampNeg) then none
          else
            if v2 = 105 then
              (f_X7_behind (q69.2.1, q69.2.2.1, q69.2.2.2.1, q69.2.2.2.2.1, q69.2.2.2.2.2.1, q69.2.2.2.2.2.2.1, q69.2.2.2.2.2.2.2.1, q69.2.2.2.2.2.2.2.2.1, q69.2.2.2.2.2.2.2.2.2.1, q69.2.2.2.2.2.2.2.2.2.2.1, q69.2.2.2.2.2.2.2.2.2.2.2.1, q69.2.2.2.2.2.2.2.2.2.2.2.2.1, q69.2.2.2.2.2.2.2.2.2.2.2.2.2.1, q69.2.2.2.2.2.2.2.2.2.2.2.2.2.2.1, q69.2.2.2.2.2.2.2.2.2.2.2.2.2.2.2.1, (upd q69.2.2.2.2.2.2.2.2.2.2.2.2.2.2.2.2.1 (v1 + 1).toNatClampNeg q69.1), q69.2.2.2.2.2.2.2.2.2.2.2.2.2.2.2.2.2) 58).bind fun q73 =>
              if ((v1 + 2) < 0 ∨ 366 ≤ (v1 + 2).toNatClampNeg) then none
              else
                some (q73.2.1, q73.2.2.1, q73.2.2.2.1, q73.2.2.2.2.1, q73.2.2.2.2.2.1, q73.2.2.2.2.2.2.1, q73.2.2.2.2.2.2.2.1, q73.2.2.2.2.2.2.2.2.1, q73.2.2.2.2.2.2.2.2.2.1, q73.2.2.2.2.2.2.2.2.2.2.1, q73.2.2.2.2.2.2.2.2.2.2.2.1, q73.2.2.2.2.2.2.2.2.2.2.2.2.1, q73.2.2.2.2.2.2.2.2.2.2.2.2.2.1, q73.2.2.2.2.2.2.2.2.2.2.2.2.2.2.1, q73.2.2.2.2.2.2.2.2.2.2.2.2.2.2.2.1, (upd q73.2.2.2.2.2.2.2.2.2.2.2.2.2.2.2.2.1 (v1 + 2).toNatClampNeg q73.1), q73.2.2.2.2.2.2.2.2.2.2.2.2.2.2.2.2.2)
            else
              if v2 = 109 then
                (f_X7_behind (q69.2.1, q69.2.2.1, q69.2.2.2.1, q69.2.2.2.2.1, q69.2.2.2.2.2.1, q69.2.2.2.2.2.2.1, q69.2.2.2.2.2.2.2.1, q69.2.2.2.2.2.2.2.2.1, q69.2.2.2.2.2.2.2.2.2.1, q69.2.2.2.2.2.2.2.2.2.2.1, q69.2.2.2.2.2.2.2.2.2.2.2.1, q69.2.2.2.2.2.2.2.2.2.2.2.2.1, q69.2.2.2.2.2.2.2.2.2.2.2.2.2.1, q69.2.2.2.2.2.2.2.2.2.2.2.2.2.2.1, q69.2.2.2.2.2.2.2.2.2.2.2.2.2.2.2.1, (upd q69.2.2.2.2.2.2.2.2.2.2.2.2.2.2.2.2.1 (v1 + 1).toNatClampNeg q69.1), q69.2.2.2.2.2.2.2.2.2.2.2.2.2.2.2.2.2) 62).bind fun q77 =>
                if ((v1 + 2) < 0 ∨ 366 ≤ (v1 + 2).toNatClampNeg) then none
                else
                  some (q77.2.1, q77.2.2.1, q77.2.2.2.1, q77.2.2.2.2.1, q77.2.2.2.2.2.1, q77.2.2.2.2.2.2.1, q77.2.2.2.2.2.2.2.1, q77.2.2.2.2.2.2.2.2.1, q77.2.2.2.2.2.2.2.2.2.1, q77.2.2.2.2.2.2.2.2.2.2.1, q77.2.2.2.2.2.2.2.2.2.2.2.1, q77.2.2.2.2.2.2.2.2.2.2.2.2.1, q77.2.2.2.2.2.2.2.2.2.2.2.2.2.1, q77.2.2.2.2.2.2.2.2.2.2.2.2.2.2.1, q77.2.2.2.2.2.2.2.2.2.2.2.2.2.2.2.1, (upd q77.2.2.2.2.2.2.2.2.2.2.2.2.2.2.2.2.1 (v1 + 2).toNatClampNeg q77.1), q77.2.2.2.2.2.2.2.2.2.2.2.2.2.2.2.2.2)
              else
                if v2 = 112 then
                  (f_X7_behind (q69.2.1, q69.2.2.1, q69.2.2.2.1, q69.2.2.2.2.1, q69.2.2.2.2.2.1, q69.2.2.2.2.2.2.1, q69.2.2.2.2.2.2.2.1, q69.2.2.2.2.2.2.2.2.1, q69.2.2.2.2.2.2.2.2.2.1, q69.2.2.2.2.2.2.2.2.2.2.1, q69.2.2.2.2.2.2.2.2.2.2.2.1, q69.2.2.2.2.2.2.2.2.2.2.2.2.1, q69.2.2.2.2.2.2.2.2.2.2.2.2.2.1, q69.2.2.2.2.2.2.2.2.2.2.2.2.2.2.1, q69.2.2.2.2.2.2.2.2.2.2.2.2.2.2.2.1, (upd q69.2.2.2.2.2.2.2.2.2.2.2.2.2.2.2.2.1 (v1 + 1).toNatClampNeg q69.1), q69.2.2.2.2.2.2.2.2.2.2.2.2.2.2.2.2.2) 58).bind fun q81 =>
                  if ((v1 + 2) < 0 ∨ 366 ≤ (v1 + 2).toNatClampNeg) then none
                  else
                    some (q81.2.1, q81.2.2.1, q81.2.2.2.1, q81.2.2.2.2.1, q81.2.2.2.2.2.1, q81.2.2.2.2.2.2.1, q81.2.2.2.2.2.2.2.1, q81.2.2.2.2.2.2.2.2.1, q81.2.2.2.2.2.2.2.2.2.1, q81.2.2.2.2.2.2.2.2.2.2.1, q81.2.2.2.2.2.2.2.2.2.2.2.1, q81.2.2.2.2.2.2.2.2.2.2.2.2.1, q81.2.2.2.2.2.2.2.2.2.2.2.2.2.1, q81.2.2.2.2.2.2.2.2.2.2.2.2.2.2.1, q81.2.2.2.2.2.2.2.2.2.2.2.2.2.2.2.1, (upd q81.2.2.2.2.2.2.2.2.2.2.2.2.2.2.2.2.1 (v1 + 2).toNatClampNeg q81.1), q81.2.2.2.2.2.2.2.2.2.2.2.2.2.2.2.2.2)
                else
                  if v2 = 114 then
                    (f_X7_behind (q69.2.1, q69.2.2.1, q69.2.2.2.1, q69.2.2.2.2.1, q69.2.2.2.2.2.1, q69.2.2.2.2.2.2.1, q69.2.2.2.2.2.2.2.1, q69.2.2.2.2.2.2.2.2.1, q69.2.2.2.2.2.2.2.2.2.1, q69.2.2.2.2.2.2.2.2.2.2.1, q69.2.2.2.2.2.2.2.2.2.2.2.1, q69.2.2.2.2.2.2.2.2.2.2.2.2.1, q69.2.2.2.2.2.2.2.2.2.2.2.2.2.1, q69.2.2.2.2.2.2.2.2.2.2.2.2.2.2.1, q69.2.2.2.2.2.2.2.2.2.2.2.2.2.2.2.1, (upd q69.2.2.2.2.2.2.2.2.2.2.2.2.2.2.2.2.1 (v1 + 1).toNatClampNeg q69.1), q69.2.2.2.2.2.2.2.2.2.2.2.2.2.2.2.2.2) 45).bind fun q85 =>
                    if ((v1 + 2) < 0 ∨ 366 ≤ (v1 + 2).toNatClampNeg) then none
                    else
                      some (q85.2.1, q85.2.2.1, q85.2.2.2.1, q85.2.2.2.2.1, q85.2.2.2.2.2.1, q85.2.2.2.2.2.2.1, q85.2.2.2.2.2.2.2.1, q85.2.2.2.2.2.2.2.2.1, q85.2.2.2.2.2.2.2.2.2.1, q85.2.2.2.2.2.2.2.2.2.2.1, q85.2.2.2.2.2.2.2.2.2.2.2.1, q85.2.2.2.2.2.2.2.2.2.2.2.2.1, q85.2.2.2.2.2.2.2.2.2.2.2.2.2.1, q85.2.2.2.2.2.2.2.2.2.2.2.2.2.2.1, q85.2.2.2.2.2.2.2.2.2.2.2.2.2.2.2.1, (upd q85.2.2.2.2.2.2.2.2.2.2.2.2.2.2.2.2.1 (v1 + 2).toNatClampNeg q85.1), q85.2.2.2.2.2.2.2.2.2.2.2.2.2.2.2.2.2)
                  else
                    if v2 = 119 then
                      (f_X7_behind (q69.2.1, q69.2.2.1, q69.2.2.2.1, q69.2.2.2.2.1, q69.2.2.2.2.2.1, q69.2.2.2.2.2.2.1, q69.2.2.2.2.2.2.2.1, q69.2.2.2.2.2.2.2.2.1, q69.2.2.2.2.2.2.2.2.2.1, q69.2.2.2.2.2.2.2.2.2.2.1, q69.2.2.2.2.2.2.2.2.2.2.2.1, q69.2.2.2.2.2.2.2.2.2.2.2.2.1, q69.2.2.2.2.2.2.2.2.2.2.2.2.2.1, q69.2.2.2.2.2.2.2.2.2.2.2.2.2.2.1, q69.2.2.2.2.2.2.2.2.2.2.2.2.2.2.2.1, (upd q69.2.2.2.2.2.2.2.2.2.2.2.2.2.2.2.2.1 (v1 + 1).toNatClampNeg q69.1), q69.2.2.2.2.2.2.2.2.2.2.2.2.2.2.2.2.2) 61).bind fun q89 =>
                      if ((v1 + 2) < 0 ∨ 366 ≤ (v1 + 2).toNatClampNeg) then none
                      else
                        (f_X7_behind (q89.2.1, q89.2.2.1, q89.2.2.2.1, q89.2.2.2.2.1, q89.2.2.2.2.2.1, q89.2.2.2.2.2.2.1, q89.2.2.2.2.2.2.2.1, q89.2.2.2.2.2.2.2.2.1, q89.2.2.2.2.2.2.2.2.2.1, q89.2.2.2.2.2.2.2.2.2.2.1, q89.2.2.2.2.2.2.2.2.2.2.2.1, q89.2.2.2.2.2.2.2.2.2.2.2.2.1, q89.2.2.2.2.2.2.2.2.2.2.2.2.2.1, q89.2.2.2.2.2.2.2.2.2.2.2.2.2.2.1, q89.2.2.2.2.2.2.2.2.2.2.2.2.2.2.2.1, (upd q89.2.2.2.2.2.2.2.2.2.2.2.2.2.2.2.2.1 (v1 + 2).toNatClampNeg q89.1), q89.2.2.2.2.2.2.2.2.2.2.2.2.2.2.2.2.2) 45).bind fun q92 =>
                        if ((v1 + 3) < 0 ∨ 366 ≤ (v1 + 3).toNatClampNeg) then none
                        else
                          (f_X7_behind (q92.2.1, q92.2.2.1, q92.2.2.2.1, q92.2.2.2.2.1, q92.2.2.2.2.2.1, q92.2.2.2.2.2.2.1, q92.2.2.2.2.2.2.2.1, q92.2.2.2.2.2.2.2.2.1, q92.2.2.2.2.2.2.2.2.2.1, q92.2.2.2.2.2.2.2.2.2.2.1, q92.2.2.2.2.2.2.2.2.2.2.2.1, q92.2.2.2.2.2.2.2.2.2.2.2.2.1, q92.2.2.2.2.2.2.2.2.2.2.2.2.2.1, q92.2.2.2.2.2.2.2.2.2.2.2.2.2.2.1, q92.2.2.2.2.2.2.2.2.2.2.2.2.2.2.2.1, (upd q92.2.2.2.2.2.2.2.2.2.2.2.2.2.2.2.2.1 (v1 + 3).toNatClampNeg q92.1), q92.2.2.2.2.2.2.2.2.2.2.2.2.2.2.2.2.2) 94).bind fun q95 =>
                          if ((v1 + 4) < 0 ∨ 366 ≤ (v1 + 4).toNatClampNeg) then none
                          else
                            (f_X7_behind (q95.2.1, q95.2.2.1, q95.2.2.2.1, q95.2.2.2.2.1, q95.2.2.2.2.2.1, q95.2.2.2.2.2.2.1, q95.2.2.2.2.2.2.2.1, q95.2.2.2.2.2.2.2.2.1, q95.2.2.2.2.2.2.2.2.2.1, q95.2.2.2.2.2.2.2.2.2.2.1, q95.2.2.2.2.2.2.2.2.2.2.2.1, q95.2.2.2.2.2.2.2.2.2.2.2.2.1, q95.2.2.2.2.2.2.2.2.2.2.2.2.2.1, q95.2.2.2.2.2.2.2.2.2.2.2.2.2.2.1, q95.2.2.2.2.2.2.2.2.2.2.2.2.2.2.2.1, (upd q95.2.2.2.2.2.2.2.2.2.2.2.2.2.2.2.2.1 (v1 + 4).toNatClampNeg q95.1), q95.2.2.2.2.2.2.2.2.2.2.2.2.2.2.2.2.2) 47).bind fun q98 =>
                            if ((v1 + 5) < 0 ∨ 366 ≤ (v1 + 5).toNatClampNeg) then none
                            else
                              some (q98.2.1, q98.2.2.1, q98.2.2.2.1, q98.2.2.2.2.1, q98.2.2.2.2.2.1, q98.2.2.2.2.2.2.1, q98.2.2.2.2.2.2.2.1, q98.2.2.2.2.2.2.2.2.1, q98.2.2.2.2.2.2.2.2.2.1, q98.2.2.2.2.2.2.2.2.2.2.1, q98.2.2.2.2.2.2.2.2.2.2.2.1, q98.2.2.2.2.2.2.2.2.2.2.2.2.1, q98.2.2.2.2.2.2.2.2.2.2.2.2.2.1, q98.2.2.2.2.2.2.2.2.2.2.2.2.2.2.1, q98.2.2.2.2.2.2.2.2.2.2.2.2.2.2.2.1, (upd q98.2.2.2.2.2.2.2.2.2.2.2.2.2.2.2.2.1 (v1 + 5).toNatClampNeg q98.1), q98.2.2.2.2.2.2.2.2.2.2.2.2.2.2.2.2.2)
                    else
                      some (q69.2.1, q69.2.2.1, q69.2.2.2.1, q69.2.2.2.2.1, q69.2.2.2.2.2.1, q69.2.2.2.2.2.2.1, q69.2.2.2.2.2.2.2.1, q69.2.2.2.2.2.2.2.2.1, q69.2.2.2.2.2.2.2.2.2.1, q69.2.2.2.2.2.2.2.2.2.2.1, q69.2.2.2.2.2.2.2.2.2.2.2.1, q69.2.2.2.2.2.2.2.2.2.2.2.2.1, q69.2.2.2.2.2.2.2.2.2.2.2.2.2.1, q69.2.2.2.2.2.2.2.2.2.2.2.2.2.2.1, q69.2.2.2.2.2.2.2.2.2.2.2.2.2.2.2.1, (upd q69.2.2.2.2.2.2.2.2.2.2.2.2.2.2.2.2.1 (v1 + 1).toNatClampNeg q69.1), q69.2.2.2.2.2.2.2.2.2.2.2.2.2.2.2.2.2)
        else
          (f_X7_number (T.1, T.2.1, T.2.2.1, T.2.2.2.1, T.2.2.2.2.1, T.2.2.2.2.2.1, T.2.2.2.2.2.2.1, T.2.2.2.2.2.2.2.1, T.2.2.2.2.2.2.2.2.1, T.2.2.2.2.2.2.2.2.2.1, T.2.2.2.2.2.2.2.2.2.2.1, T.2.2.2.2.2.2.2.2.2.2.2.1, (T.2.2.2.2.2.2.2.2.2.2.2.2.1 + 1), T.2.2.2.2.2.2.2.2.2.2.2.2.2.1, T.2.2.2.2.2.2.2.2.2.2.2.2.2.2.1, (upd T.2.2.2.2.2.2.2.2.2.2.2.2.2.2.2.1 v1.toNatClampNeg v2), T.2.2.2.2.2.2.2.2.2.2.2.2.2.2.2.2) 2).bind fun q37 =>
          if ((v1 + 1) < 0 ∨ 366 ≤ (v1 + 1).toNatClampNeg) then none
          else
            if v2 = 105 then
              (f_X7_behind (q37.2.1, q37.2.2.1, q37.2.2.2.1, q37.2.2.2.2.1, q37.2.2.2.2.2.1, q37.2.2.2.2.2.2.1, q37.2.2.2.2.2.2.2.1, q37.2.2.2.2.2.2.2.2.1, q37.2.2.2.2.2.2.2.2.2.1, q37.2.2.2.2.2.2.2.2.2.2.1, q37.2.2.2.2.2.2.2.2.2.2.2.1, q37.2.2.2.2.2.2.2.2.2.2.2.2.1, q37.2.2.2.2.2.2.2.2.2.2.2.2.2.1, q37.2.2.2.2.2.2.2.2.2.2.2.2.2.2.1, q37.2.2.2.2.2.2.2.2.2.2.2.2.2.2.2.1, (upd q37.2.2.2.2.2.2.2.2.2.2.2.2.2.2.2.2.1 (v1 + 1).toNatClampNeg q37.1), q37.2.2.2.2.2.2.2.2.2.2.2.2.2.2.2.2.2) 58).bind fun q41 =>
              if ((v1 + 2) < 0 ∨ 366 ≤ (v1 + 2).toNatClampNeg) then none
              else
                some (q41.2.1, q41.2.2.1, q41.2.2.2.1, q41.2.2.2.2.1, q41.2.2.2.2.2.1, q41.2.2.2.2.2.2.1, q41.2.2.2.2.2.2.2.1, q41.2.2.2.2.2.2.2.2.1, q41.2.2.2.2.2.2.2.2.2.1, q41.2.2.2.2.2.2.2.2.2.2.1, q41.2.2.2.2.2.2.2.2.2.2.2.1, q41.2.2.2.2.2.2.2.2.2.2.2.2.1, q41.2.2.2.2.2.2.2.2.2.2.2.2.2.1, q41.2.2.2.2.2.2.2.2.2.2.2.2.2.2.1, q41.2.2.2.2.2.2.2.2.2.2.2.2.2.2.2.1, (upd q41.2.2.2.2.2.2.2.2.2.2.2.2.2.2.2.2.1 (v1 + 2).toNatClampNeg q41.1), q41.2.2.2.2.2.2.2.2.2.2.2.2.2.2.2.2.2)
            else
              if v2 = 109 then
                (f_X7_behind (q37.2.1, q37.2.2.1, q37.2.2.2.1, q37.2.2.2.2.1, q37.2.2.2.2.2.1, q37.2.2.2.2.2.2.1, q37.2.2.2.2.2.2.2.1, q37.2.2.2.2.2.2.2.2.1, q37.2.2.2.2.2.2.2.2.2.1, q37.2.2.2.2.2.2.2.2.2.2.1, q37.2.2.2.2.2.2.2.2.2.2.2.1, q37.2.2.2.2.2.2.2.2.2.2.2.2.1, q37.2.2.2.2.2.2.2.2.2.2.2.2.2.1, q37.2.2.2.2.2.2.2.2.2.2.2.2.2.2.1, q37.2.2.2.2.2.2.2.2.2.2.2.2.2.2.2.1, (upd q37.2.2.2.2.2.2.2.2.2.2.2.2.2.2.2.2.1 (v1 + 1).toNatClampNeg q37.1), q37.2.2.2.2.2.2.2.2.2.2.2.2.2.2.2.2.2) 62).bind fun q45 =>
                if ((v1 + 2) < 0 ∨ 366 ≤ (v1 + 2).toNatClampNeg) then none
                else
                  some (q45.2.1, q45.2.2.1, q45.2.2.2.1, q45.2.2.2.2.1, q45.2.2.2.2.2.1, q45.2.2.2.2.2.2.1, q45.2.2.2.2.2.2.2.1, q45.2.2.2.2.2.2.2.2.1, q45.2.2.2.2.2.2.2.2.2.1, q45.2.2.2.2.2.2.2.2.2.2.1, q45.2.2.2.2.2.2.2.2.2.2.2.1, q45.2.2.2.2.2.2.2.2.2.2.2.2.1, q45.2.2.2.2.2.2.2.2.2.2.2.2.2.1, q45.2.2.2.2.2.2.2.2.2.2.2.2.2.2.1, q45.2.2.2.2.2.2.2.2.2.2.2.2.2.2.2.1, (upd q45.2.2.2.2.2.2.2.2.2.2.2.2.2.2.2.2.1 (v1 + 2).toNatClampNeg q45.1), q45.2.2.2.2.2.2.2.2.2.2.2.2.2.2.2.2.2)
              else
                if v2 = 112 then
                  (f_X7_behind (q37.2.1, q37.2.2.1, q37.2.2.2.1, q37.2.2.2.2.1, q37.2.2.2.2.2.1, q37.2.2.2.2.2.2.1, q37.2.2.2.2.2.2.2.1, q37.2.2.2.2.2.2.2.2.1, q37.2.2.2.2.2.2.2.2.2.1, q37.2.2.2.2.2.2.2.2.2.2.1, q37.2.2.2.2.2.2.2.2.2.2.2.1, q37.2.2.2.2.2.2.2.2.2.2.2.2.1, q37.2.2.2.2.2.2.2.2.2.2.2.2.2.1, q37.2.2.2.2.2.2.2.2.2.2.2.2.2.2.1, q37.2.2.2.2.2.2.2.2.2.2.2.2.2.2.2.1, (upd q37.2.2.2.2.2.2.2.2.2.2.2.2.2.2.2.2.1 (v1 + 1).toNatClampNeg q37.1), q37.2.2.2.2.2.2.2.2.2.2.2.2.2.2.2.2.2) 58).bind fun q49 =>
                  if ((v1 + 2) < 0 ∨ 366 ≤ (v1 + 2).toNatClampNeg) then none
                  else
                    some (q49.2.1, q49.2.2.1, q49.2.2.2.1, q49.2.2.2.2.1, q49.2.2.2.2.2.1, q49.2.2.2.2.2.2.1, q49.2.2.2.2.2.2.2.1, q49.2.2.2.2.2.2.2.2.1, q49.2.2.2.2.2.2.2.2.2.1, q49.2.2.2.2.2.2.2.2.2.2.1, q49.2.2.2.2.2.2.2.2.2.2.2.1, q49.2.2.2.2.2.2.2.2.2.2.2.2.1, q49.2.2.2.2.2.2.2.2.2.2.2.2.2.1, q49.2.2.2.2.2.2.2.2.2.2.2.2.2.2.1, q49.2.2.2.2.2.2.2.2.2.2.2.2.2.2.2.1, (upd q49.2.2.2.2.2.2.2.2.2.2.2.2.2.2.2.2.1 (v1 + 2).toNatClampNeg q49.1), q49.2.2.2.2.2.2.2.2.2.2.2.2.2.2.2.2.2)
                else
                  if v2 = 114 then
                    (f_X7_behind (q37.2.1, q37.2.2.1, q37.2.2.2.1, q37.2.2.2.2.1, q37.2.2.2.2.2.1, q37.2.2.2.2.2.2.1, q37.2.2.2.2.2.2.2.1, q37.2.2.2.2.2.2.2.2.1, q37.2.2.2.2.2.2.2.2.2.1, q37.2.2.2.2.2.2.2.2.2.2.1, q37.2.2.2.2.2.2.2.2.2.2.2.1, q37.2.2.2.2.2.2.2.2.2.2.2.2.1, q37.2.2.2.2.2.2.2.2.2.2.2.2.2.1, q37.2.2.2.2.2.2.2.2.2.2.2.2.2.2.1, q37.2.2.2.2.2.2.2.2.2.2.2.2.2.2.2.1, (upd q37.2.2.2.2.2.2.2.2.2.2.2.2.2.2.2.2.1 (v1 + 1).toNatClampNeg q37.1), q37.2.2.2.2.2.2.2.2.2.2.2.2.2.2.2.2.2) 45).bind fun q53 =>
                    if ((v1 + 2) < 0 ∨ 366 ≤ (v1 + 2).toNatClampNeg) then none
                    else
                      some (q53.2.1, q53.2.2.1, q53.2.2.2.1, q53.2.2.2.2.1, q53.2.2.2.2.2.1, q53.2.2.2.2.2.2.1, q53.2.2.2.2.2.2.2.1, q53.2.2.2.2.2.2.2.2.1, q53.2.2.2.2.2.2.2.2.2.1, q53.2.2.2.2.2.2.2.2.2.2.1, q53.2.2.2.2.2.2.2.2.2.2.2.1, q53.2.2.2.2.2.2.2.2.2.2.2.2.1, q53.2.2.2.2.2.2.2.2.2.2.2.2.2.1, q53.2.2.2.2.2.2.2.2.2.2.2.2.2.2.1, q53.2.2.2.2.2.2.2.2.2.2.2.2.2.2.2.1, (upd q53.2.2.2.2.2.2.2.2.2.2.2.2.2.2.2.2.1 (v1 + 2).toNatClampNeg q53.1), q53.2.2.2.2.2.2.2.2.2.2.2.2.2.2.2.2.2)
                  else
                    if v2 = 119 then
                      (f_X7_behind (q37.2.1, q37.2.2.1, q37.2.2.2.1, q37.2.2.2.2.1, q37.2.2.2.2.2.1, q37.2.2.2.2.2.2.1, q37.2.2.2.2.2.2.2.1, q37.2.2.2.2.2.2.2.2.1, q37.2.2.2.2.2.2.2.2.2.1, q37.2.2.2.2.2.2.2.2.2.2.1, q37.2.2.2.2.2.2.2.2.2.2.2.1, q37.2.2.2.2.2.2.2.2.2.2.2.2.1, q37.2.2.2.2.2.2.2.2.2.2.2.2.2.1, q37.2.2.2.2.2.2.2.2.2.2.2.2.2.2.1, q37.2.2.2.2.2.2.2.2.2.2.2.2.2.2.2.1, (upd q37.2.2.2.2.2.2.2.2.2.2.2.2.2.2.2.2.1 (v1 + 1).toNatClampNeg q37.1), q37.2.2.2.2.2.2.2.2.2.2.2.2.2.2.2.2.2) 61).bind fun q57 =>
                      if ((v1 + 2) < 0 ∨ 366 ≤ (v1 + 2).toNatClampNeg) then none
                      else
                        (f_X7_behind (q57.2.1, q57.2.2.1, q57.2.2.2.1, q57.2.2.2.2.1, q57.2.2.2.2.2.1, q57.2.2.2.2.2.2.1, q57.2.2.2.2.2.2.2.1, q57.2.2.2.2.2.2.2.2.1, q57.2.2.2.2.2.2.2.2.2.1, q57.2.2.2.2.2.2.2.2.2.2.1, q57.2.2.2.2.2.2.2.2.2.2.2.1, q57.2.2.2.2.2.2.2.2.2.2.2.2.1, q57.2.2.2.2.2.2.2.2.2.2.2.2.2.1, q57.2.2.2.2.2.2.2.2.2.2.2.2.2.2.1, q57.2.2.2.2.2.2.2.2.2.2.2.2.2.2.2.1, (upd q57.2.2.2.2.2.2.2.2.2.2.2.2.2.2.2.2.1 (v1 + 2).toNatClampNeg q57.1), q57.2.2.2.2.2.2.2.2.2.2.2.2.2.2.2.2.2) 45).bind fun q60 =>
                        if ((v1 + 3) < 0 ∨ 366 ≤ (v1 + 3).toNatClampNeg) then none
                        else
                          (f_X7_behind (q60.2.1, q60.2.2.1, q60.2.2.2.1, q60.2.2.2.2.1, q60.2.2.2.2.2.1, q60.2.2.2.2.2.2.1, q60.2.2.2.2.2.2.2.1, q60.2.2.2.2.2.2.2.2.1, q60.2.2.2.2.2.2.2.2.2.1, q60.2.2.2.2.2.2.2.2.2.2.1, q60.2.2.2.2.2.2.2.2.2.2.2.1, q60.2.2.2.2.2.2.2.2.2.2.2.2.1, q60.2.2.2.2.2.2.2.2.2.2.2.2.2.1, q60.2.2.2.2.2.2.2.2.2.2.2.2.2.2.1, q60.2.2.2.2.2.2.2.2.2.2.2.2.2.2.2.1, (upd q60.2.2.2.2.2.2.2.2.2.2.2.2.2.2.2.2.1 (v1 + 3).toNatClampNeg q60.1), q60.2.2.2.2.2.2.2.2.2.2.2.2.2.2.2.2.2) 94).bind fun q63 =>
                          if ((v1 + 4) < 0 ∨ 366 ≤ (v1 + 4).toNatClampNeg) then none
                          else
                            (f_X7_behind (q63.2.1, q63.2.2.1, q63.2.2.2.1, q63.2.2.2.2.1, q63.2.2.2.2.2.1, q63.2.2.2.2.2.2.1, q63.2.2.2.2.2.2.2.1, q63.2.2.2.2.2.2.2.2.1, q63.2.2.2.2.2.2.2.2.2.1, q63.2.2.2.2.2.2.2.2.2.2.1, q63.2.2.2.2.2.2.2.2.2.2.2.1, q63.2.2.2.2.2.2.2.2.2.2.2.2.1, q63.2.2.2.2.2.2.2.2.2.2.2.2.2.1, q63.2.2.2.2.2.2.2.2.2.2.2.2.2.2.1, q63.2.2.2.2.2.2.2.2.2.2.2.2.2.2.2.1, (upd q63.2.2.2.2.2.2.2.2.2.2.2.2.2.2.2.2.1 (v1 + 4).toNatClampNeg q63.1), q63.2.2.2.2.2.2.2.2.2.2.2.2.2.2.2.2.2) 47).bind fun q66 =>
                            if ((v1 + 5) < 0 ∨ 366 ≤ (v1 + 5).toNatClampNeg) then none
                            else
                              some (q66.2.1, q66.2.2.1, q66.2.2.2.1, q66.2.2.2.2.1, q66.2.2.2.2.2.1, q66.2.2.2.2.2.2.1, q66.2.2.2.2.2.2.2.1, q66.2.2.2.2.2.2.2.2.1, q66.2.2.2.2.2.2.2.2.2.1, q66.2.2.2.2.2.2.2.2.2.2.1, q66.2.2.2.2.2.2.2.2.2.2.2.1, q66.2.2.2.2.2.2.2.2.2.2.2.2.1, q66.2.2.2.2.2.2.2.2.2.2.2.2.2.1, q66.2.2.2.2.2.2.2.2.2.2.2.2.2.2.1, q66.2.2.2.2.2.2.2.2.2.2.2.2.2.2.2.1, (upd q66.2.2.2.2.2.2.2.2.2.2.2.2.2.2.2.2.1 (v1 + 5).toNatClampNeg q66.1), q66.2.2.2.2.2.2.2.2.2.2.2.2.2.2.2.2.2)
                    else
                      some (q37.2.1, q37.2.2.1, q37.2.2.2.1, q37.2.2.2.2.1, q37.2.2.2.2.2.1, q37.2.2.2.2.2.2.1, q37.2.2.2.2.2.2.2.1, q37.2.2.2.2.2.2.2.2.1, q37.2.2.2.2.2.2.2.2.2.1, q37.2.2.2.2.2.2.2.2.2.2.1, q37.2.2.2.2.2.2.2.2.2.2.2.1, q37.2.2.2.2.2.2.2.2.2.2.2.2.1, q37.2.2.2.2.2.2.2.2.2.2.2.2.2.1, q37.2.2.2.2.2.2.2.2.2.2.2.2.2.2.1, q37.2.2.2.2.2.2.2.2.2.2.2.2.2.2.2.1, (upd q37.2.2.2.2.2.2.2.2.2.2.2.2.2.2.2.2.1 (v1 + 1).toNatClampNeg q37.1), q37.2.2.2.2.2.2.2.2.2.2.2.2.2.2.2.2.2)
def f_X7_command_c25 : Nat → ModS → Int32 → Int32 → Int32 → Option (ModS)
  | 0, _, _, _, _ => none
  | n + 1, T, v1, v2, v3 =>
    if 6 ≤ v3 then
      if v2 = 105 then
        f_X7_command_c97 T v1 v2
      else
        if v2 = 100 then
          f_X7_command_c97 T v1 v2
        else
          if v2 = 112 then
            f_X7_command_c97 T v1 v2
          else
            if v2 = 109 then
              f_X7_command_c97 T v1 v2
            else
              if v2 = 114 then
                f_X7_command_c97 T v1 v2
              else
                if v2 = 119 then
                  f_X7_command_c97 T v1 v2
                else
                  if v2 = 120 then
                    f_X7_command_c97 T v1 v2
                  else
                    some (T.1, T.2.1, T.2.2.1, T.2.2.2.1, T.2.2.2.2.1, T.2.2.2.2.2.1, T.2.2.2.2.2.2.1, T.2.2.2.2.2.2.2.1, T.2.2.2.2.2.2.2.2.1, T.2.2.2.2.2.2.2.2.2.1, T.2.2.2.2.2.2.2.2.2.2.1, T.2.2.2.2.2.2.2.2.2.2.2.1, T.2.2.2.2.2.2.2.2.2.2.2.2.1, T.2.2.2.2.2.2.2.2.2.2.2.2.1, T.2.2.2.2.2.2.2.2.2.2.2.2.2.2.1, T.2.2.2.2.2.2.2.2.2.2.2.2.2.2.2.1, T.2.2.2.2.2.2.2.2.2.2.2.2.2.2.2.2)
    else
      if ((v1 + v3) < 0 ∨ 366 ≤ (v1 + v3).toNatClampNeg) then none
      else
        f_X7_command_c25 n (T.1, T.2.1, T.2.2.1, T.2.2.2.1, T.2.2.2.2.1, T.2.2.2.2.2.1, T.2.2.2.2.2.2.1, T.2.2.2.2.2.2.2.1, T.2.2.2.2.2.2.2.2.1, T.2.2.2.2.2.2.2.2.2.1, T.2.2.2.2.2.2.2.2.2.2.1, T.2.2.2.2.2.2.2.2.2.2.2.1, T.2.2.2.2.2.2.2.2.2.2.2.2.1, T.2.2.2.2.2.2.2.2.2.2.2.2.2.1, T.2.2.2.2.2.2.2.2.2.2.2.2.2.2.1, (upd T.2.2.2.2.2.2.2.2.2.2.2.2.2.2.2.1 (v1 + v3).toNatClampNeg 0), T.2.2.2.2.2.2.2.2.2.2.2.2.2.2.2.2) v1 v2 (v3 + 1)
def f_X7_command (T : ModS) : Option (ModS) :=
    (f_X7_sign (T.1, T.2.1, T.2.2.1, T.2.2.2.1, T.2.2.2.2.1, T.2.2.2.2.2.1, T.2.2.2.2.2.2.1, T.2.2.2.2.2.2.2.1, T.2.2.2.2.2.2.2.2.1, T.2.2.2.2.2.2.2.2.2.1, T.2.2.2.2.2.2.2.2.2.2.1, T.2.2.2.2.2.2.2.2.2.2.2.1, T.2.2.2.2.2.2.2.2.2.2.2.2.1, T.2.2.2.2.2.2.2.2.2.2.2.2.2.1, T.2.2.2.2.2.2.2.2.2.2.2.2.2.2.1, T.2.2.2.2.2.2.2.2.2.2.2.2.2.2.2.1, (T.2.2.2.2.2.2.2.2.2.2.2.2.2.2.2.2 + 1))).bind fun q110 =>
    f_X7_command_c25 200 (T.1, T.2.1, T.2.2.1, T.2.2.2.1, T.2.2.2.2.1, T.2.2.2.2.2.1, T.2.2.2.2.2.2.1, T.2.2.2.2.2.2.2.1, T.2.2.2.2.2.2.2.2.1, T.2.2.2.2.2.2.2.2.2.1, T.2.2.2.2.2.2.2.2.2.2.1, T.2.2.2.2.2.2.2.2.2.2.2.1, T.2.2.2.2.2.2.2.2.2.2.2.2.1, T.2.2.2.2.2.2.2.2.2.2.2.2.2.1, T.2.2.2.2.2.2.2.2.2.2.2.2.2.2.1, T.2.2.2.2.2.2.2.2.2.2.2.2.2.2.2.1, (T.2.2.2.2.2.2.2.2.2.2.2.2.2.2.2.2 + 1)) (6 * T.2.2.2.2.2.2.2.2.2.2.2.2.2.2.2.2) q110 0
def f_X7_parse_c52 (T : ModS) : Option (ModS) :=
    if 0 ≤ T.2.2.2.2.2.2.2.2.2.2.2.2.2.1 then
      some T
    else
      if T.2.2.2.2.2.2.2.2.2.2.2.1 ≤ T.2.2.2.2.2.2.2.2.2.2.2.2.1 then
        some T
      else
        some (T.1, T.2.1, T.2.2.1, T.2.2.2.1, T.2.2.2.2.1, T.2.2.2.2.2.1, T.2.2.2.2.2.2.1, T.2.2.2.2.2.2.2.1, T.2.2.2.2.2.2.2.2.1, T.2.2.2.2.2.2.2.2.2.1, T.2.2.2.2.2.2.2.2.2.2.1, T.2.2.2.2.2.2.2.2.2.2.2.1, T.2.2.2.2.2.2.2.2.2.2.2.2.1, T.2.2.2.2.2.2.2.2.2.2.2.2.1, T.2.2.2.2.2.2.2.2.2.2.2.2.2.2.1, T.2.2.2.2.2.2.2.2.2.2.2.2.2.2.2.1, T.2.2.2.2.2.2.2.2.2.2.2.2.2.2.2.2)
def f_X7_parse_c19 : Nat → ModS → Option (ModS)
  | 0, _ => none
  | n + 1, T =>
    if 0 ≤ T.2.2.2.2.2.2.2.2.2.2.2.2.2.1 then
      f_X7_parse_c52 T
    else
      (f_X7_sign T).bind fun q5 =>
      if q5 = 59 then
        (f_X7_command (T.1, T.2.1, T.2.2.1, T.2.2.2.1, T.2.2.2.2.1, T.2.2.2.2.2.1, T.2.2.2.2.2.2.1, T.2.2.2.2.2.2.2.1, T.2.2.2.2.2.2.2.2.1, T.2.2.2.2.2.2.2.2.2.1, T.2.2.2.2.2.2.2.2.2.2.1, T.2.2.2.2.2.2.2.2.2.2.2.1, (T.2.2.2.2.2.2.2.2.2.2.2.2.1 + 1), T.2.2.2.2.2.2.2.2.2.2.2.2.2.1, T.2.2.2.2.2.2.2.2.2.2.2.2.2.2.1, T.2.2.2.2.2.2.2.2.2.2.2.2.2.2.2.1, T.2.2.2.2.2.2.2.2.2.2.2.2.2.2.2.2)).bind fun q8 =>
        f_X7_parse_c19 n q8
      else
        f_X7_parse_c52 T
def f_X7_parse (T : ModS) : Option (ModS) :=
    (f_X7_command (T.1, T.2.1, T.2.2.1, T.2.2.2.1, T.2.2.2.2.1, T.2.2.2.2.2.1, T.2.2.2.2.2.2.1, T.2.2.2.2.2.2.2.1, T.2.2.2.2.2.2.2.2.1, T.2.2.2.2.2.2.2.2.2.1, T.2.2.2.2.2.2.2.2.2.2.1, T.2.2.2.2.2.2.2.2.2.2.2.1, 0, (-1), T.2.2.2.2.2.2.2.2.2.2.2.2.2.2.1, T.2.2.2.2.2.2.2.2.2.2.2.2.2.2.2.1, 0)).bind fun q10 =>
    f_X7_parse_c19 200 q10
def f_X7_does (T : ModS) (p1 : Int32) : Option (Int32 × (ModS)) :=
    if ((p1 + 1) < 0 ∨ 366 ≤ (p1 + 1).toNatClampNeg) then none
    else
      if ((p1 + 2) < 0 ∨ 366 ≤ (p1 + 2).toNatClampNeg) then none
      else
        if (p1 < 0 ∨ 366 ≤ p1.toNatClampNeg) then none
        else
          if (T.2.2.2.2.2.2.2.2.2.2.2.2.2.2.2.1 p1.toNatClampNeg) = 100 then
            (f_X7_deletes T (T.2.2.2.2.2.2.2.2.2.2.2.2.2.2.2.1 (p1 + 1).toNatClampNeg)).bind fun q6 =>
            some (q6.1, q6.2)
          else
            if (T.2.2.2.2.2.2.2.2.2.2.2.2.2.2.2.1 p1.toNatClampNeg) = 105 then
              (f_X7_inserts T (T.2.2.2.2.2.2.2.2.2.2.2.2.2.2.2.1 (p1 + 1).toNatClampNeg) (T.2.2.2.2.2.2.2.2.2.2.2.2.2.2.2.1 (p1 + 2).toNatClampNeg)).bind fun q9 =>
              some (q9.1, q9.2)
            else
              if (T.2.2.2.2.2.2.2.2.2.2.2.2.2.2.2.1 p1.toNatClampNeg) = 109 then
                (f_X7_moves T (T.2.2.2.2.2.2.2.2.2.2.2.2.2.2.2.1 (p1 + 1).toNatClampNeg) (T.2.2.2.2.2.2.2.2.2.2.2.2.2.2.2.1 (p1 + 2).toNatClampNeg)).bind fun q12 =>
                some (q12.1, q12.2)
              else
                if (T.2.2.2.2.2.2.2.2.2.2.2.2.2.2.2.1 p1.toNatClampNeg) = 112 then
                  (f_X7_prefers T (T.2.2.2.2.2.2.2.2.2.2.2.2.2.2.2.1 (p1 + 1).toNatClampNeg) (T.2.2.2.2.2.2.2.2.2.2.2.2.2.2.2.1 (p1 + 2).toNatClampNeg)).bind fun q15 =>
                  some (q15.1, q15.2)
                else
                  if (T.2.2.2.2.2.2.2.2.2.2.2.2.2.2.2.1 p1.toNatClampNeg) = 114 then
                    (f_X7_clears T (T.2.2.2.2.2.2.2.2.2.2.2.2.2.2.2.1 (p1 + 1).toNatClampNeg) (T.2.2.2.2.2.2.2.2.2.2.2.2.2.2.2.1 (p1 + 2).toNatClampNeg)).bind fun q18 =>
                    some (q18.1, q18.2)
                  else
                    if (T.2.2.2.2.2.2.2.2.2.2.2.2.2.2.2.1 p1.toNatClampNeg) = 119 then
                      if ((p1 + 3) < 0 ∨ 366 ≤ (p1 + 3).toNatClampNeg) then none
                      else
                        if ((p1 + 4) < 0 ∨ 366 ≤ (p1 + 4).toNatClampNeg) then none
                        else
                          if ((p1 + 5) < 0 ∨ 366 ≤ (p1 + 5).toNatClampNeg) then none
                          else
                            (f_X7_sets T (T.2.2.2.2.2.2.2.2.2.2.2.2.2.2.2.1 (p1 + 1).toNatClampNeg) (T.2.2.2.2.2.2.2.2.2.2.2.2.2.2.2.1 (p1 + 2).toNatClampNeg) (T.2.2.2.2.2.2.2.2.2.2.2.2.2.2.2.1 (p1 + 3).toNatClampNeg) (T.2.2.2.2.2.2.2.2.2.2.2.2.2.2.2.1 (p1 + 4).toNatClampNeg) (T.2.2.2.2.2.2.2.2.2.2.2.2.2.2.2.1 (p1 + 5).toNatClampNeg)).bind fun q24 =>
                            some (q24.1, q24.2)
                    else
                      (f_X7_removes T (T.2.2.2.2.2.2.2.2.2.2.2.2.2.2.2.1 (p1 + 1).toNatClampNeg)).bind fun q26 =>
                      some (q26.1, q26.2)
def f_X7_execute_c91 (T : ModS) (v1 : Int32) : Option (Int32 × (ModS)) :=
    (f_X7_ends (T.1, T.2.1, T.2.2.1, T.2.2.2.1, T.2.2.2.2.2.2.2.2.2.2.2.2.2.2.2.2, T.2.2.2.2.2.1, T.2.2.2.2.2.2.1, T.2.2.2.2.2.2.2.1, T.2.2.2.2.2.2.2.2.1, T.2.2.2.2.2.2.2.2.2.1, T.2.2.2.2.2.2.2.2.2.2.1, T.2.2.2.2.2.2.2.2.2.2.2.1, T.2.2.2.2.2.2.2.2.2.2.2.2.1, T.2.2.2.2.2.2.2.2.2.2.2.2.2.1, T.2.2.2.2.2.2.2.2.2.2.2.2.2.2.1, T.2.2.2.2.2.2.2.2.2.2.2.2.2.2.2.1, T.2.2.2.2.2.2.2.2.2.2.2.2.2.2.2.2) v1 2 2 3 2).bind fun q2 =>
    some (q2.1, q2.2)
def f_X7_execute_c66 (T : ModS) (v1 : Int32) (v2 : Int32) : Option (Int32 × (ModS)) :=
    if v1 = 3 then
      f_X7_execute_c91 (T.1, T.2.1, T.2.2.1, T.2.2.2.1, T.2.2.2.2.1, 4, (v2 - 1), T.2.2.2.2.2.1, T.2.2.2.2.2.2.2.2.1, T.2.2.2.2.2.2.2.2.2.1, T.2.2.2.2.2.2.2.2.2.2.1, T.2.2.2.2.2.2.2.2.2.2.2.1, T.2.2.2.2.2.2.2.2.2.2.2.2.1, T.2.2.2.2.2.2.2.2.2.2.2.2.2.1, T.2.2.2.2.2.2.2.2.2.2.2.2.2.2.1, T.2.2.2.2.2.2.2.2.2.2.2.2.2.2.2.1, T.2.2.2.2.2.2.2.2.2.2.2.2.2.2.2.2) v1
    else
      f_X7_execute_c91 T v1
def f_X7_execute_c39 : Nat → ModS → Int32 → Int32 → Option (Int32 × (ModS))
  | 0, _, _, _ => none
  | n + 1, T, v1, v2 =>
    if T.2.2.2.2.2.2.2.2.2.2.2.2.2.2.2.2 ≤ v2 then
      f_X7_execute_c66 T v1 v2
    else
      if v1 = 0 then
        (f_X7_does T (6 * v2)).bind fun q7 =>
        f_X7_execute_c39 n q7.2 q7.1 (v2 + 1)
      else
        f_X7_execute_c66 T v1 v2
def f_X7_execute (T : ModS) : Option (Int32 × (ModS)) :=
    (f_X7_parse T).bind fun q9 =>
    if q9.2.2.2.2.2.2.2.2.2.2.2.2.2.1 < 0 then
      (f_X7_begins (q9.1, q9.2.1, q9.2.2.1, q9.2.2.2.1, q9.2.2.2.2.1, q9.2.2.2.2.2.1, q9.2.2.2.2.2.2.1, q9.2.2.2.2.2.2.2.1, q9.2.2.2.2.2.2.2.2.1, q9.2.2.2.2.2.2.2.2.2.1, q9.2.2.2.2.2.2.2.2.2.2.1, 0, q9.2.2.2.2.2.2.2.2.2.2.2.2.1, q9.2.2.2.2.2.2.2.2.2.2.2.2.2.1, q9.2.2.2.2.2.2.2.2.2.2.2.2.2.2.1, q9.2.2.2.2.2.2.2.2.2.2.2.2.2.2.2.1, q9.2.2.2.2.2.2.2.2.2.2.2.2.2.2.2.2)).bind fun q12 =>
      f_X7_execute_c39 200 q12 0 0
    else
      some (0, (1, q9.2.1, q9.2.2.1, q9.2.2.2.1, q9.2.2.2.2.1, q9.2.2.2.2.2.1, q9.2.2.2.2.2.2.1, q9.2.2.2.2.2.2.2.1, q9.2.2.2.2.2.2.2.2.1, q9.2.2.2.2.2.2.2.2.2.1, q9.2.2.2.2.2.2.2.2.2.2.1, 0, q9.2.2.2.2.2.2.2.2.2.2.2.2.1, q9.2.2.2.2.2.2.2.2.2.2.2.2.2.1, q9.2.2.2.2.2.2.2.2.2.2.2.2.2.1, q9.2.2.2.2.2.2.2.2.2.2.2.2.2.2.2.1, q9.2.2.2.2.2.2.2.2.2.2.2.2.2.2.2.2))
def f_X7_syntaxErrorOffset (T : ModS) : Option (Int32 × (ModS)) :=
    if T.2.2.2.2.2.2.2.2.2.2.2.2.2.2.1 = (-1) then
      (f_X7_isFine T 0).bind fun q3 =>
      if q3.1 = 0 then
        some (0, q3.2)
      else
        some (q3.2.2.2.2.2.2.2.2.2.2.2.2.2.2.2.1, q3.2)
    else
      (f_X7_isFine T 1).bind fun q6 =>
      if q6.1 = 0 then
        some (0, q6.2)
      else
        some (q6.2.2.2.2.2.2.2.2.2.2.2.2.2.2.2.1, q6.2)
def f_X7_undo (T : ModS) : Option (Int32 × (ModS)) :=
    if T.2.2.1 ≤ 0 then
      (f_X7_isFine T 0).bind fun q3 =>
      if q3.1 = 0 then
        some (0, q3.2)
      else
        (f_X7_copies q3.2 q3.2.2.2.1 0).bind fun q6 =>
        some ((q6.2.2.1 - 1), (q6.1, q6.2.1, (q6.2.2.1 - 1), q6.2.2.2.1, q6.2.2.2.2.1, q6.2.2.2.2.2.1, q6.2.2.2.2.2.2.1, q6.2.2.2.2.2.2.2.1, q6.2.2.2.2.2.2.2.2.1, q6.2.2.2.2.2.2.2.2.2.1, q6.2.2.2.2.2.2.2.2.2.2.1, q6.2.2.2.2.2.2.2.2.2.2.2.1, q6.2.2.2.2.2.2.2.2.2.2.2.2.1, q6.2.2.2.2.2.2.2.2.2.2.2.2.2.1, q6.2.2.2.2.2.2.2.2.2.2.2.2.2.2.1, q6.2.2.2.2.2.2.2.2.2.2.2.2.2.2.2.1, q6.2.2.2.2.2.2.2.2.2.2.2.2.2.2.2.2))
    else
      (f_X7_isFine T 1).bind fun q8 =>
      if q8.1 = 0 then
        some (0, q8.2)
      else
        (f_X7_copies q8.2 q8.2.2.2.1 0).bind fun q11 =>
        some ((q11.2.2.1 - 1), (q11.1, q11.2.1, (q11.2.2.1 - 1), q11.2.2.2.1, q11.2.2.2.2.1, q11.2.2.2.2.2.1, q11.2.2.2.2.2.2.1, q11.2.2.2.2.2.2.2.1, q11.2.2.2.2.2.2.2.2.1, q11.2.2.2.2.2.2.2.2.2.1, q11.2.2.2.2.2.2.2.2.2.2.1, q11.2.2.2.2.2.2.2.2.2.2.2.1, q11.2.2.2.2.2.2.2.2.2.2.2.2.1, q11.2.2.2.2.2.2.2.2.2.2.2.2.2.1, q11.2.2.2.2.2.2.2.2.2.2.2.2.2.2.1, q11.2.2.2.2.2.2.2.2.2.2.2.2.2.2.2.1, q11.2.2.2.2.2.2.2.2.2.2.2.2.2.2.2.2))
def f_X7_saveSnapshot (T : ModS) : Option (Int32 × (ModS)) :=
    (f_X7_copies (0, T.2.1, T.2.2.1, 1, T.2.2.2.2.1, T.2.2.2.2.2.1, T.2.2.2.2.2.2.1, T.2.2.2.2.2.2.2.1, T.2.2.2.2.2.2.2.2.1, T.2.2.2.2.2.2.2.2.2.1, T.2.2.2.2.2.2.2.2.2.2.1, T.2.2.2.2.2.2.2.2.2.2.2.1, T.2.2.2.2.2.2.2.2.2.2.2.2.1, T.2.2.2.2.2.2.2.2.2.2.2.2.2.1, T.2.2.2.2.2.2.2.2.2.2.2.2.2.2.1, T.2.2.2.2.2.2.2.2.2.2.2.2.2.2.2.1, T.2.2.2.2.2.2.2.2.2.2.2.2.2.2.2.2) 0 9).bind fun q2 =>
    some ((q2.2.1 (0 : Int32).toNatClampNeg), q2)
def f_X7_restoreSnapshot (T : ModS) : Option (Int32 × (ModS)) :=
    (f_X7_isFine T T.2.2.2.1).bind fun q2 =>
    if q2.1 = 0 then
      some (0, q2.2)
    else
      (f_X7_copies q2.2 9 0).bind fun q5 =>
      some ((q5.2.1 (0 : Int32).toNatClampNeg), (q5.1, q5.2.1, 0, q5.2.2.2.1, q5.2.2.2.2.1, q5.2.2.2.2.2.1, q5.2.2.2.2.2.2.1, q5.2.2.2.2.2.2.2.1, q5.2.2.2.2.2.2.2.2.1, q5.2.2.2.2.2.2.2.2.2.1, q5.2.2.2.2.2.2.2.2.2.2.1, q5.2.2.2.2.2.2.2.2.2.2.2.1, q5.2.2.2.2.2.2.2.2.2.2.2.2.1, q5.2.2.2.2.2.2.2.2.2.2.2.2.2.1, q5.2.2.2.2.2.2.2.2.2.2.2.2.2.2.1, q5.2.2.2.2.2.2.2.2.2.2.2.2.2.2.2.1, q5.2.2.2.2.2.2.2.2.2.2.2.2.2.2.2.2))
def f_X7_leafShare (T : ModS) : Option (UInt32 × (ModS)) :=
    if (T.2.1 (0 : Int32).toNatClampNeg) ≤ 0 then
      (f_X7_isFine T 0).bind fun q3 =>
      if q3.1 = 0 then
        some (FP.fconst0, q3.2)
      else
        (f_X7_leaves q3.2).bind fun q6 =>
        if (FP.fdiv (FP.i2f q6) (FP.i2f (q3.2.2.1 (0 : Int32).toNatClampNeg))) &&& 0x7fffffff ≤ 0x7f800000 then
          some ((FP.fdiv (FP.i2f q6) (FP.i2f (q3.2.2.1 (0 : Int32).toNatClampNeg))), q3.2)
        else none
    else
      (f_X7_isFine T 1).bind fun q9 =>
      if q9.1 = 0 then
        some (FP.fconst0, q9.2)
      else
        (f_X7_leaves q9.2).bind fun q12 =>
        if (FP.fdiv (FP.i2f q12) (FP.i2f (q9.2.2.1 (0 : Int32).toNatClampNeg))) &&& 0x7fffffff ≤ 0x7f800000 then
          some ((FP.fdiv (FP.i2f q12) (FP.i2f (q9.2.2.1 (0 : Int32).toNatClampNeg))), q9.2)
        else none
def pq_ch (i k : Nat) : Int32 := (pq_by.getD i []).getD k 0
def pq_pt (k : Int32) : Nat := if k = 105 ∨ k = 112 then 0 else if k = 100 then 1 else if k = 109 then 2 else if k = 114 then 3 else if k = 119 then 4 else if k = 120 then 5 else 6
def f_X0_readCommand_c77 (k46 : CmdS → Nat → Int32 → Int32 → Option (Int32 × (CmdS))) (T : CmdS) (v3 : Nat) (v4 : Int32) (v5 : Int32) (v6 : Int32) : Option (Int32 × (CmdS)) :=
    if v6 = 35 then
      (f_X0_readNumber T v4 2).bind fun q6 =>
      if q6.1 = 0 then
        some (0, q6.2)
      else
        k46 q6.2 v3 (v4 + 1) (v5 + 1)
    else
      (f_X0_readNumber T v4 1).bind fun q3 =>
      if q3.1 = 0 then
        some (0, q3.2)
      else
        k46 q3.2 v3 (v4 + 1) (v5 + 1)
def f_X0_readCommand_c46 : Nat → CmdS → Nat → Int32 → Int32 → Option (Int32 × (CmdS))
  | 0, _, _, _, _ => none
  | n + 1, T, v3, v4, v5 =>
    if v3 < 7 then
      if (nI (pq_le.getD v3 0)) ≤ v5 then
        some (1, T)
      else
        if ¬ v5 < 0 ∧ v5.toNatClampNeg < pq_le.getD v3 0 then
          if (pq_ch v3 v5.toNatClampNeg) = 35 then
            f_X0_readCommand_c77 (f_X0_readCommand_c46 n) T v3 v4 v5 (pq_ch v3 v5.toNatClampNeg)
          else
            if (pq_ch v3 v5.toNatClampNeg) = 64 then
              f_X0_readCommand_c77 (f_X0_readCommand_c46 n) T v3 v4 v5 (pq_ch v3 v5.toNatClampNeg)
            else
              (f_X0_take T (pq_ch v3 v5.toNatClampNeg)).bind fun q14 =>
              if q14.1 = 0 then
                some (0, q14.2)
              else
                f_X0_readCommand_c46 n q14.2 v3 v4 (v5 + 1)
        else none
    else none
def f_X0_readCommand (T : CmdS) (p1 : Int32) : Option (Int32 × (CmdS)) :=
    (f_X0_current T).bind fun q17 =>
    if (pq_pt q17) < 7 then
      if (if pq_le.getD (pq_pt q17) 0 = 0 then (1 : Int32) else 0) = 0 then
        f_X0_readCommand_c46 200 (T.1, T.2.1, (T.2.2.1 + 1), (pq_wr 20 T.2.2.2.1 p1 q17), T.2.2.2.2.1, T.2.2.2.2.2) (pq_pt q17) (p1 * 5) 0
      else
        some (0, T)
    else none
def f_X0_parse_c56 (T : CmdS) (v1 : Int32) : Option (Int32 × (CmdS)) :=
    if v1 = 0 then
      if T.2.2.1 = T.2.1 then
        some (1, T)
      else
        some (0, T)
    else
      some (0, T)
def f_X0_parse_c12 : Nat → CmdS → Int32 → Option (Int32 × (CmdS))
  | 0, _, _ => none
  | n + 1, T, v1 =>
    if v1 = 0 then
      f_X0_parse_c56 T v1
    else
      if 20 ≤ T.2.2.2.2.2 then
        f_X0_parse_c56 T v1
      else
        (f_X0_readCommand T T.2.2.2.2.2).bind fun q6 =>
        if q6.1 = 0 then
          f_X0_parse_c56 q6.2 v1
        else
          (f_X0_take (q6.2.1, q6.2.2.1, q6.2.2.2.1, q6.2.2.2.2.1, q6.2.2.2.2.2.1, (q6.2.2.2.2.2.2 + 1)) 59).bind fun q9 =>
          f_X0_parse_c12 n q9.2 q9.1
def f_X0_parse (T : CmdS) : Option (Int32 × (CmdS)) :=
    f_X0_parse_c12 200 (T.1, T.2.1, 0, T.2.2.2.1, T.2.2.2.2.1, 0) 1
def f_X6_lowestKey (T : MainS) : Option ((String ⊕ Int32) × MainS) :=
    (f_X4_slotAtPosition T.1.1 0).bind fun q2 =>
    pq_tr (f_X6_keyInFound T q2) fun q3 T5 =>
    some (.inr q3, T5)
def f_X6_greatestKey (T : MainS) : Option ((String ⊕ Int32) × MainS) :=
    (f_X4_pointCount T.1.1).bind fun q2 =>
    (f_X4_slotAtPosition T.1.1 (q2 - 1)).bind fun q4 =>
    pq_tr (f_X6_keyInFound T q4) fun q5 T7 =>
    some (.inr q5, T7)
def f_X6_canInsert (T : MainS) (p1 : Int32) (p2 : Int32) : Option ((String ⊕ Int32) × MainS) :=
    pq_tu T (f_X6_requireNumber p1) fun q1 =>
    pq_tu T (f_X6_requireNumber p2) fun q3 =>
    (f_X1_reasonAgainstInsert T.1 p1 p2).bind fun q6 =>
    if q6 = 0 then
      some (.inr 1, T)
    else
      some (.inr 0, T)
def f_X6_rotationCount (T : MainS) : Option (Int32) :=
    some T.1.2.2
def f_X6_appendInput (T : MainS) (p1 : Int32) : Option ((String ⊕ Int32) × MainS) :=
    if p1 < 32 then
      some (.inl "java/lang/IllegalArgumentException", T)
    else
      if p1 ≤ 126 then
        (f_X0_isFull T.2.2.2.2.2.1).bind fun q4 =>
        if q4 = 0 then
          (f_X0_append T.2.2.2.2.2.1 p1).bind fun q7 =>
          some (.inr q7.1, (T.1, T.2.1, T.2.2.1, T.2.2.2.1, T.2.2.2.2.1, q7.2, T.2.2.2.2.2.2.1, T.2.2.2.2.2.2.2.1, T.2.2.2.2.2.2.2.2.1, T.2.2.2.2.2.2.2.2.2.1, T.2.2.2.2.2.2.2.2.2.2))
        else
          some (.inl "java/lang/IllegalStateException", T)
      else
        some (.inl "java/lang/IllegalArgumentException", T)
def f_X6_syntaxErrorOffset (T : MainS) : Option ((String ⊕ Int32) × MainS) :=
    if T.2.2.2.2.2.2.2.1 = (-1) then
      some (.inl "java/util/NoSuchElementException", T)
    else
      some (.inr T.2.2.2.2.2.2.2.1, T)
def f_X6_rejectionDetail (T : MainS) : Option ((String ⊕ Int32) × MainS) :=
    pq_tr (f_X6_requireRejection T) fun q1 T3 =>
    some (.inr T3.2.2.2.2.2.2.2.2.2.1, T3)
def f_X6_causeReason (T : MainS) : Option ((String ⊕ Int32) × MainS) :=
    if T.2.2.2.2.2.2.2.2.1 = 4 then
      some (.inr T.2.2.2.2.2.2.2.2.2.2, T)
    else
      some (.inl "java/util/NoSuchElementException", T)
def f_X6_undo (T : MainS) : Option ((String ⊕ Int32) × MainS) :=
    if T.2.2.2.2.1.2.2 = 0 then
      some (.inl "java/lang/IllegalStateException", T)
    else
      (f_X2_popInto T.2.2.2.2.1 T.1).bind fun q3 =>
      some (.inr q3.1.2.2, (q3.2, T.2.1, T.2.2.1, T.2.2.2.1, q3.1, T.2.2.2.2.2.1, T.2.2.2.2.2.2.1, T.2.2.2.2.2.2.2.1, T.2.2.2.2.2.2.2.2.1, T.2.2.2.2.2.2.2.2.2.1, T.2.2.2.2.2.2.2.2.2.2))
def f_X6_saveSnapshot (T : MainS) : Option (Int32 × (MainS)) :=
    (f_X1_copyFrom T.2.2.1 T.1).bind fun q2 =>
    (f_X4_pointCount T.1.1).bind fun q4 =>
    some (q4, (T.1, T.2.1, q2, 1, T.2.2.2.2.1, T.2.2.2.2.2.1, T.2.2.2.2.2.2.1, T.2.2.2.2.2.2.2.1, T.2.2.2.2.2.2.2.2.1, T.2.2.2.2.2.2.2.2.2.1, T.2.2.2.2.2.2.2.2.2.2))
def f_X6_restoreSnapshot (T : MainS) : Option ((String ⊕ Int32) × MainS) :=
    if T.2.2.2.1 = 0 then
      some (.inl "java/lang/IllegalStateException", T)
    else
      (f_X1_copyFrom T.1 T.2.2.1).bind fun q3 =>
      (f_X2_clear T.2.2.2.2.1).bind fun q5 =>
      (f_X4_pointCount q3.1).bind fun q7 =>
      some (.inr q7, (q3, T.2.1, T.2.2.1, T.2.2.2.1, q5, T.2.2.2.2.2.1, T.2.2.2.2.2.2.1, T.2.2.2.2.2.2.2.1, T.2.2.2.2.2.2.2.2.1, T.2.2.2.2.2.2.2.2.2.1, T.2.2.2.2.2.2.2.2.2.2))
def f_X6_isFaulty (T : MainS) (p1 : Int32) : Option (Int32) :=
    (f_X0_numberAt T.2.2.2.2.2.1 p1 0).bind fun q2 =>
    (f_X0_numberAt T.2.2.2.2.2.1 p1 1).bind fun q4 =>
    (f_X0_kindAt T.2.2.2.2.2.1 p1).bind fun q6 =>
    if q6 = 100 then
      (f_X4_slotOf T.2.1.1 q2).bind fun q9 =>
      if q9 = 0 then
        some 1
      else
        some 0
    else
      if q6 = 109 then
        (f_X4_slotOf T.2.1.1 q2).bind fun q13 =>
        if q13 = 0 then
          some 1
        else
          some 0
      else
        if q6 = 112 then
          (f_X4_slotOf T.2.1.1 q2).bind fun q17 =>
          if q17 = 0 then
            some 1
          else
            some 0
        else
          if q6 = 114 then
            if q2 ≤ q4 then
              some 0
            else
              some 1
          else
            if q6 = 119 then
              (f_X6_isWindow q2).bind fun q23 =>
              if q23 = 0 then
                some 1
              else
                (f_X0_numberAt T.2.2.2.2.2.1 p1 2).bind fun q26 =>
                if q26 < q4 then
                  some 1
                else
                  (f_X0_numberAt T.2.2.2.2.2.1 p1 4).bind fun q29 =>
                  (f_X6_isLimit q29).bind fun q31 =>
                  if q31 = 0 then
                    some 1
                  else
                    some 0
            else
              if q6 = 120 then
                (f_X6_isWindow q2).bind fun q35 =>
                if q35 = 0 then
                  some 1
                else
                  (f_X5_isOpen T.2.1.2.1 q2).bind fun q38 =>
                  if q38 = 0 then
                    some 1
                  else
                    some 0
              else
                some 0
def f_X6_reasonAgainstCommand (T : MainS) (p1 : Int32) : Option (Int32) :=
    (f_X0_numberAt T.2.2.2.2.2.1 p1 0).bind fun q2 =>
    (f_X0_numberAt T.2.2.2.2.2.1 p1 1).bind fun q4 =>
    (f_X0_kindAt T.2.2.2.2.2.1 p1).bind fun q6 =>
    if q6 = 105 then
      (f_X1_reasonAgainstInsert T.2.1 q2 q4).bind fun q9 =>
      some q9
    else
      if q6 = 109 then
        (f_X4_slotOf T.2.1.1 q2).bind fun q12 =>
        (f_X1_reasonAgainstMove T.2.1 q12 q4).bind fun q14 =>
        some q14
      else
        if q6 = 112 then
          (f_X4_slotOf T.2.1.1 q2).bind fun q17 =>
          (f_X1_reasonAgainstPriority T.2.1 q17 q4).bind fun q19 =>
          some q19
        else
          if q6 = 119 then
            (f_X0_numberAt T.2.2.2.2.2.1 p1 2).bind fun q22 =>
            (f_X0_numberAt T.2.2.2.2.2.1 p1 3).bind fun q24 =>
            (f_X0_numberAt T.2.2.2.2.2.1 p1 4).bind fun q26 =>
            (f_X1_reasonAgainstWindow T.2.1 q4 q22 q24 q26).bind fun q28 =>
            some q28
          else
            some 0
def f_X6_carryOut (T : MainS) (p1 : Int32) : Option (MainS) :=
    (f_X0_numberAt T.2.2.2.2.2.1 p1 0).bind fun q2 =>
    (f_X0_numberAt T.2.2.2.2.2.1 p1 1).bind fun q4 =>
    (f_X0_kindAt T.2.2.2.2.2.1 p1).bind fun q6 =>
    if q6 = 100 then
      (f_X4_slotOf T.2.1.1 q2).bind fun q9 =>
      (f_X1_deletePoint T.2.1 q9).bind fun q11 =>
      some (T.1, q11.2, T.2.2.1, T.2.2.2.1, T.2.2.2.2.1, T.2.2.2.2.2.1, T.2.2.2.2.2.2.1, T.2.2.2.2.2.2.2.1, T.2.2.2.2.2.2.2.2.1, T.2.2.2.2.2.2.2.2.2.1, T.2.2.2.2.2.2.2.2.2.2)
    else
      if q6 = 105 then
        (f_X1_insertPoint T.2.1 q2 q4).bind fun q14 =>
        some (T.1, q14.2, T.2.2.1, T.2.2.2.1, T.2.2.2.2.1, T.2.2.2.2.2.1, T.2.2.2.2.2.2.1, T.2.2.2.2.2.2.2.1, T.2.2.2.2.2.2.2.2.1, T.2.2.2.2.2.2.2.2.2.1, T.2.2.2.2.2.2.2.2.2.2)
      else
        if q6 = 109 then
          (f_X4_slotOf T.2.1.1 q2).bind fun q17 =>
          (f_X1_movePoint T.2.1 q17 q4).bind fun q19 =>
          some (T.1, q19.2, T.2.2.1, T.2.2.2.1, T.2.2.2.2.1, T.2.2.2.2.2.1, T.2.2.2.2.2.2.1, T.2.2.2.2.2.2.2.1, T.2.2.2.2.2.2.2.2.1, T.2.2.2.2.2.2.2.2.2.1, T.2.2.2.2.2.2.2.2.2.2)
        else
          if q6 = 112 then
            (f_X4_slotOf T.2.1.1 q2).bind fun q22 =>
            (f_X1_setPriority T.2.1 q22 q4).bind fun q24 =>
            some (T.1, q24.2, T.2.2.1, T.2.2.2.1, T.2.2.2.2.1, T.2.2.2.2.2.1, T.2.2.2.2.2.2.1, T.2.2.2.2.2.2.2.1, T.2.2.2.2.2.2.2.2.1, T.2.2.2.2.2.2.2.2.2.1, T.2.2.2.2.2.2.2.2.2.2)
          else
            if q6 = 114 then
              (f_X4_removeRange T.2.1.1 q2 q4).bind fun q27 =>
              some (T.1, (q27.2, T.2.1.2.1, T.2.1.2.2), T.2.2.1, T.2.2.2.1, T.2.2.2.2.1, T.2.2.2.2.2.1, T.2.2.2.2.2.2.1, T.2.2.2.2.2.2.2.1, T.2.2.2.2.2.2.2.2.1, T.2.2.2.2.2.2.2.2.2.1, T.2.2.2.2.2.2.2.2.2.2)
            else
              if q6 = 119 then
                (f_X0_numberAt T.2.2.2.2.2.1 p1 2).bind fun q30 =>
                (f_X0_numberAt T.2.2.2.2.2.1 p1 3).bind fun q32 =>
                (f_X0_numberAt T.2.2.2.2.2.1 p1 4).bind fun q34 =>
                (f_X5_open T.2.1.2.1 q2 q4 q30 q32 q34).bind fun q36 =>
                some (T.1, (T.2.1.1, q36, T.2.1.2.2), T.2.2.1, T.2.2.2.1, T.2.2.2.2.1, T.2.2.2.2.2.1, T.2.2.2.2.2.2.1, T.2.2.2.2.2.2.2.1, T.2.2.2.2.2.2.2.2.1, T.2.2.2.2.2.2.2.2.2.1, T.2.2.2.2.2.2.2.2.2.2)
              else
                if q6 = 120 then
                  (f_X5_close T.2.1.2.1 q2).bind fun q39 =>
                  some (T.1, (T.2.1.1, q39, T.2.1.2.2), T.2.2.1, T.2.2.2.1, T.2.2.2.2.1, T.2.2.2.2.2.1, T.2.2.2.2.2.2.1, T.2.2.2.2.2.2.2.1, T.2.2.2.2.2.2.2.2.1, T.2.2.2.2.2.2.2.2.2.1, T.2.2.2.2.2.2.2.2.2.2)
                else
                  some T
def f_X6_execute_c133 (T : MainS) : Option ((String ⊕ Int32) × MainS) :=
    (f_X2_push T.2.2.2.2.1 T.1).bind fun q2 =>
    (f_X1_copyFrom T.1 T.2.1).bind fun q4 =>
    some (.inr T.2.2.2.2.2.1.2.2.2.2.2, (q4, T.2.1, T.2.2.1, T.2.2.2.1, q2, T.2.2.2.2.2.1, T.2.2.2.2.2.2.1, T.2.2.2.2.2.2.2.1, T.2.2.2.2.2.2.2.2.1, T.2.2.2.2.2.2.2.2.2.1, T.2.2.2.2.2.2.2.2.2.2))
def f_X6_execute_c54 : Nat → MainS → Int32 → Option ((String ⊕ Int32) × MainS)
  | 0, _, _ => none
  | n + 1, T, v2 =>
    if T.2.2.2.2.2.1.2.2.2.2.2 ≤ v2 then
      f_X6_execute_c133 T
    else
      if 20 ≤ v2 then
        f_X6_execute_c133 T
      else
        (f_X6_isFaulty T v2).bind fun q8 =>
        if q8 = 0 then
          (f_X6_reasonAgainstCommand T v2).bind fun q11 =>
          if q11 = 0 then
            (f_X6_carryOut T v2).bind fun q14 =>
            f_X6_execute_c54 n q14 (v2 + 1)
          else
            (f_X6_reject T 4 v2).bind fun q16 =>
            some (.inl "java/lang/UnsupportedOperationException", (q16.1, q16.2.1, q16.2.2.1, q16.2.2.2.1, q16.2.2.2.2.1, q16.2.2.2.2.2.1, q16.2.2.2.2.2.2.1, q16.2.2.2.2.2.2.2.1, q16.2.2.2.2.2.2.2.2.1, q16.2.2.2.2.2.2.2.2.2.1, q11))
        else
          some (.inl "java/lang/IllegalStateException", T)
def f_X6_execute (T : MainS) : Option ((String ⊕ Int32) × MainS) :=
    (f_X0_parse T.2.2.2.2.2.1).bind fun q18 =>
    (f_X0_clearInput q18.2).bind fun q20 =>
    if q18.1 = 0 then
      some (.inl "java/lang/IllegalArgumentException", (T.1, T.2.1, T.2.2.1, T.2.2.2.1, T.2.2.2.2.1, q20, T.2.2.2.2.2.2.1, q20.2.2.1, T.2.2.2.2.2.2.2.2.1, T.2.2.2.2.2.2.2.2.2.1, T.2.2.2.2.2.2.2.2.2.2))
    else
      (f_X1_copyFrom T.2.1 T.1).bind fun q23 =>
      f_X6_execute_c54 200 (T.1, q23, T.2.2.1, T.2.2.2.1, T.2.2.2.2.1, q20, T.2.2.2.2.2.2.1, T.2.2.2.2.2.2.2.1, T.2.2.2.2.2.2.2.2.1, T.2.2.2.2.2.2.2.2.2.1, T.2.2.2.2.2.2.2.2.2.2) 0
abbrev modZ : ModS := (0, fun _ => 0, 0, 0, 0, 0, 0, 0, fun _ => 0, 0, fun _ => 0, 0, 0, 0, -1, fun _ => 0, 0)
