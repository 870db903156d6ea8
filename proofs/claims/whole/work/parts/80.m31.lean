/-! ===== mathematics, 31: a step of the batch ===== -/
theorem num_at {C : CmdS} {k j : Nat} (hk : k < 20) (hj : j < 5) : f_X0_numberAt C (nI k) (nI j) = some (C.2.2.2.2.1 (5 * k + j)) := by
  unfold f_X0_numberAt
  rw [show (5 : Int32) = nI 5 from rfl, nI_mulX, nI_add, rdn (by omega) (by decide), Nat.mul_comm]
theorem kind_at {C : CmdS} {k : Nat} (hk : k < 20) : f_X0_kindAt C (nI k) = some (C.2.2.2.1 k) := by
  unfold f_X0_kindAt
  rw [rdn hk (by decide)]
theorem does_eq {X : ModS} {k : Nat} {cm : Nat → Int32} (hc : X.2.2.2.2.2.2.2.2.2.2.2.2.2.2.2.1 = cm) (hk : k < 20) : f_X7_does X (nI (6 * k)) = (if cm (6 * k) = 100 then f_X7_deletes X (cm (6 * k + 1)) else if cm (6 * k) = 105 then f_X7_inserts X (cm (6 * k + 1)) (cm (6 * k + 2)) else if cm (6 * k) = 109 then f_X7_moves X (cm (6 * k + 1)) (cm (6 * k + 2)) else if cm (6 * k) = 112 then f_X7_prefers X (cm (6 * k + 1)) (cm (6 * k + 2)) else if cm (6 * k) = 114 then f_X7_clears X (cm (6 * k + 1)) (cm (6 * k + 2)) else if cm (6 * k) = 119 then f_X7_sets X (cm (6 * k + 1)) (cm (6 * k + 2)) (cm (6 * k + 3)) (cm (6 * k + 4)) (cm (6 * k + 5)) else f_X7_removes X (cm (6 * k + 1))) := by
  unfold f_X7_does
  rw [hc, show (1 : Int32) = nI 1 from rfl, show (2 : Int32) = nI 2 from rfl, show (3 : Int32) = nI 3 from rfl, show (4 : Int32) = nI 4 from rfl, show (5 : Int32) = nI 5 from rfl, nI_add, nI_add, nI_add, nI_add, nI_add, if_neg (nI_in (show 6 * k + 1 < 366 by omega) (by decide)), if_neg (nI_in (show 6 * k + 2 < 366 by omega) (by decide)), if_neg (nI_in (show 6 * k < 366 by omega) (by decide)), if_neg (nI_in (show 6 * k + 3 < 366 by omega) (by decide)), if_neg (nI_in (show 6 * k + 4 < 366 by omega) (by decide)), if_neg (nI_in (show 6 * k + 5 < 366 by omega) (by decide)), nI_clamp (n := 6 * k) (by omega), nI_clamp (n := 6 * k + 1) (by omega), nI_clamp (n := 6 * k + 2) (by omega), nI_clamp (n := 6 * k + 3) (by omega), nI_clamp (n := 6 * k + 4) (by omega), nI_clamp (n := 6 * k + 5) (by omega), bd_id, bd_id, bd_id, bd_id, bd_id, bd_id, bd_id]
abbrev mk (X : ModS) (x1 : Int32) (a : Nat → Int32) (res : Int32) : ModS := mset (x1, X.2) a res X.2.2.2.2.2.1 X.2.2.2.2.2.2.1 X.2.2.2.2.2.2.2.1
/-- what a command comes to -/
def stepR (D : DataS) (X : ModS) (a : Nat → Int32) (x1 res : Int32) (fa re : Option Int32) (co : Option DataS) (do_ : Option (Int32 × ModS)) : Prop :=
  (∃ (f by_ : Int32), fa = some f ∧ f ≠ 0 ∧ (by_ = 1 ∨ by_ = 2 ∨ by_ = 4) ∧ do_ = some (by_, mk X x1 a res)) ∨
  (∃ (r d : Int32) (a' : Nat → Int32) (res' : Int32), fa = some 0 ∧ re = some r ∧ r ≠ 0 ∧ do_ = some (3, mset (x1, X.2) a' res' r d 0) ∧ ∀ j, 70 ≤ j → a' j = a j) ∨
  (∃ (D' : DataS) (a' : Nat → Int32) (m : Int32) (t' : Tr), fa = some 0 ∧ re = some 0 ∧ co = some D' ∧ do_ = some (0, mk X x1 a' m) ∧ (∀ j, 70 ≤ j → a' j = a j) ∧ DR D' a' t')
/-- the class's step, on the data alone -/
def faD (D : DataS) (kd q0 q1 q2 q4 : Int32) : Option Int32 :=
  if kd = 100 then (f_X4_slotOf D.1 q0).bind fun q => if q = 0 then some 1 else some 0
  else if kd = 109 then (f_X4_slotOf D.1 q0).bind fun q => if q = 0 then some 1 else some 0
  else if kd = 112 then (f_X4_slotOf D.1 q0).bind fun q => if q = 0 then some 1 else some 0
  else if kd = 114 then (if q0 ≤ q1 then some 0 else some 1)
  else if kd = 119 then (f_X6_isWindow q0).bind fun q => if q = 0 then some 1 else if q2 < q1 then some 1 else (f_X6_isLimit q4).bind fun q => if q = 0 then some 1 else some 0
  else if kd = 120 then (f_X6_isWindow q0).bind fun q => if q = 0 then some 1 else (f_X5_isOpen D.2.1 q0).bind fun q => if q = 0 then some 1 else some 0
  else some 0
def reD (D : DataS) (kd q0 q1 q2 q3 q4 : Int32) : Option Int32 :=
  if kd = 105 then f_X1_reasonAgainstInsert D q0 q1
  else if kd = 109 then (f_X4_slotOf D.1 q0).bind fun q => f_X1_reasonAgainstMove D q q1
  else if kd = 112 then (f_X4_slotOf D.1 q0).bind fun q => f_X1_reasonAgainstPriority D q q1
  else if kd = 119 then f_X1_reasonAgainstWindow D q1 q2 q3 q4
  else some 0
def coD (D : DataS) (kd q0 q1 q2 q3 q4 : Int32) : Option DataS :=
  if kd = 100 then (f_X4_slotOf D.1 q0).bind fun q => (f_X1_deletePoint D q).bind fun q => some q.2
  else if kd = 105 then (f_X1_insertPoint D q0 q1).bind fun q => some q.2
  else if kd = 109 then (f_X4_slotOf D.1 q0).bind fun q => (f_X1_movePoint D q q1).bind fun q => some q.2
  else if kd = 112 then (f_X4_slotOf D.1 q0).bind fun q => (f_X1_setPriority D q q1).bind fun q => some q.2
  else if kd = 114 then (f_X4_removeRange D.1 q0 q1).bind fun q => some (q.2, D.2.1, D.2.2)
  else if kd = 119 then (f_X5_open D.2.1 q0 q1 q2 q3 q4).bind fun q => some (D.1, q, D.2.2)
  else if kd = 120 then (f_X5_close D.2.1 q0).bind fun q => some (D.1, q, D.2.2)
  else some D
abbrev dr (T : MainS) (D : DataS) : MainS := (T.1, D, T.2.2)
theorem sb_id {α : Type} (o : Option α) : (o.bind fun q => some q) = o := by
  match o with
  | none => rfl
  | some _ => rfl
theorem fault_eq {T : MainS} {D : DataS} {k : Nat} {ks ns : Nat → Int32} (h1 : T.2.2.2.2.2.1.2.2.2.1 = ks) (h2 : T.2.2.2.2.2.1.2.2.2.2.1 = ns) (hk : k < 20) : f_X6_isFaulty (dr T D) (nI k) = faD D (ks k) (ns (5 * k)) (ns (5 * k + 1)) (ns (5 * k + 2)) (ns (5 * k + 4)) := by
  have a0 : f_X0_numberAt T.2.2.2.2.2.1 (nI k) 0 = some (ns (5 * k)) := by rw [← h2]; exact num_at (j := 0) hk (by omega)
  have a1 : f_X0_numberAt T.2.2.2.2.2.1 (nI k) 1 = some (ns (5 * k + 1)) := by rw [← h2]; exact num_at (j := 1) hk (by omega)
  have a2 : f_X0_numberAt T.2.2.2.2.2.1 (nI k) 2 = some (ns (5 * k + 2)) := by rw [← h2]; exact num_at (j := 2) hk (by omega)
  have a4 : f_X0_numberAt T.2.2.2.2.2.1 (nI k) 4 = some (ns (5 * k + 4)) := by rw [← h2]; exact num_at (j := 4) hk (by omega)
  have ak : f_X0_kindAt T.2.2.2.2.2.1 (nI k) = some (ks k) := by rw [← h1]; exact kind_at hk
  unfold f_X6_isFaulty faD
  simp only [a0, a1, a2, a4, ak, Option.bind_some]
theorem reason_eq {T : MainS} {D : DataS} {k : Nat} {ks ns : Nat → Int32} (h1 : T.2.2.2.2.2.1.2.2.2.1 = ks) (h2 : T.2.2.2.2.2.1.2.2.2.2.1 = ns) (hk : k < 20) : f_X6_reasonAgainstCommand (dr T D) (nI k) = reD D (ks k) (ns (5 * k)) (ns (5 * k + 1)) (ns (5 * k + 2)) (ns (5 * k + 3)) (ns (5 * k + 4)) := by
  have a0 : f_X0_numberAt T.2.2.2.2.2.1 (nI k) 0 = some (ns (5 * k)) := by rw [← h2]; exact num_at (j := 0) hk (by omega)
  have a1 : f_X0_numberAt T.2.2.2.2.2.1 (nI k) 1 = some (ns (5 * k + 1)) := by rw [← h2]; exact num_at (j := 1) hk (by omega)
  have a2 : f_X0_numberAt T.2.2.2.2.2.1 (nI k) 2 = some (ns (5 * k + 2)) := by rw [← h2]; exact num_at (j := 2) hk (by omega)
  have a3 : f_X0_numberAt T.2.2.2.2.2.1 (nI k) 3 = some (ns (5 * k + 3)) := by rw [← h2]; exact num_at (j := 3) hk (by omega)
  have a4 : f_X0_numberAt T.2.2.2.2.2.1 (nI k) 4 = some (ns (5 * k + 4)) := by rw [← h2]; exact num_at (j := 4) hk (by omega)
  have ak : f_X0_kindAt T.2.2.2.2.2.1 (nI k) = some (ks k) := by rw [← h1]; exact kind_at hk
  unfold f_X6_reasonAgainstCommand reD
  simp only [a0, a1, a2, a3, a4, ak, Option.bind_some, sb_id]
theorem carry_eq {T : MainS} {D D' : DataS} {k : Nat} {ks ns : Nat → Int32} (h1 : T.2.2.2.2.2.1.2.2.2.1 = ks) (h2 : T.2.2.2.2.2.1.2.2.2.2.1 = ns) (hk : k < 20) (h : coD D (ks k) (ns (5 * k)) (ns (5 * k + 1)) (ns (5 * k + 2)) (ns (5 * k + 3)) (ns (5 * k + 4)) = some D') : f_X6_carryOut (dr T D) (nI k) = some (dr T D') := by
  have a0 : f_X0_numberAt T.2.2.2.2.2.1 (nI k) 0 = some (ns (5 * k)) := by rw [← h2]; exact num_at (j := 0) hk (by omega)
  have a1 : f_X0_numberAt T.2.2.2.2.2.1 (nI k) 1 = some (ns (5 * k + 1)) := by rw [← h2]; exact num_at (j := 1) hk (by omega)
  have a2 : f_X0_numberAt T.2.2.2.2.2.1 (nI k) 2 = some (ns (5 * k + 2)) := by rw [← h2]; exact num_at (j := 2) hk (by omega)
  have a3 : f_X0_numberAt T.2.2.2.2.2.1 (nI k) 3 = some (ns (5 * k + 3)) := by rw [← h2]; exact num_at (j := 3) hk (by omega)
  have a4 : f_X0_numberAt T.2.2.2.2.2.1 (nI k) 4 = some (ns (5 * k + 4)) := by rw [← h2]; exact num_at (j := 4) hk (by omega)
  have ak : f_X0_kindAt T.2.2.2.2.2.1 (nI k) = some (ks k) := by rw [← h1]; exact kind_at hk
  have e : f_X6_carryOut (dr T D) (nI k) = (coD D (ks k) (ns (5 * k)) (ns (5 * k + 1)) (ns (5 * k + 2)) (ns (5 * k + 3)) (ns (5 * k + 4))).bind fun D' => some (dr T D') := by
    unfold f_X6_carryOut coD
    simp only [a0, a1, a2, a3, a4, ak, Option.bind_some]
    by_cases k1 : ks k = 100
    · rw [if_pos k1, if_pos k1, Option.bind_assoc]
      congr 1; funext q; rw [Option.bind_assoc]; rfl
    · rw [if_neg k1, if_neg k1]
      by_cases k2 : ks k = 105
      · rw [if_pos k2, if_pos k2, Option.bind_assoc]; rfl
      · rw [if_neg k2, if_neg k2]
        by_cases k3 : ks k = 109
        · rw [if_pos k3, if_pos k3, Option.bind_assoc]
          congr 1; funext q; rw [Option.bind_assoc]; rfl
        · rw [if_neg k3, if_neg k3]
          by_cases k4 : ks k = 112
          · rw [if_pos k4, if_pos k4, Option.bind_assoc]
            congr 1; funext q; rw [Option.bind_assoc]; rfl
          · rw [if_neg k4, if_neg k4]
            by_cases k5 : ks k = 114
            · rw [if_pos k5, if_pos k5, Option.bind_assoc]; rfl
            · rw [if_neg k5, if_neg k5]
              by_cases k6 : ks k = 119
              · rw [if_pos k6, if_pos k6, Option.bind_assoc]; rfl
              · rw [if_neg k6, if_neg k6]
                by_cases k7 : ks k = 120
                · rw [if_pos k7, if_pos k7, Option.bind_assoc]; rfl
                · rw [if_neg k7, if_neg k7]; rfl
  rw [e, h, Option.bind_some]
