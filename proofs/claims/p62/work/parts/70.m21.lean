/-! ===== mathematics, 21: blocks are copied; what holds between the calls ===== -/
def cpA (a : Nat → Int32) (f t v : Nat) : Nat → Int32 := fun j => if 70 * t ≤ j ∧ j < 70 * t + v then a (j - 70 * t + 70 * f) else a j
theorem cpA_step (a : Nat → Int32) {f t v : Nat} (hft : f ≠ t) (hv : v < 70) : upd (cpA a f t v) (70 * t + v) (cpA a f t v (70 * f + v)) = cpA a f t (v + 1) := by
  funext j
  unfold upd cpA
  by_cases e : j = 70 * t + v
  · rw [if_pos e, if_neg (by omega), if_pos (by omega)]
    congr 1; omega
  · rw [if_neg e]
    by_cases e2 : 70 * t ≤ j ∧ j < 70 * t + v
    · rw [if_pos e2, if_pos (by omega)]
    · rw [if_neg e2, if_neg (by omega)]
theorem cpA_0 (a : Nat → Int32) (f t : Nat) : cpA a f t 0 = a := by
  funext j
  unfold cpA
  rw [if_neg (by omega)]
theorem cpA_in {a : Nat → Int32} {f t j : Nat} (h : j < 70) : cpA a f t 70 (70 * t + j) = a (70 * f + j) := by
  unfold cpA
  rw [if_pos (by omega)]
  congr 1; omega
theorem cpA_out {a : Nat → Int32} {f t j : Nat} (h : j < 70 * t ∨ 70 * t + 70 ≤ j) : cpA a f t 70 j = a j := by
  unfold cpA
  rw [if_neg (by omega)]
abbrev ModR : Type := Int32 × Int32 × Int32 × Int32 × Int32 × Int32 × (Nat → Int32) × Int32 × (Nat → Int32) × Int32 × Int32 × Int32 × Int32 × (Nat → Int32) × Int32
theorem nI_70 (a b : Nat) : (70 * nI a + nI b : Int32) = nI (70 * a + b) := by rw [show (70 : Int32) = nI 70 from rfl, nI_mulX, nI_add]
theorem copies_c2 {a : Nat → Int32} {f t : Nat} (hft : f ≠ t) (hf : f ≤ 10) (ht : t ≤ 10) (x1 : Int32) (R : ModR) : ∀ (n v : Nat), v ≤ 70 → 70 - v < n → f_X7_copies_c2 n (x1, cpA a f t v, R) (nI f) (nI t) (nI v) = some (x1, cpA a f t 70, R)
  | 0, v, _, hn => absurd hn (by omega)
  | n + 1, v, hv, hn => by
    rw [f_X7_copies_c2]
    by_cases e : v = 70
    · rw [if_pos (show (70 : Int32) ≤ nI v from nI_le (a := 70) (by omega) (by omega)), e]
    · rw [if_neg (show ¬ (70 : Int32) ≤ nI v from nI_ge (b := 70) (by omega) (by omega)), nI_70, nI_70, if_neg (nI_in (by omega) (by decide)), if_neg (nI_in (by omega) (by decide)), nI_clamp (by omega), nI_clamp (by omega), nI_1]
      have := copies_c2 (a := a) hft hf ht x1 R n (v + 1) (by omega) (by omega)
      rw [← cpA_step a hft (by omega)] at this
      exact this
theorem copiesR {M : ModS} {f t : Nat} (hft : f ≠ t) (hf : f ≤ 10) (ht : t ≤ 10) : f_X7_copies M (nI f) (nI t) = some (M.1, cpA M.2.1 f t 70, M.2.2) := by
  have := copies_c2 (a := M.2.1) hft hf ht M.1 M.2.2 200 0 (by omega) (by omega)
  rw [cpA_0] at this
  exact this
/-! the class's copies -/
def agT (T T' : TreeS) : Prop := (∀ i, i ≤ 24 → T'.1 i = T.1 i ∧ T'.2.1 i = T.2.1 i ∧ T'.2.2.1 i = T.2.2.1 i ∧ T'.2.2.2.1 i = T.2.2.2.1 i ∧ T'.2.2.2.2.1 i = T.2.2.2.2.1 i ∧ T'.2.2.2.2.2.1 i = T.2.2.2.2.2.1 i) ∧ T'.2.2.2.2.2.2 = T.2.2.2.2.2.2
theorem WF.agT {T T' : TreeS} {t : Tr} (h : WF T t) (ha : agT T T') : WF T' t := by
  obtain ⟨⟨⟨h1, h2⟩, h3, h4, h5, h6⟩, hs, hh, hr⟩ := h
  have hm : ∀ x ∈ t.slots, x ≤ 24 := fun x hx => (h2.mem x hx).2
  refine ⟨⟨⟨ha.2.trans h1, h2.congr (fun x hx => ?_)⟩, h3.congr (fun x hx => ?_), h4, fun s s1 s2 s3 => ?_, ?_⟩, srt_of hs (fun x hx => ?_), hpx_agr (fun x hx => ?_) hh, fun x hx => ?_⟩
  · obtain ⟨-, -, a3, a4, a5, -⟩ := ha.1 x (hm x hx); exact ⟨a3, a4, a5⟩
  · exact (ha.1 x (hm x hx)).2.2.2.2.2
  · exact ((ha.1 s s2).2.2.2.2.2).trans (h5 s s1 s2 s3)
  · exact ((ha.1 0 (by omega)).2.2.2.2.2).trans h6
  · exact (ha.1 x (hm x hx)).1
  · exact ⟨(ha.1 x (hm x hx)).1, (ha.1 x (hm x hx)).2.1⟩
  · rw [(ha.1 x (hm x hx)).1, (ha.1 x (hm x hx)).2.1]; exact hr x hx
theorem cp_lt {n i : Nat} (f g : Nat → Int32) (h : i < n) : pq_cp n f g i = f i := by unfold pq_cp; rw [if_pos h]
theorem copyData (T O : DataS) {a : Nat → Int32} {t : Tr} (h : DR O a t) : ∃ D, f_X1_copyFrom T O = some D ∧ DR D a t := by
  refine ⟨((pq_cp 25 O.1.1 T.1.1, pq_cp 25 O.1.2.1 T.1.2.1, pq_cp 25 O.1.2.2.1 T.1.2.2.1, pq_cp 25 O.1.2.2.2.1 T.1.2.2.2.1, pq_cp 25 O.1.2.2.2.2.1 T.1.2.2.2.2.1, pq_cp 25 O.1.2.2.2.2.2.1 T.1.2.2.2.2.2.1, O.1.2.2.2.2.2.2), (pq_cp 4 O.2.1.1 T.2.1.1, pq_cp 4 O.2.1.2.1 T.2.1.2.1, pq_cp 4 O.2.1.2.2.1 T.2.1.2.2.1, pq_cp 4 O.2.1.2.2.2 T.2.1.2.2.2), O.2.2), rfl, ?_⟩
  obtain ⟨h1, ⟨h2, h3⟩, h4, h5, h6⟩ := h
  have hm : ∀ x ∈ t.slots, x < 25 := fun x hx => by have := (h1.1.mem x hx).2; omega
  refine ⟨h1.agT ⟨fun i hi => ⟨cp_lt _ _ (by omega), cp_lt _ _ (by omega), cp_lt _ _ (by omega), cp_lt _ _ (by omega), cp_lt _ _ (by omega), cp_lt _ _ (by omega)⟩, rfl⟩, ⟨h2, fun i hi => ?_⟩, h4, fun w hw => ?_, fun w hw ho => ?_⟩
  · obtain ⟨g1, g2⟩ := h3 i hi
    exact ⟨g1.trans (cp_lt _ _ (hm _ (sl_mem hi))).symm, g2.trans (cp_lt _ _ (hm _ (sl_mem hi))).symm⟩
  · have := h5 w hw
    unfold WR1 at this ⊢
    show (pq_cp 4 O.2.1.2.2.2 T.2.1.2.2.2 w = 0 ∧ _) ∨ ∃ lo_1 hi_1 p_1 li_1 : Nat, _ ∧ _ ∧ _ ∧ _ ∧ _ ∧ pq_cp 4 O.2.1.1 T.2.1.1 w = nI lo_1 ∧ pq_cp 4 O.2.1.2.1 T.2.1.2.1 w = nI hi_1 ∧ pq_cp 4 O.2.1.2.2.1 T.2.1.2.2.1 w = nI p_1 ∧ pq_cp 4 O.2.1.2.2.2 T.2.1.2.2.2 w = nI li_1 ∧ _
    rw [cp_lt _ _ hw, cp_lt _ _ hw, cp_lt _ _ hw, cp_lt _ _ hw]
    exact this
  · replace ho : pq_cp 4 O.2.1.2.2.2 T.2.1.2.2.2 w ≠ 0 := ho
    rw [cp_lt _ _ hw] at ho
    have := h6 w hw ho
    have e : sumL (wA (pq_cp 25 O.1.1 T.1.1, pq_cp 25 O.1.2.1 T.1.2.1, pq_cp 25 O.1.2.2.1 T.1.2.2.1, pq_cp 25 O.1.2.2.2.1 T.1.2.2.2.1, pq_cp 25 O.1.2.2.2.2.1 T.1.2.2.2.2.1, pq_cp 25 O.1.2.2.2.2.2.1 T.1.2.2.2.2.2.1, O.1.2.2.2.2.2.2) (O.2.1.1 w) (O.2.1.2.1 w) (O.2.1.2.2.1 w)) t.slots = sumL (wA O.1 (O.2.1.1 w) (O.2.1.2.1 w) (O.2.1.2.2.1 w)) t.slots := sumL_congr fun x hx => wA_agr (T := O.1) ⟨cp_lt _ _ (hm x hx), cp_lt _ _ (hm x hx)⟩ _ _ _
    show nI (sumL (wA _ (pq_cp 4 O.2.1.1 T.2.1.1 w) (pq_cp 4 O.2.1.2.1 T.2.1.2.1 w) (pq_cp 4 O.2.1.2.2.1 T.2.1.2.2.1 w)) t.slots) ≤ pq_cp 4 O.2.1.2.2.2 T.2.1.2.2.2 w
    rw [cp_lt _ _ hw, cp_lt _ _ hw, cp_lt _ _ hw, cp_lt _ _ hw, e]
    exact this
/-! what holds between the calls -/
def HR (H : HistS) (a : Nat → Int32) (ch : Int32) : Prop := ∃ c nx : Nat, c ≤ 8 ∧ nx < 8 ∧ H.2.1 = nI nx ∧ H.2.2 = nI c ∧ ch = nI c ∧ ∀ k, k < c → ∃ t, DR (H.1 ((nx + 7 - k) % 8)) (fun j => a (70 * (c - k) + j)) t
def SR (D : DataS) (sv : Int32) (a : Nat → Int32) (sv' : Int32) : Prop := sv = sv' ∧ ((sv = 0) ∨ (sv = 1 ∧ ∃ t, DR D (fun j => a (630 + j)) t))
def OR (O : OutS) (ln : Nat → Int32) (sz : Int32) : Prop := ∃ n : Nat, n ≤ 168 ∧ O.2 = nI n ∧ sz = nI n ∧ ∀ i, i < n → O.1 i = ln i ∧ ∃ c : Nat, c ≤ 126 ∧ ln i = nI c
def IR (C : CmdS) (inp : Nat → Int32) (ty : Int32) : Prop := ∃ n : Nat, n ≤ 60 ∧ C.2.1 = nI n ∧ ty = nI n ∧ ∀ i, i < n → C.1 i = inp i ∧ ∃ c : Nat, 32 ≤ c ∧ c ≤ 126 ∧ inp i = nI c
def RR (r d c w e u : Int32) : Prop := r = w ∧ d = e ∧ c = u ∧ (w = 4 ↔ u ≠ 0)
def PR (T : MainS) (M : ModS) : Prop := (∃ t, DR T.1 M.2.1 t) ∧ HR T.2.2.2.2.1 M.2.1 M.2.2.1 ∧ SR T.2.2.1 T.2.2.2.1 M.2.1 M.2.2.2.1 ∧ OR T.2.2.2.2.2.2.1 M.2.2.2.2.2.2.2.2.1 M.2.2.2.2.2.2.2.2.2.1 ∧ IR T.2.2.2.2.2.1 M.2.2.2.2.2.2.2.2.2.2.1 M.2.2.2.2.2.2.2.2.2.2.2.1 ∧ (T.2.2.2.2.2.2.2.1 = M.2.2.2.2.2.2.2.2.2.2.2.2.2.2.1 ∧ ((M.2.2.2.2.2.2.2.2.2.2.2.2.2.2.1 = -1) ∨ ∃ n : Nat, n ≤ 60 ∧ M.2.2.2.2.2.2.2.2.2.2.2.2.2.2.1 = nI n)) ∧ RR T.2.2.2.2.2.2.2.2.1 T.2.2.2.2.2.2.2.2.2.1 T.2.2.2.2.2.2.2.2.2.2 M.2.2.2.2.2.1 M.2.2.2.2.2.2.1 M.2.2.2.2.2.2.2.1
theorem HR.congr {H : HistS} {a a' : Nat → Int32} {ch : Int32} (h : HR H a ch) (he : ∀ j, 70 ≤ j → j < 700 → a' j = a j) : HR H a' ch := by
  obtain ⟨c, nx, h1, h2, h3, h4, h5, h6⟩ := h
  refine ⟨c, nx, h1, h2, h3, h4, h5, fun k hk => ?_⟩
  obtain ⟨t, ht⟩ := h6 k hk
  exact ⟨t, ht.congr (fun j hj => he _ (by omega) (by omega))⟩
theorem SR.congr {D : DataS} {sv sv' : Int32} {a a' : Nat → Int32} (h : SR D sv a sv') (he : ∀ j, 70 ≤ j → j < 700 → a' j = a j) : SR D sv a' sv' := by
  obtain ⟨h1, h2⟩ := h
  refine ⟨h1, ?_⟩
  rcases h2 with h2 | ⟨h2, t, ht⟩
  · exact Or.inl h2
  · exact Or.inr ⟨h2, t, ht.congr (fun j hj => he _ (by omega) (by omega))⟩
/-- the reference's thrown and result say nothing of the rest -/
theorem PR.thr {T : MainS} {M : ModS} (h : PR T M) (x : Int32) : PR T (x, M.2) := h
theorem beginsR (M : ModS) : f_X7_begins M = some (M.1, cpA M.2.1 0 10 70, M.2.2) := by
  unfold f_X7_begins
  rw [show (10 : Int32) = nI 10 from rfl, show (0 : Int32) = nI 0 from rfl, copiesR (by omega) (by omega) (by omega)]; rfl
theorem begun_lo {a : Nat → Int32} {j : Nat} (h : j < 700) : cpA a 0 10 70 j = a j := cpA_out (by omega)
theorem begun_hi {a : Nat → Int32} {j : Nat} (h : j < 70) : cpA a 0 10 70 (700 + j) = a j := by
  have := cpA_in (a := a) (f := 0) (t := 10) h
  rw [Nat.mul_zero, Nat.zero_add] at this
  exact this
/-- a change that was refused: all is as before -/
theorem ends_bad {M : ModS} {by_ p1 p2 p3 p4 p : Int32} (hb : (by_ = 1 ∧ p1 = p) ∨ (by_ = 2 ∧ p2 = p) ∨ (by_ = 3 ∧ p3 = p) ∨ (by_ = 4 ∧ p4 = p)) (hp : p ≠ 0) : f_X7_ends M by_ p1 p2 p3 p4 = some (0, (p, cpA M.2.1 10 0 70, M.2.2)) := by
  have hc : ∀ x : Int32, f_X7_copies (x, M.2) 10 0 = some (x, cpA M.2.1 10 0 70, M.2.2) := fun x => copiesR (M := (x, M.2)) (f := 10) (t := 0) (by omega) (by omega) (by omega)
  unfold f_X7_ends
  rcases hb with ⟨rfl, rfl⟩ | ⟨rfl, rfl⟩ | ⟨rfl, rfl⟩ | ⟨rfl, rfl⟩
  · rw [if_pos rfl, if_neg hp]
    show (f_X7_copies (p1, M.2) 10 0).bind _ = _
    rw [hc]; rfl
  · rw [if_neg (by decide), if_pos rfl, if_neg hp]
    show (f_X7_copies (p2, M.2) 10 0).bind _ = _
    rw [hc]; rfl
  · rw [if_neg (by decide), if_neg (by decide), if_pos rfl, if_neg hp]
    show (f_X7_copies (p3, M.2) 10 0).bind _ = _
    rw [hc]; rfl
  · rw [if_neg (by decide), if_neg (by decide), if_neg (by decide), if_pos rfl, if_neg hp]
    show (f_X7_copies (p4, M.2) 10 0).bind _ = _
    rw [hc]; rfl
/-- blocks 2 to v go down by one -/
def dnA (a : Nat → Int32) (v : Nat) : Nat → Int32 := fun j => if 70 ≤ j ∧ j < 70 * v then a (j + 70) else a j
theorem dnA_step (a : Nat → Int32) {v : Nat} (hv : 1 ≤ v) : cpA (dnA a v) (v + 1) v 70 = dnA a (v + 1) := by
  funext j
  unfold cpA dnA
  by_cases e : 70 * v ≤ j ∧ j < 70 * v + 70
  · rw [if_pos e, if_neg (by omega), if_pos (by omega)]
    congr 1; omega
  · rw [if_neg e]
    by_cases e2 : 70 ≤ j ∧ j < 70 * v
    · rw [if_pos e2, if_pos (by omega)]
    · rw [if_neg e2, if_neg (by omega)]
theorem ends_c104 {x1 c : Int32} {a : Nat → Int32} {k : Nat} {R : Int32 × Int32 × Int32 × Int32 × Int32 × (Nat → Int32) × Int32 × (Nat → Int32) × Int32 × Int32 × Int32 × Int32 × (Nat → Int32) × Int32} (hc : c = nI k) (hk : k < 9) : f_X7_ends_c104 (x1, a, c, R) = some (R.2.1, (x1, cpA a 10 (k + 1) 70, nI (k + 1), R)) := by
  unfold f_X7_ends_c104
  rw [hc]
  show (f_X7_copies (x1, a, nI k + 1, R) 10 (nI k + 1)).bind _ = _
  rw [nI_1, show (10 : Int32) = nI 10 from rfl, copiesR (by omega) (by omega) (by omega)]; rfl
theorem ends_c71 {x1 : Int32} {a : Nat → Int32} {R : Int32 × Int32 × Int32 × Int32 × Int32 × (Nat → Int32) × Int32 × (Nat → Int32) × Int32 × Int32 × Int32 × Int32 × (Nat → Int32) × Int32} : ∀ (n v : Nat), 1 ≤ v → v ≤ 8 → 8 - v < n → f_X7_ends_c71 n (x1, dnA a v, nI 8, R) (nI v) = some (R.2.1, (x1, cpA (dnA a 8) 10 8 70, nI 8, R))
  | 0, v, _, _, hn => absurd hn (by omega)
  | n + 1, v, h1, h2, hn => by
    rw [f_X7_ends_c71]
    by_cases e : v = 8
    · rw [if_pos (show (8 : Int32) ≤ nI v from nI_le (a := 8) (by omega) (by omega)), e]
      exact ends_c104 (k := 7) (nI_pred 7) (by omega)
    · rw [if_neg (show ¬ (8 : Int32) ≤ nI v from nI_ge (b := 8) (by omega) (by omega)), nI_1, copiesR (by omega) (by omega) (by omega), Option.bind_some]
      show f_X7_ends_c71 n (x1, cpA (dnA a v) (v + 1) v 70, nI 8, R) (nI (v + 1)) = _
      rw [dnA_step a h1]
      exact ends_c71 n (v + 1) (by omega) (by omega) (by omega)
/-- a change that came to be -/
theorem ends_ok {M : ModS} {p1 p2 p3 p4 : Int32} {c : Nat} (hc : M.2.2.1 = nI c) (h8 : c ≤ 8) : f_X7_ends M 0 p1 p2 p3 p4 = some (M.2.2.2.2.1, (0, cpA (if c = 8 then dnA M.2.1 8 else M.2.1) 10 (if c = 8 then 8 else c + 1) 70, nI (if c = 8 then 8 else c + 1), M.2.2.2)) := by
  unfold f_X7_ends
  rw [if_neg (by decide), if_neg (by decide), if_neg (by decide), if_neg (by decide), hc]
  by_cases e : c = 8
  · rw [if_pos (by rw [e]; rfl), e, if_pos rfl, if_pos rfl]
    have h0 : dnA M.2.1 1 = M.2.1 := by funext j; unfold dnA; rw [if_neg (by omega)]
    have := ends_c71 (x1 := 0) (a := M.2.1) (R := M.2.2.2) 200 1 (by omega) (by omega) (by omega)
    rw [h0] at this
    exact this
  · rw [if_neg (show ¬ nI c = 8 from fun h9 => e ((nI_eq (b := 8) (by omega) (by omega)).mp h9)), if_neg e, if_neg e]
    exact ends_c104 (x1 := 0) (a := M.2.1) (R := M.2.2.2) rfl (by omega)
/-- .. and the history that follows it; b holds the data ahead of it in block 10 -/
theorem push_ok {H : HistS} {a b : Nat → Int32} {ch : Int32} {O : DataS} {t : Tr} (h : HR H a ch) (hO : DR O (fun j => b (700 + j)) t) (hb : ∀ j, 70 ≤ j → j < 700 → b j = a j) : ∃ (H' : HistS) (c : Nat), f_X2_push H O = some H' ∧ ch = nI c ∧ c ≤ 8 ∧ HR H' (cpA (if c = 8 then dnA b 8 else b) 10 (if c = 8 then 8 else c + 1) 70) (nI (if c = 8 then 8 else c + 1)) := by
  obtain ⟨c, nx, h1, h2, h3, h4, h5, h6⟩ := h
  obtain ⟨D, e1, e2⟩ := copyData (H.1 nx) O hO
  refine ⟨(va_up H.1 nx D, nI ((nx + 1) % 8), nI (if c = 8 then 8 else c + 1)), c, ?_, h5, h1, ?_⟩
  · unfold f_X2_push
    rw [h3, h4, if_neg (fun h9 => ?_), nI_clamp (by omega), e1, Option.bind_some, nI_1, nI_1]
    · congr 2
      congr 1
      · by_cases e : nx = 7
        · rw [e]; rfl
        · rw [if_neg (show ¬ (8 : Int32) ≤ nI (nx + 1) from nI_ge (b := 8) (by omega) (by omega)), Nat.mod_eq_of_lt (by omega)]
      · by_cases e : c = 8
        · rw [e]; rfl
        · rw [if_neg (show ¬ (8 : Int32) ≤ nI c from nI_ge (b := 8) (by omega) (by omega)), if_neg e]
    · rcases h9 with h9 | h9
      · exact nI_pos (by omega) h9
      · exact (show ¬ (8 : Int32) ≤ nI nx from nI_ge (b := 8) (by omega) (by omega)) h9
  · refine ⟨if c = 8 then 8 else c + 1, (nx + 1) % 8, by split <;> omega, by omega, rfl, rfl, rfl, fun k hk => ?_⟩
    by_cases e0 : k = 0
    · refine ⟨t, ?_⟩
      have ei : ((nx + 1) % 8 + 7 - k) % 8 = nx := by omega
      show DR (va_up H.1 nx D (((nx + 1) % 8 + 7 - k) % 8)) _ t
      rw [ei, va_up, if_pos rfl]
      refine e2.congr (fun j hj => ?_)
      rw [e0, Nat.sub_zero, cpA_in hj]
      by_cases e8 : c = 8
      · rw [if_pos e8]; unfold dnA; rw [if_neg (by omega)]
      · rw [if_neg e8]
    · have hk8 : k < 8 := by split at hk <;> omega
      have ei : ((nx + 1) % 8 + 7 - k) % 8 ≠ nx := by omega
      have ei2 : ((nx + 1) % 8 + 7 - k) % 8 = (nx + 7 - (k - 1)) % 8 := by omega
      have hk1 : k - 1 < c := by split at hk <;> omega
      obtain ⟨t9, ht9⟩ := h6 (k - 1) hk1
      refine ⟨t9, ?_⟩
      show DR (va_up H.1 nx D (((nx + 1) % 8 + 7 - k) % 8)) _ t9
      rw [va_up, if_neg ei, ei2]
      refine ht9.congr (fun j hj => ?_)
      show cpA _ 10 _ 70 (70 * (_ - k) + j) = a (70 * (c - (k - 1)) + j)
      by_cases e8 : c = 8
      · rw [if_pos e8, if_pos e8, cpA_out (by omega)]
        unfold dnA
        rw [if_pos (by omega), hb _ (by omega) (by omega)]
        congr 1; omega
      · rw [if_neg e8, if_neg e8, cpA_out (by omega), hb _ (by omega) (by omega)]
        congr 1; omega
