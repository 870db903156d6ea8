/-! ===== p62: what the law holds of the tree, of a range ===== -/
theorem fcmp_num {r : UInt32} (h : FP.Core.fIsNaN r = false) : cmpValue (FP.fcmp r r) .l = 0 := by
  have : FP.fcmp r r = some .eq := FP.Core.fcmp_self ((FP.Core.notNaN_iff32 r).mp h)
  rw [this]; rfl
theorem ddiv_nn (s : Int32) {n : Int32} (hn : n ≠ 0) : FP.Core.dIsNaN (FP.ddiv (FP.i2d s) (FP.i2d n)) = false := FP.Core.ddiv_out (FP.Core.i2d_fin _).notNaN (FP.Core.i2d_fin _) (fun h => FP.Core.i2d_ne_zero hn ((FP.Core.zero_bits2 _).mp h))
theorem fdiv_nn (s : Int32) {n : Int32} (hn : n ≠ 0) : FP.Core.fIsNaN (FP.fdiv (FP.i2f s) (FP.i2f n)) = false := FP.Core.fdiv_out (FP.Core.i2f_fin _).notNaN (FP.Core.i2f_fin _) (fun h => FP.Core.i2f_ne_zero hn ((FP.Core.zero_bits232 _).mp h))
theorem hh_keyAt_no {T : MainS} {t : Tr} (h : WF T.1.1 t) : h_keyAt T (nI t.size) = some (-30000, T) := by
  unfold h_keyAt
  rw [a_keyAt_no h]; rfl
theorem hh_kbp_no {T : MainS} {t : Tr} (h : WF T.1.1 t) : h_keyByPriority T (nI t.size) = some (-30000, T) := by
  unfold h_keyByPriority
  rw [a_kbp_no h]; rfl
theorem hh_root {T : MainS} {t : Tr} (h : WF T.1.1 t) : h_root T = some (if 0 < t.size then nI (kN T.1.1 t t.rt0) else -30000, T) := by
  unfold h_root
  rw [a_root h]
  by_cases e : 0 < t.size
  · rw [if_pos e, if_pos e]; rfl
  · rw [if_neg e, if_neg e]; rfl
theorem lw_wM0 {g : pq_g} {a : Nat → Nat} {T : MainS} {E E1 : va_W} {A : Nat → Prop} {s : State} {H H1 : Heap} {locs locs1 : List Loc} (M0 : lwM g a T E A s H locs) (hA : ∀ q : Nat, s.heap.size ≤ q → A q) (hF : va_P g.1 pq_cl E H1) (hP1 : va_P g.1 pq_cl (mainW g a T ++ E1) H1) (hD1 : va_D (fun _ => True) E1) (hz : ∀ q ∈ E1, H.size ≤ q.1) (hS1 : va_S A s.heap H1 locs1) : lwM g a T (E ++ E1) A s H1 locs1 := by
  have h := lw_new M0.1 M0.2.1 M0.2.2 hA hD1 hz
  rw [List.append_assoc] at h
  exact ⟨va_P.app (pq_P1 hP1) (va_P.app hF (pq_P2 hP1)), h, hS1⟩
theorem pr_out {T : MainS} {M : ModS} (h : PR T M) {O : OutS} {L : List Nat} (hO : OT O L) : ∃ M' : ModS, PR (mo T O) M' :=
  ⟨_, h.out (x := 0) (ln := O.1) (sz := O.2) (n := L.length) ⟨hO.2.1, hO.1, hO.1, fun i hi => ⟨rfl, L.getD i 0, hO.2.2.2 _ (getD_mem hi), hO.2.2.1 i hi⟩⟩⟩
/-! ranges -/
def rF (T : TreeS) (t : Tr) (lo k : Nat) : Int32 := if min k (aHi T t lo) = 0 then -30000 else nI (kN T t (min k (aHi T t lo) - 1))
def rC (T : TreeS) (t : Tr) (lo k : Nat) : Int32 := if aLo T t lo < k then nI (kN T t (aLo T t lo)) else -30000
def rB (T : TreeS) (t : Tr) (lo hi k : Nat) : Int32 := if aLo T t lo < min k (aHi T t hi) then nI (kN T t (t.tp (aLo T t lo) (min k (aHi T t hi) - 1))) else -30000
def rN (T : TreeS) (t : Tr) (lo hi : Nat) (p : Int32) (k : Nat) : Nat := sumR (fun i => wA T (nI lo) (nI hi) p (t.sl i)) 0 k
def rS (T : TreeS) (t : Tr) (lo hi k : Nat) : Nat := sumR (fun i => if nI lo ≤ T.1 (t.sl i) ∧ T.1 (t.sl i) ≤ nI hi then pn T (t.sl i) else 0) 0 k
theorem le_hi {T : TreeS} {t : Tr} (h : WF T t) {k : Nat} (hk : k < t.size) (x : Nat) : nI (kN T t k) ≤ nI x ↔ k < aHi T t x := by
  have := cnt_iff (dwn_le (nI x)) h.2.1 k hk
  rw [(kN_ok h hk).1] at this
  exact ⟨fun h9 => this.mp (decide_eq_true h9), fun h9 => of_decide_eq_true (this.mpr h9)⟩
theorem lt_lo {T : TreeS} {t : Tr} (h : WF T t) {k : Nat} (hk : k < t.size) (x : Nat) : nI (kN T t k) < nI x ↔ k < aLo T t x := by
  have := cnt_iff (dwn_lt (nI x)) h.2.1 k hk
  rw [(kN_ok h hk).1] at this
  exact ⟨fun h9 => this.mp (decide_eq_true h9), fun h9 => of_decide_eq_true (this.mpr h9)⟩
theorem aHi_le (T : TreeS) (t : Tr) (x : Nat) : aHi T t x ≤ t.size := cnt_le (T := T) (p := ple (nI x)) (t := t)
theorem aLo_le (T : TreeS) (t : Tr) (x : Nat) : aLo T t x ≤ t.size := cnt_le (T := T) (p := plt (nI x)) (t := t)
theorem rF_s1 {T : TreeS} {t : Tr} {lo k : Nat} (e : k < aHi T t lo) : rF T t lo (k + 1) = nI (kN T t k) := by
  unfold rF
  rw [Nat.min_eq_left (by omega), if_neg (by omega), Nat.add_sub_cancel]
theorem rF_s2 {T : TreeS} {t : Tr} {lo k : Nat} (e : ¬ k < aHi T t lo) : rF T t lo (k + 1) = rF T t lo k := by
  unfold rF
  rw [Nat.min_eq_right (by omega), Nat.min_eq_right (by omega)]
theorem rC_s1 {T : TreeS} {t : Tr} {lo k : Nat} (e : k < aLo T t lo) : rC T t lo (k + 1) = rC T t lo k := by
  unfold rC
  rw [if_neg (by omega), if_neg (by omega)]
theorem rC_s2 {T : TreeS} {t : Tr} {lo k : Nat} (e : aLo T t lo = k) : rC T t lo (k + 1) = nI (kN T t k) ∧ rC T t lo k = -30000 := by
  unfold rC
  rw [if_pos (by omega), if_neg (by omega), e]
  exact ⟨rfl, rfl⟩
theorem rC_s3 {T : TreeS} {t : Tr} {lo k : Nat} (e : aLo T t lo < k) : rC T t lo (k + 1) = rC T t lo k ∧ rC T t lo k = nI (kN T t (aLo T t lo)) := by
  unfold rC
  rw [if_pos (by omega), if_pos e]
  exact ⟨rfl, rfl⟩
theorem rN_s {T : TreeS} {t : Tr} {lo hi k : Nat} {p : Int32} : rN T t lo hi p (k + 1) = rN T t lo hi p k + wA T (nI lo) (nI hi) p (t.sl k) := sumR_succ _ _
theorem rS_s {T : TreeS} {t : Tr} {lo hi k : Nat} : rS T t lo hi (k + 1) = rS T t lo hi k + (if nI lo ≤ T.1 (t.sl k) ∧ T.1 (t.sl k) ≤ nI hi then pn T (t.sl k) else 0) := sumR_succ _ _
theorem out_s {T : TreeS} {t : Tr} (h : WF T t) {lo hi k : Nat} (hk : k < t.size) (e : k < aLo T t lo ∨ ¬ k < aHi T t hi) (p : Int32) : rN T t lo hi p (k + 1) = rN T t lo hi p k ∧ rS T t lo hi (k + 1) = rS T t lo hi k ∧ rB T t lo hi (k + 1) = rB T t lo hi k := by
  have hno : ¬ (nI lo ≤ T.1 (t.sl k) ∧ T.1 (t.sl k) ≤ nI hi) := by
    rw [(kN_ok h hk).1]
    rintro ⟨h1, h2⟩
    rcases e with e | e
    · exact Int32.not_lt.mpr h1 ((lt_lo h hk lo).mpr e)
    · exact e ((le_hi h hk hi).mp h2)
  refine ⟨?_, ?_, ?_⟩
  · rw [rN_s, wA, if_neg hno, Nat.add_zero]
  · rw [rS_s, if_neg hno, Nat.add_zero]
  · unfold rB
    rcases e with e | e
    · rw [if_neg (by omega), if_neg (by omega)]
    · rw [Nat.min_eq_right (by omega), Nat.min_eq_right (by omega)]
theorem in_s {T : TreeS} {t : Tr} (h : WF T t) {lo hi k : Nat} (hk : k < t.size) (e : aLo T t lo ≤ k) (e2 : k < aHi T t hi) (p : Nat) (hp : p ≤ 99) : rN T t lo hi 0 (k + 1) = rN T t lo hi 0 k + 1 ∧ rS T t lo hi (k + 1) = rS T t lo hi k + qN T t k ∧ (rN T t lo hi (nI p) (k + 1) = rN T t lo hi (nI p) k + if nI p ≤ nI (qN T t k) then 1 else 0) := by
  have k1 := kN_ok h hk
  have q1 := qN_ok h hk
  have hyes : nI lo ≤ T.1 (t.sl k) ∧ T.1 (t.sl k) ≤ nI hi := by
    rw [k1.1]
    exact ⟨Int32.not_lt.mp (fun h9 => absurd ((lt_lo h hk lo).mp h9) (by omega)), (le_hi h hk hi).mpr e2⟩
  refine ⟨?_, ?_, ?_⟩
  · rw [rN_s, wA, if_pos hyes, q1.1, if_pos (nI_pos' (by omega))]
  · rw [rS_s, if_pos hyes]; rfl
  · rw [rN_s, wA, if_pos hyes, q1.1]
theorem rB_first {T : TreeS} {t : Tr} {lo hi k : Nat} (e : aLo T t lo = k) (e2 : k < aHi T t hi) (hk : k < t.size) : rB T t lo hi (k + 1) = nI (kN T t k) ∧ rB T t lo hi k = -30000 := by
  unfold rB
  rw [Nat.min_eq_left (by omega), Nat.min_eq_left (by omega), if_pos (by omega), if_neg (by omega), e, Nat.add_sub_cancel, tp_one t hk]
  exact ⟨rfl, rfl⟩
theorem rB_more {T : MainS} {t : Tr} (h : WF T.1.1 t) {lo hi k : Nat} (e : aLo T.1.1 t lo < k) (e2 : k < aHi T.1.1 t hi) (hk : k < t.size) : ∃ c, c < t.size ∧ rB T.1.1 t lo hi k = nI (kN T.1.1 t c) ∧ rB T.1.1 t lo hi (k + 1) = if abv T.1.1 (t.sl k) (t.sl c) then nI (kN T.1.1 t k) else nI (kN T.1.1 t c) := by
  have hin := tp_in (t := t) (aLo T.1.1 t lo) (k - 1) (by omega) (by omega)
  have hg := tp_grow h (a := aLo T.1.1 t lo) (j := k - 1) (by omega) (by omega)
  rw [show k - 1 + 1 = k by omega] at hg
  refine ⟨t.tp (aLo T.1.1 t lo) (k - 1), by omega, ?_, ?_⟩
  · unfold rB
    rw [Nat.min_eq_left (by omega), if_pos e]
  · unfold rB
    rw [Nat.min_eq_left (by omega), if_pos (by omega), Nat.add_sub_cancel, hg]
    by_cases e3 : abv T.1.1 (t.sl k) (t.sl (t.tp (aLo T.1.1 t lo) (k - 1)))
    · rw [if_pos e3, if_pos e3]
    · rw [if_neg e3, if_neg e3]
/-! what the class answers to all that -/
section RNG
variable {T : MainS} {t : Tr}
theorem rN_end {lo hi : Nat} (p : Int32) : rN T.1.1 t lo hi p t.size = sumL (wA T.1.1 (nI lo) (nI hi) p) t.slots := sum_pl (wA T.1.1 (nI lo) (nI hi) p) t
theorem rS_end {lo hi : Nat} : rS T.1.1 t lo hi t.size = sumL (fun s => if nI lo ≤ T.1.1.1 s ∧ T.1.1.1 s ≤ nI hi then pn T.1.1 s else 0) t.slots := sum_pl (fun s => if nI lo ≤ T.1.1.1 s ∧ T.1.1.1 s ≤ nI hi then pn T.1.1 s else 0) t
theorem hh_top (h : WF T.1.1 t) {lo hi : Nat} (l1 : lo ≤ hi) (l2 : hi ≤ 99) : h_topInRange T (nI lo) (nI hi) = some (rB T.1.1 t lo hi t.size, T) ∧ h_topInRangeByScan T (nI lo) (nI hi) = some (rB T.1.1 t lo hi t.size, T) := by
  unfold h_topInRange h_topInRangeByScan rB
  rw [a_topInRange h l1 l2, a_topInRangeByScan h l1 l2, Nat.min_eq_right (aHi_le _ _ _)]
  by_cases e : aLo T.1.1 t lo < aHi T.1.1 t hi
  · rw [if_pos e, if_pos e]; exact ⟨rfl, rfl⟩
  · rw [if_neg e, if_neg e]; exact ⟨rfl, rfl⟩
theorem hh_floor (h : WF T.1.1 t) (lo : Nat) : h_floorKey T (nI lo) = some (rF T.1.1 t lo t.size, T) := by
  unfold h_floorKey rF
  rw [a_floorKey h, Nat.min_eq_right (aHi_le _ _ _)]
  by_cases e : aHi T.1.1 t lo = 0
  · rw [if_pos e, if_pos e]; rfl
  · rw [if_neg e, if_neg e]; rfl
theorem hh_ceiling (h : WF T.1.1 t) (lo : Nat) : h_ceilingKey T (nI lo) = some (rC T.1.1 t lo t.size, T) := by
  unfold h_ceilingKey rC
  rw [a_ceilingKey h]
  by_cases e : aLo T.1.1 t lo < t.size
  · rw [if_pos e, if_pos e]; rfl
  · rw [if_neg e, if_neg e]; rfl
/-- the law's own nearest key -/
def rNear (T : TreeS) (t : Tr) (lo : Nat) : Int32 := if rF T t lo t.size = -30000 then rC T t lo t.size else if rC T t lo t.size = -30000 then rF T t lo t.size else if nI lo - rF T t lo t.size ≤ rC T t lo t.size - nI lo then rF T t lo t.size else rC T t lo t.size
theorem hh_near (h : WF T.1.1 t) {lo : Nat} (l1 : lo ≤ 99) : h_nearestKey T (nI lo) = some (rNear T.1.1 t lo, T) := by
  have f1 := aHi_le T.1.1 t lo
  unfold h_nearestKey rNear
  rw [a_nearestKey h l1]
  have eF : rF T.1.1 t lo t.size = if aHi T.1.1 t lo = 0 then -30000 else nI (kN T.1.1 t (aHi T.1.1 t lo - 1)) := by unfold rF; rw [Nat.min_eq_right f1]
  have eC : rC T.1.1 t lo t.size = if aLo T.1.1 t lo < t.size then nI (kN T.1.1 t (aLo T.1.1 t lo)) else -30000 := rfl
  rw [eF, eC]
  by_cases e : aHi T.1.1 t lo = 0
  · rw [if_pos e, if_pos e, if_pos rfl]
    by_cases e2 : aLo T.1.1 t lo < t.size
    · rw [if_pos e2, if_pos e2]; rfl
    · rw [if_neg e2, if_neg e2]; rfl
  · have hcs : aHi T.1.1 t lo - 1 < t.size := by omega
    have n1 := no_ne (kN_ok h hcs).2
    rw [if_neg e, if_neg e, if_neg n1]
    by_cases e2 : aLo T.1.1 t lo < t.size
    · have n2 := no_ne (kN_ok h e2).2
      rw [if_pos e2, if_neg n2]
      by_cases e3 : (nI lo - nI (kN T.1.1 t (aHi T.1.1 t lo - 1))) ≤ (nI (kN T.1.1 t (aLo T.1.1 t lo)) - nI lo)
      · rw [if_pos (Or.inr e3), if_pos e3]; rfl
      · rw [if_neg (fun h9 => h9.elim (fun h8 => absurd e2 (Nat.not_lt.mpr h8)) e3), if_neg e3]; rfl
    · rw [if_neg e2, if_pos rfl, if_pos (Or.inl (Nat.le_of_not_lt e2))]; rfl
end RNG
theorem lcmp_self (x : Int64) : lg_cmp x x = 0 := by
  unfold lg_cmp
  rw [if_neg (Int64.lt_irrefl), if_pos rfl]
