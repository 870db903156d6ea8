/-! ===== mathematics, 16: the reference's rows change ===== -/
def MRL (M : ModS) (T : TreeS) (L : List Nat) : Prop := mNs M L.length ∧ MA M T 0 L
theorem MR_iff {M : ModS} {T : TreeS} {t : Tr} : MR M T t ↔ MRL M T t.slots := by unfold MR MRL; rw [Tr.len]
theorem MRL.at {M : ModS} {T : TreeS} {L : List Nat} (h : MRL M T L) {i : Nat} (hi : i < L.length) : M.2.1 (2 + 2 * i) = T.1 (L.getD i 0) ∧ M.2.1 (2 + 2 * i + 1) = T.2.1 (L.getD i 0) := by
  have := h.2 i hi
  rw [Nat.zero_add] at this
  exact this
theorem getD_ins (A B : List Nat) (x i : Nat) : (A ++ x :: B).getD i 0 = if i < A.length then (A ++ B).getD i 0 else if i = A.length then x else (A ++ B).getD (i - 1) 0 := by
  rw [List.getD_eq_getElem?_getD, List.getD_eq_getElem?_getD, List.getD_eq_getElem?_getD, List.getElem?_append, List.getElem?_append, List.getElem?_append]
  by_cases h1 : i < A.length
  · rw [if_pos h1, if_pos h1, if_pos h1]
  · rw [if_neg h1, if_neg h1]
    by_cases h2 : i = A.length
    · rw [if_pos h2, h2, Nat.sub_self]; rfl
    · rw [if_neg h2, if_neg (by omega), show i - A.length = (i - 1 - A.length) + 1 by omega, List.getElem?_cons_succ]
def sh (a : Nat → Int32) (j E : Nat) : Nat → Int32 := fun i => if j + 4 ≤ i ∧ i < E then a (i - 2) else a i
theorem sh_step (a : Nat → Int32) (q E : Nat) (h : q + 4 < E) : upd (sh a (q + 1) E) (2 + q + 2) (sh a (q + 1) E (2 + q)) = sh a q E := by
  funext i
  unfold upd sh
  by_cases e : i = 2 + q + 2
  · rw [if_pos e, if_neg (by omega), if_pos (by omega), e]; rfl
  · rw [if_neg e]
    by_cases e2 : q + 1 + 4 ≤ i ∧ i < E
    · rw [if_pos e2, if_pos (by omega)]
    · rw [if_neg e2, if_neg (by omega)]
theorem sh_0 (a : Nat → Int32) (N : Nat) : sh a (2 * N) (2 * N + 4) = a := by
  funext i
  unfold sh
  rw [if_neg (by omega)]
def opA (a : Nat → Int32) (c N : Nat) (K P : Int32) : Nat → Int32 := upd (upd (upd (sh a (2 * c) (2 * N + 4)) (2 + 2 * c) K) (2 + 2 * c + 1) P) 0 (nI (N + 1))
theorem add_m1 (x : Int32) : x + (-1) = x - 1 := (Int32.sub_eq_add_neg x 1).symm
theorem nI_2m (c : Nat) : 2 * nI c = nI (2 * c) := by rw [show (2 : Int32) = nI 2 from rfl, nI_mulX]
theorem nI_2a (c : Nat) : 2 + nI c = nI (2 + c) := by rw [show (2 : Int32) = nI 2 from rfl, nI_add]
theorem nI_a2 (c : Nat) : nI c + 2 = nI (c + 2) := by rw [show (2 : Int32) = nI 2 from rfl, nI_add]
theorem opens_c18 {a : Nat → Int32} {c N : Nat} {K P : Int32} (ha : a 0 = nI N) (hN : N ≤ 23) (hc : c ≤ N) (x1 : Int32) (R : Int32 × Int32 × Int32 × Int32 × Int32 × Int32 × (Nat → Int32) × Int32 × (Nat → Int32) × Int32 × Int32 × Int32 × Int32 × (Nat → Int32) × Int32) : ∀ (n j : Nat), 2 * c ≤ j → j ≤ 2 * N → j - 2 * c < n → f_X7_opens_c18 n (x1, sh a j (2 * N + 4), R) K P (nI c) (nI j - 1) = some (x1, opA a c N K P, R)
  | 0, j, _, _, hn => absurd hn (by omega)
  | n + 1, j, h1, h2, hn => by
    rw [f_X7_opens_c18, nI_2m, nI_2a, nI_1]
    by_cases e : j = 2 * c
    · have e0 : sh a (2 * c) (2 * N + 4) 0 = nI N := by unfold sh; rw [if_neg (by omega)]; exact ha
      rw [if_pos (by rw [e]; exact nI_dec_lt _ (by omega)), if_neg (nI_in (by omega) (by decide)), if_neg (nI_in (by omega) (by decide)), nI_clamp (by omega), nI_clamp (by omega), show (0 : Int32).toNatClampNeg = 0 from rfl, upd_ne _ _ (show (0 : Nat) ≠ 2 + 2 * c + 1 by omega), upd_ne _ _ (show (0 : Nat) ≠ 2 + 2 * c by omega), e]
      show some (x1, upd (upd (upd (sh a (2 * c) (2 * N + 4)) (2 + 2 * c) K) (2 + 2 * c + 1) P) 0 (sh a (2 * c) (2 * N + 4) 0 + 1), R) = _
      rw [e0, nI_1]; rfl
    · obtain ⟨q, rfl⟩ : ∃ q, j = q + 1 := ⟨j - 1, by omega⟩
      rw [nI_pred, if_neg (nI_nlt (by omega) (by omega)), nI_2a, nI_a2, if_neg (nI_in (by omega) (by decide)), if_neg (nI_in (by omega) (by decide)), nI_clamp (by omega), nI_clamp (by omega), add_m1]
      have := opens_c18 (K := K) (P := P) ha hN hc x1 R n q (by omega) (by omega) (by omega)
      rw [← sh_step a q (2 * N + 4) (by omega)] at this
      exact this
theorem opens_ok {M : ModS} {c N : Nat} {K P : Int32} (hM : mNs M N) (hN : N ≤ 23) (hc : c ≤ N) (hb : f_X7_below M K = some (nI c)) : f_X7_opens M K P = some (M.1, opA M.2.1 c N K P, M.2.2) := by
  unfold f_X7_opens
  rw [hb, Option.bind_some, hM, nI_2m]
  have := opens_c18 (K := K) (P := P) hM hN hc M.1 M.2.2 200 (2 * N) (by omega) (by omega) (by omega)
  rw [sh_0] at this
  exact this
theorem opA_MA {M : ModS} {T T' : TreeS} {A B : List Nat} {leaf N : Nat} {K P x1 : Int32} {R : Int32 × Int32 × Int32 × Int32 × Int32 × Int32 × (Nat → Int32) × Int32 × (Nat → Int32) × Int32 × Int32 × Int32 × Int32 × (Nat → Int32) × Int32} (hM : MRL M T (A ++ B)) (hN : (A ++ B).length = N) (ha : ∀ x ∈ A ++ B, agr T T' x) (h1 : T'.1 leaf = K) (h2 : T'.2.1 leaf = P) : MRL (x1, opA M.2.1 A.length N K P, R) T' (A ++ leaf :: B) := by
  have hl : A.length + B.length = N := by rw [← hN, List.length_append]
  refine ⟨?_, fun i hi => ?_⟩
  · show opA M.2.1 A.length N K P 0 = _
    rw [opA, upd_eq, List.length_append, List.length_cons]
    congr 1; omega
  · rw [List.length_append, List.length_cons] at hi
    rw [Nat.zero_add, getD_ins]
    show opA M.2.1 A.length N K P (2 + 2 * i) = _ ∧ opA M.2.1 A.length N K P (2 + 2 * i + 1) = _
    rw [opA, upd_ne _ _ (show 2 + 2 * i ≠ 0 by omega), upd_ne _ _ (show 2 + 2 * i + 1 ≠ 0 by omega), upd_ne _ _ (show 2 + 2 * i ≠ 2 + 2 * A.length + 1 by omega)]
    by_cases e1 : i < A.length
    · have hm := hM.at (i := i) (by omega)
      have hx := ha _ (getD_mem (L := A ++ B) (i := i) (by omega))
      rw [if_pos e1, upd_ne _ _ (show 2 + 2 * i ≠ 2 + 2 * A.length by omega), upd_ne _ _ (show 2 + 2 * i + 1 ≠ 2 + 2 * A.length + 1 by omega), upd_ne _ _ (show 2 + 2 * i + 1 ≠ 2 + 2 * A.length by omega), hx.1, hx.2, ← hm.1, ← hm.2]
      unfold sh
      rw [if_neg (by omega), if_neg (by omega)]
      exact ⟨rfl, rfl⟩
    · rw [if_neg e1]
      by_cases e2 : i = A.length
      · rw [if_pos e2, e2, upd_eq, upd_eq, h1, h2]; exact ⟨rfl, rfl⟩
      · have hm := hM.at (i := i - 1) (by omega)
        have hx := ha _ (getD_mem (L := A ++ B) (i := i - 1) (by omega))
        rw [if_neg e2, upd_ne _ _ (show 2 + 2 * i ≠ 2 + 2 * A.length by omega), upd_ne _ _ (show 2 + 2 * i + 1 ≠ 2 + 2 * A.length + 1 by omega), upd_ne _ _ (show 2 + 2 * i + 1 ≠ 2 + 2 * A.length by omega), hx.1, hx.2, ← hm.1, ← hm.2]
        unfold sh
        rw [if_pos (by omega), if_pos (by omega), show 2 + 2 * i - 2 = 2 + 2 * (i - 1) by omega, show 2 + 2 * i + 1 - 2 = 2 + 2 * (i - 1) + 1 by omega]
        exact ⟨rfl, rfl⟩
theorem opA_far {a : Nat → Int32} {c N : Nat} {K P : Int32} (hN : N ≤ 23) (hc : c ≤ N) {i : Nat} (hi : i = 1 ∨ 50 ≤ i) : opA a c N K P i = a i := by
  rw [opA, upd_ne _ _ (by omega), upd_ne _ _ (by omega), upd_ne _ _ (by omega)]
  unfold sh
  rw [if_neg (by omega)]
def sd (a : Nat → Int32) (c j : Nat) : Nat → Int32 := fun i => if 2 + 2 * c ≤ i ∧ i < 2 + j then a (i + 2) else a i
theorem sd_step (a : Nat → Int32) (c j : Nat) (h : 2 * c ≤ j) : upd (sd a c j) (2 + j) (sd a c j (2 + j + 2)) = sd a c (j + 1) := by
  funext i
  unfold upd sd
  by_cases e : i = 2 + j
  · rw [if_pos e, if_neg (by omega), if_pos (by omega), e]
  · rw [if_neg e]
    by_cases e2 : 2 + 2 * c ≤ i ∧ i < 2 + j
    · rw [if_pos e2, if_pos (by omega)]
    · rw [if_neg e2, if_neg (by omega)]
theorem sd_0 (a : Nat → Int32) (c : Nat) : sd a c (2 * c) = a := by
  funext i
  unfold sd
  rw [if_neg (by omega)]
def shA (a : Nat → Int32) (c N : Nat) : Nat → Int32 := upd (upd (upd (sd a c (2 * N)) (2 + 2 * N) 0) (2 + 2 * N + 1) 0) 0 (nI N)
theorem shuts_c13 {a : Nat → Int32} {c N : Nat} (hN : N ≤ 23) (hc : c ≤ N) (x1 : Int32) (R : Int32 × Int32 × Int32 × Int32 × Int32 × Int32 × (Nat → Int32) × Int32 × (Nat → Int32) × Int32 × Int32 × Int32 × Int32 × (Nat → Int32) × Int32) : ∀ (n j : Nat), 2 * c ≤ j → j ≤ 2 * N → 2 * N - j < n → f_X7_shuts_c13 n (x1, sd a c j, R) (nI N) (nI j) = some (x1, shA a c N, R)
  | 0, j, _, _, hn => absurd hn (by omega)
  | n + 1, j, h1, h2, hn => by
    rw [f_X7_shuts_c13, nI_2m, nI_2a, nI_1, nI_2a, nI_a2]
    by_cases e : j = 2 * N
    · rw [if_pos (nI_le (by omega) (by omega)), if_neg (nI_in (by omega) (by decide)), if_neg (nI_in (by omega) (by decide)), nI_clamp (by omega), nI_clamp (by omega), show (0 : Int32).toNatClampNeg = 0 from rfl, e]
      rfl
    · rw [if_neg (nI_ge (by omega) (by omega)), if_neg (nI_in (by omega) (by decide)), if_neg (nI_in (by omega) (by decide)), nI_clamp (by omega), nI_clamp (by omega), nI_1]
      have := shuts_c13 (a := a) hN hc x1 R n (j + 1) (by omega) (by omega) (by omega)
      rw [← sd_step a c j h1] at this
      exact this
theorem shuts_ok {M : ModS} {c N : Nat} (hM : mNs M (N + 1)) (hN : N ≤ 23) (hc : c ≤ N) : f_X7_shuts M (nI c) = some (M.1, shA M.2.1 c N, M.2.2) := by
  unfold f_X7_shuts
  rw [hM, nI_pred, nI_2m]
  have := shuts_c13 (a := M.2.1) hN hc M.1 M.2.2 200 (2 * c) (by omega) (by omega) (by omega)
  rw [sd_0] at this
  exact this
theorem shA_MA {M : ModS} {T T' : TreeS} {A B : List Nat} {s N : Nat} {x1 : Int32} {R : Int32 × Int32 × Int32 × Int32 × Int32 × Int32 × (Nat → Int32) × Int32 × (Nat → Int32) × Int32 × Int32 × Int32 × Int32 × (Nat → Int32) × Int32} (hM : MRL M T (A ++ s :: B)) (hN : (A ++ B).length = N) (ha : ∀ x ∈ A ++ B, agr T T' x) : MRL (x1, shA M.2.1 A.length N, R) T' (A ++ B) := by
  have hl : A.length + B.length = N := by rw [← hN, List.length_append]
  refine ⟨?_, fun i hi => ?_⟩
  · show shA M.2.1 A.length N 0 = _
    rw [shA, upd_eq, hN]
  · rw [hN] at hi
    rw [Nat.zero_add]
    have hx := ha _ (getD_mem (L := A ++ B) (i := i) (by omega))
    show shA M.2.1 A.length N (2 + 2 * i) = _ ∧ shA M.2.1 A.length N (2 + 2 * i + 1) = _
    rw [shA, upd_ne _ _ (show 2 + 2 * i ≠ 0 by omega), upd_ne _ _ (show 2 + 2 * i + 1 ≠ 0 by omega), upd_ne _ _ (show 2 + 2 * i ≠ 2 + 2 * N + 1 by omega), upd_ne _ _ (show 2 + 2 * i ≠ 2 + 2 * N by omega), upd_ne _ _ (show 2 + 2 * i + 1 ≠ 2 + 2 * N + 1 by omega), upd_ne _ _ (show 2 + 2 * i + 1 ≠ 2 + 2 * N by omega), hx.1, hx.2]
    unfold sd
    by_cases e1 : i < A.length
    · have hm := hM.at (i := i) (by rw [List.length_append, List.length_cons]; omega)
      rw [getD_ins, if_pos e1] at hm
      rw [if_neg (by omega), if_neg (by omega)]
      exact hm
    · have hm := hM.at (i := i + 1) (by rw [List.length_append, List.length_cons]; omega)
      rw [getD_ins, if_neg (by omega), if_neg (by omega), Nat.add_sub_cancel] at hm
      rw [if_pos (by omega), if_pos (by omega), show 2 + 2 * i + 2 = 2 + 2 * (i + 1) by omega, show 2 + 2 * i + 1 + 2 = 2 + 2 * (i + 1) + 1 by omega]
      exact hm
theorem shA_far {a : Nat → Int32} {c N : Nat} (hN : N ≤ 23) {i : Nat} (hi : i = 1 ∨ 50 ≤ i) : shA a c N i = a i := by
  rw [shA, upd_ne _ _ (by omega), upd_ne _ _ (by omega), upd_ne _ _ (by omega)]
  unfold sd
  rw [if_neg (by omega)]
/-- a point comes into the reference's rows -/
theorem putsInR {M : ModS} {T T' : TreeS} {t t' : Tr} {A B : List Nat} {leaf m : Nat} {K P : Int32} (h : WF T t) (hM : MR M T t) (hsz : t.size < 24) (h' : WF T' t') (e1 : t.slots = A ++ B) (e2 : t'.slots = A ++ leaf :: B) (hA : ∀ x ∈ A, T.1 x < K) (hB : ∀ x ∈ B, K < T.1 x) (ha : ∀ x ∈ t.slots, agr T T' x) (h1 : T'.1 leaf = K) (h2 : T'.2.1 leaf = P) (hm : m + t'.dep A.length = t.pth A.length) :
    f_X7_putsIn M K P = some (nI m, (M.1, opA M.2.1 A.length t.size K P, M.2.2)) ∧ MR (M.1, opA M.2.1 A.length t.size K P, M.2.2) T' t' := by
  have h24 := h.le
  have hlen : (A ++ B).length = t.size := by rw [← e1, Tr.len]
  have hAl : A.length ≤ t.size := by rw [← hlen, List.length_append]; omega
  have hb : f_X7_below M K = some (nI A.length) := by
    rw [belowR h hM, e1, cnt_app (fun x hx => decide_eq_true (hA x hx)) (fun x hx h9 => Int32.lt_irrefl (Int32.lt_trans (hB x hx) (of_decide_eq_true h9)))]
  have hM2 : MR (M.1, opA M.2.1 A.length t.size K P, M.2.2) T' t' := by
    rw [MR_iff, e2]
    exact opA_MA (by rw [← e1]; exact MR_iff.mp hM) hlen (by rw [← e1]; exact ha) h1 h2
  have hlt' : A.length < t'.size := (sl_app e2).2
  have hb2 : f_X7_below (M.1, opA M.2.1 A.length t.size K P, M.2.2) K = some (nI A.length) := by
    rw [belowR h' hM2, (cnt_hit h'.2.1 hlt' (by rw [(sl_app e2).1]; exact h1)).1]
  refine ⟨?_, hM2⟩
  have h24' := h'.le
  unfold f_X7_putsIn
  rw [pathR_ok hM.1 h24 (h.th hM) hAl hb, Option.bind_some, opens_ok hM.1 (by omega) hAl hb, Option.bind_some, hb2, Option.bind_some, depthR_ok hM2.1 h24' (h'.th hM2) hlt', Option.bind_some, nI_sub (by omega), ← hm, Nat.add_sub_cancel]
/-- a point goes out of them -/
theorem takesOutR {M : ModS} {T T' : TreeS} {t t' : Tr} {A B : List Nat} {i m : Nat} (h : WF T t) (hM : MR M T t) (hi : i < t.size) (h' : WF T' t') (e1 : t.slots = A ++ t.sl i :: B) (e2 : t'.slots = A ++ B) (hA : A.length = i) (k1 : T'.1 = T.1) (k2 : T'.2.1 = T.2.1) (hm : t'.pth i = t.dep i + m) :
    f_X7_takesOut M (nI i) = some (nI m, (M.1, shA M.2.1 i t'.size, M.2.2)) ∧ MR (M.1, shA M.2.1 i t'.size, M.2.2) T' t' := by
  have h24 := h.le
  have hsz : t.size = t'.size + 1 := by rw [← Tr.len, ← Tr.len, e1, e2, List.length_append, List.length_append, List.length_cons]; omega
  have hlen : (A ++ B).length = t'.size := by rw [← e2, Tr.len]
  have hM1 : mNs M (t'.size + 1) := by rw [← hsz]; exact hM.1
  have hM2 : MR (M.1, shA M.2.1 i t'.size, M.2.2) T' t' := by
    rw [MR_iff, e2, ← hA]
    exact shA_MA (by rw [← e1]; exact MR_iff.mp hM) hlen (fun x _ => by unfold agr; rw [k1, k2]; exact ⟨rfl, rfl⟩)
  have hs := h.2.1
  rw [e1, srt_app] at hs
  have hb : f_X7_below (M.1, shA M.2.1 i t'.size, M.2.2) (T.1 (t.sl i)) = some (nI i) := by
    rw [belowR h' hM2, e2, cnt_app (fun x hx => decide_eq_true (by rw [k1]; exact hs.2.1 x hx)) (fun x hx h9 => Int32.lt_irrefl (Int32.lt_trans (hs.2.2 x hx) (by rw [k1] at h9; exact of_decide_eq_true h9))), hA]
  refine ⟨?_, hM2⟩
  have h24' := h'.le
  unfold f_X7_takesOut
  rw [depthR_ok hM.1 h24 (h.th hM) hi, Option.bind_some, key_ok (by omega), Option.bind_some, (hM.at hi).1, shuts_ok hM1 (by omega) (by omega), Option.bind_some, pathR_ok hM2.1 h24' (h'.th hM2) (by omega) hb, Option.bind_some, nI_sub (by omega), hm, Nat.add_sub_cancel_left]
