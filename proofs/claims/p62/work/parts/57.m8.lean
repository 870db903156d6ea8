/-! ===== mathematics, 8: the reference's rows and searches ===== -/
abbrev mK (M : ModS) (i : Nat) : Int32 := M.2.1 (2 + 2 * i)
abbrev mP (M : ModS) (i : Nat) : Int32 := M.2.1 (2 + 2 * i + 1)
theorem nI_mulX (a b : Nat) : nI a * nI b = nI (a * b) := (Int32.ofNat_mul a b).symm
theorem nI_m1 (n : Nat) : nI (n + 1) + (-1) = nI n := by
  rw [nI_succ, Int32.add_assoc, show (1 : Int32) + (-1) = 0 from rfl, Int32.add_zero]
theorem nI_22 (i : Nat) : (2 + 2 * nI i) = nI (2 + 2 * i) := by
  rw [show (2 : Int32) = nI 2 from rfl, nI_mulX, nI_add]
theorem key_ok {M : ModS} {i : Nat} (h : i ≤ 300) : f_X7_key M (nI i) = some (mK M i) := by
  unfold f_X7_key
  rw [nI_22, if_neg (nI_in (by omega) (by decide)), nI_clamp (by omega)]
theorem pri_ok {M : ModS} {i : Nat} (h : i ≤ 300) : f_X7_priority M (nI i) = some (mP M i) := by
  unfold f_X7_priority
  rw [nI_22, nI_1, if_neg (nI_in (by omega) (by decide)), nI_clamp (by omega)]
abbrev mNs (M : ModS) (N : Nat) : Prop := M.2.1 (0 : Int32).toNatClampNeg = nI N
theorem below_c4 {M : ModS} {N b : Nat} {x : Int32} (hN : mNs M N) (h24 : N ≤ 24) (h1 : ∀ i, i < b → mK M i < x) (h2 : ∀ i, b ≤ i → i < N → x ≤ mK M i) (hb : b ≤ N) : ∀ (n i : Nat), i ≤ N → N - i < n → f_X7_below_c4 n M x (nI (min i b)) (nI i) = some (nI b)
  | 0, i, _, hn => absurd hn (by omega)
  | n + 1, i, hi, hn => by
    rw [f_X7_below_c4, hN]
    by_cases h : i = N
    · rw [if_pos (nI_le (by omega) (by omega)), Nat.min_eq_right (by omega)]
    · rw [if_neg (nI_ge (by omega) (by omega)), key_ok (by omega), Option.bind_some]
      by_cases h3 : i < b
      · rw [if_neg (Int32.not_le.mpr (h1 i h3)), nI_1, nI_1, show min i b + 1 = min (i + 1) b by omega]
        exact below_c4 hN h24 h1 h2 hb n (i + 1) (by omega) (by omega)
      · rw [if_pos (h2 i (by omega) (by omega)), Int32.add_zero, nI_1, show min i b = min (i + 1) b by omega]
        exact below_c4 hN h24 h1 h2 hb n (i + 1) (by omega) (by omega)
theorem below_ok {M : ModS} {N b : Nat} {x : Int32} (hN : mNs M N) (h24 : N ≤ 24) (h1 : ∀ i, i < b → mK M i < x) (h2 : ∀ i, b ≤ i → i < N → x ≤ mK M i) (hb : b ≤ N) : f_X7_below M x = some (nI b) := by
  have := below_c4 hN h24 h1 h2 hb 200 0 (by omega) (by omega)
  rw [Nat.zero_min] at this
  exact this
/-- i belongs above j, by places -/
abbrev mab (M : ModS) (i j : Nat) : Prop := mP M j < mP M i ∨ (mP M i = mP M j ∧ i < j)
theorem isAbove_ok {M : ModS} {i j : Nat} (hi : i ≤ 300) (hj : j ≤ 300) : f_X7_isAbove M (nI i) (nI j) = some (if mab M i j then 1 else 0) := by
  unfold f_X7_isAbove
  simp only [pri_ok hi, pri_ok hj, Option.bind_some]
  by_cases h1 : mP M j < mP M i
  · rw [if_pos h1, if_pos (Or.inl h1)]
  · rw [if_neg h1]
    by_cases h2 : mP M i = mP M j
    · rw [if_pos h2]
      by_cases h3 : i < j
      · rw [if_neg (nI_ge h3 (by omega)), if_pos (Or.inr ⟨h2, h3⟩)]
      · rw [if_pos (nI_le (by omega) (by omega)), if_neg]
        rintro (h | ⟨-, h⟩)
        · exact h1 h
        · exact h3 h
    · rw [if_neg h2, if_neg]
      rintro (h | ⟨h, -⟩)
      · exact h1 h
      · exact h2 h
theorem mab_asymm {M : ModS} {a b : Nat} (h1 : mab M a b) (h2 : mab M b a) : False := by
  simp only [mab, Int32.lt_iff_toInt_lt, ← Int32.toInt_inj] at h1 h2
  omega
theorem mab_trans {M : ModS} {a b c : Nat} (h1 : mab M a b) (h2 : mab M b c) : mab M a c := by
  simp only [mab, Int32.lt_iff_toInt_lt, ← Int32.toInt_inj] at h1 h2 ⊢
  omega
theorem top_c16 {M : ModS} {a b c : Nat} (hb : b ≤ 100) (hac : a ≤ c) (hc : c ≤ b) (h : ∀ k, a ≤ k → k ≤ b → k ≠ c → mab M c k) : ∀ (n i v : Nat), a ≤ v → v < i → i ≤ b + 1 → (c < i → v = c) → b + 1 - i < n → f_X7_top_c16 n M (nI b) (nI v) (nI i) = some (nI c)
  | 0, i, v, _, _, _, _, hn => absurd hn (by omega)
  | n + 1, i, v, hv, hvi, hi, hvc, hn => by
    rw [f_X7_top_c16]
    by_cases e : i = b + 1
    · rw [if_pos (nI_lt (by omega) (by omega)), hvc (by omega)]
    · rw [if_neg (nI_nlt (by omega) (by omega)), isAbove_ok (by omega) (by omega), Option.bind_some, nI_1]
      by_cases e1 : c < i
      · have ev := hvc e1
        rw [if_neg (c := mab M i v), if_pos rfl]
        · exact top_c16 hb hac hc h n (i + 1) v hv (by omega) (by omega) (fun _ => ev) (by omega)
        · rw [ev]; exact fun h9 => mab_asymm h9 (h i (by omega) (by omega) (by omega))
      · by_cases e2 : c = i
        · rw [if_pos (c := mab M i v), if_neg (by decide)]
          · exact top_c16 hb hac hc h n (i + 1) i (by omega) (by omega) (by omega) (fun _ => e2.symm) (by omega)
          · rw [← e2]; exact h v hv (by omega) (by omega)
        · by_cases e3 : mab M i v
          · rw [if_pos e3, if_neg (by decide)]
            exact top_c16 hb hac hc h n (i + 1) i (by omega) (by omega) (by omega) (fun h9 => absurd h9 (by omega)) (by omega)
          · rw [if_neg e3, if_pos rfl]
            exact top_c16 hb hac hc h n (i + 1) v hv (by omega) (by omega) (fun h9 => absurd h9 (by omega)) (by omega)
theorem top_ok {M : ModS} {a b c : Nat} (hb : b ≤ 100) (hac : a ≤ c) (hc : c ≤ b) (h : ∀ k, a ≤ k → k ≤ b → k ≠ c → mab M c k) : f_X7_top M (nI a) (nI b) = some (nI c) := by
  unfold f_X7_top
  rw [if_neg (nI_nlt (by omega) (by omega)), nI_1]
  exact top_c16 hb hac hc h 200 (a + 1) a (Nat.le_refl _) (by omega) (by omega) (by omega) (by omega)
theorem top_none {M : ModS} {a : Nat} {x : Int32} (ha : a ≤ 100) (hx : x < nI a) : f_X7_top M (nI a) x = some (-1) := by
  unfold f_X7_top
  rw [if_pos hx, nI_1, f_X7_top_c16, if_pos (Int32.lt_trans hx (nI_lt (by omega) (by omega)))]
theorem nI_dec_lt (a : Nat) (ha : a ≤ 1000) : nI a - 1 < nI a := by
  rw [Int32.lt_iff_toInt_lt, Int32.toInt_sub, nI_toInt (by omega), show (1 : Int32).toInt = 1 from rfl, Int.bmod_eq_of_le (by omega) (by omega)]
  omega
theorem first_c2 {M : ModS} {a t : Nat} (ht : t ≤ 100) (h1 : ∀ j, a ≤ j → j < t → mab M t j) (h2 : a = 0 ∨ ¬ mab M t (a - 1)) : ∀ (n i : Nat), a ≤ i → i ≤ t → i - a < n → f_X7_first_c2 n M (nI t) (nI i) = some (nI a)
  | 0, i, _, _, hn => absurd hn (by omega)
  | n + 1, i, hi, hit, hn => by
    rw [f_X7_first_c2]
    by_cases e : i = 0
    · rw [e, if_pos (show nI 0 ≤ 0 by decide), show a = 0 by omega]
    · obtain ⟨j, rfl⟩ : ∃ j, i = j + 1 := ⟨i - 1, by omega⟩
      rw [if_neg (nI_nle (by omega) (by omega)), nI_pred, isAbove_ok (by omega) (by omega), Option.bind_some]
      by_cases e1 : j + 1 = a
      · rw [if_neg (c := mab M t j), if_pos rfl, e1]
        rcases h2 with h2 | h2
        · omega
        · rw [show j = a - 1 by omega]; exact h2
      · rw [if_pos (h1 j (by omega) (by omega)), if_neg (by decide), nI_m1]
        exact first_c2 ht h1 h2 n j (by omega) (by omega) (by omega)
theorem first_ok {M : ModS} {a t : Nat} (ht : t ≤ 100) (hat : a ≤ t) (h1 : ∀ j, a ≤ j → j < t → mab M t j) (h2 : a = 0 ∨ ¬ mab M t (a - 1)) : f_X7_first M (nI t) = some (nI a) :=
  first_c2 ht h1 h2 200 t hat (Nat.le_refl _) (by omega)
theorem last_c2 {M : ModS} {N b t : Nat} (hN : mNs M N) (h24 : N ≤ 100) (hb : b < N) (h1 : ∀ j, t < j → j ≤ b → mab M t j) (h2 : b + 1 = N ∨ ¬ mab M t (b + 1)) : ∀ (n i : Nat), t ≤ i → i ≤ b → b - i < n → f_X7_last_c2 n M (nI t) (nI i) = some (nI b)
  | 0, i, _, _, hn => absurd hn (by omega)
  | n + 1, i, hi, hib, hn => by
    obtain ⟨N, rfl⟩ : ∃ j, N = j + 1 := ⟨N - 1, by omega⟩
    rw [f_X7_last_c2, hN, nI_pred]
    by_cases e : i = N
    · rw [if_pos (nI_le (by omega) (by omega)), show i = b by omega]
    · rw [if_neg (nI_ge (by omega) (by omega)), nI_1, isAbove_ok (by omega) (by omega), Option.bind_some]
      by_cases e1 : i = b
      · rw [if_neg (c := mab M t (i + 1)), if_pos rfl, e1]
        rcases h2 with h2 | h2
        · omega
        · rw [e1]; exact h2
      · rw [if_pos (h1 (i + 1) (by omega) (by omega)), if_neg (by decide)]
        exact last_c2 hN h24 hb h1 h2 n (i + 1) (by omega) (by omega) (by omega)
theorem last_ok {M : ModS} {N b t : Nat} (hN : mNs M N) (h24 : N ≤ 100) (hb : b < N) (htb : t ≤ b) (h1 : ∀ j, t < j → j ≤ b → mab M t j) (h2 : b + 1 = N ∨ ¬ mab M t (b + 1)) : f_X7_last M (nI t) = some (nI b) :=
  last_c2 hN h24 hb h1 h2 200 t (Nat.le_refl _) htb (by omega)
/-- a sum over n places from a on -/
def sumR (g : Nat → Nat) : Nat → Nat → Nat
  | _, 0 => 0
  | a, n + 1 => g a + sumR g (a + 1) n
theorem sumR_add (g : Nat → Nat) : ∀ (m a n : Nat), sumR g a (m + n) = sumR g a m + sumR g (a + m) n
  | 0, a, n => by simp [sumR]
  | m + 1, a, n => by
    rw [show m + 1 + n = (m + n) + 1 by omega, sumR, sumR, sumR_add g m (a + 1) n, show a + 1 + m = a + (m + 1) by omega]
    omega
theorem sumR_congr {g g' : Nat → Nat} : ∀ (n a : Nat), (∀ i, a ≤ i → i < a + n → g i = g' i) → sumR g a n = sumR g' a n
  | 0, _, _ => rfl
  | n + 1, a, h => by
    rw [sumR, sumR, h a (Nat.le_refl _) (by omega), sumR_congr n (a + 1) (fun i h1 h2 => h i (by omega) (by omega))]
theorem sumR_le {g : Nat → Nat} {B : Nat} : ∀ (n a : Nat), (∀ i, a ≤ i → i < a + n → g i ≤ B) → sumR g a n ≤ B * n
  | 0, _, _ => Nat.zero_le _
  | n + 1, a, h => by
    have h1 := h a (Nat.le_refl _) (by omega)
    have h2 := sumR_le n (a + 1) (fun i h1 h2 => h i (by omega) (by omega))
    rw [sumR, Nat.mul_succ]
    omega
theorem sumR_zero {g : Nat → Nat} (n a : Nat) (h : ∀ i, a ≤ i → i < a + n → g i = 0) : sumR g a n = 0 := by
  have := sumR_le (g := g) (B := 0) n a (fun i h1 h2 => by rw [h i h1 h2]; exact Nat.le_refl _)
  rw [Nat.zero_mul] at this
  omega
/-- the reference's depth, by first and last -/
abbrev dg (F L : Nat → Nat) (t k : Nat) : Nat := if k = t then 0 else if t < F k then 0 else if L k < t then 0 else 1
abbrev pg (F L : Nat → Nat) (t k : Nat) : Nat := if t ≤ k then (if t < F k then 0 else 1) else (if L k < t - 1 then 0 else 1)
def mFL (M : ModS) (N : Nat) (F L : Nat → Nat) : Prop := ∀ i, i < N → (f_X7_first M (nI i) = some (nI (F i)) ∧ F i ≤ 100) ∧ (f_X7_last M (nI i) = some (nI (L i)) ∧ L i ≤ 100)
theorem depth_c4 {M : ModS} {N t : Nat} {F L : Nat → Nat} (hN : mNs M N) (h24 : N ≤ 24) (ht : t ≤ 100) (hFL : mFL M N F L) : ∀ (n i v : Nat), i ≤ N → N - i < n → f_X7_depth_c4 n M (nI t) (nI v) (nI i) = some (nI (v + sumR (dg F L t) i (N - i)))
  | 0, i, v, _, hn => absurd hn (by omega)
  | n + 1, i, v, hi, hn => by
    rw [f_X7_depth_c4, hN]
    by_cases e : i = N
    · rw [if_pos (nI_le (by omega) (by omega)), e, Nat.sub_self]; rfl
    · obtain ⟨⟨f1, f2⟩, l1, l2⟩ := hFL i (by omega)
      rw [if_neg (nI_ge (by omega) (by omega)), f1, l1, Option.bind_some, Option.bind_some, nI_1, nI_1, Int32.add_zero, show N - i = (N - (i + 1)) + 1 by omega, sumR, ← Nat.add_assoc, depth_c4 hN h24 ht hFL n (i + 1) v (by omega) (by omega), depth_c4 hN h24 ht hFL n (i + 1) (v + 1) (by omega) (by omega)]
      by_cases e1 : i = t
      · rw [if_pos (by rw [e1]), dg, if_pos e1] <;> rfl
      · rw [if_neg (fun h => e1 ((nI_eq (by omega) (by omega)).mp h)), dg, if_neg e1]
        by_cases e2 : t < F i
        · rw [if_pos (nI_lt e2 (by omega)), if_pos e2] <;> rfl
        · rw [if_neg (nI_nlt (by omega) (by omega)), if_neg e2]
          by_cases e3 : L i < t
          · rw [if_pos (nI_lt e3 (by omega)), if_pos e3] <;> rfl
          · rw [if_neg (nI_nlt (by omega) (by omega)), if_neg e3]
theorem path_c11 {M : ModS} {N t : Nat} {F L : Nat → Nat} (hN : mNs M N) (h24 : N ≤ 24) (ht : t ≤ 100) (hFL : mFL M N F L) : ∀ (n i v : Nat), i ≤ N → N - i < n → f_X7_path_c11 n M (nI v) (nI t) (nI i) = some (nI (v + sumR (pg F L t) i (N - i)))
  | 0, i, v, _, hn => absurd hn (by omega)
  | n + 1, i, v, hi, hn => by
    rw [f_X7_path_c11, hN]
    by_cases e : i = N
    · rw [if_pos (nI_le (by omega) (by omega)), e, Nat.sub_self]; rfl
    · obtain ⟨⟨f1, f2⟩, l1, l2⟩ := hFL i (by omega)
      rw [if_neg (nI_ge (by omega) (by omega)), f1, l1, Option.bind_some, Option.bind_some, nI_1, nI_1, Int32.add_zero, show N - i = (N - (i + 1)) + 1 by omega, sumR, ← Nat.add_assoc, path_c11 hN h24 ht hFL n (i + 1) v (by omega) (by omega), path_c11 hN h24 ht hFL n (i + 1) (v + 1) (by omega) (by omega)]
      by_cases e1 : t ≤ i
      · rw [if_pos (nI_le e1 (by omega)), pg, if_pos e1]
        by_cases e2 : t < F i
        · rw [if_pos (nI_lt e2 (by omega)), if_pos e2] <;> rfl
        · rw [if_neg (nI_nlt (by omega) (by omega)), if_neg e2]
      · obtain ⟨t, rfl⟩ : ∃ j, t = j + 1 := ⟨t - 1, by omega⟩
        rw [if_neg (nI_ge (by omega) (by omega)), pg, if_neg e1, nI_pred, Nat.add_sub_cancel]
        by_cases e3 : L i < t
        · rw [if_pos (nI_lt e3 (by omega)), if_pos e3] <;> rfl
        · rw [if_neg (nI_nlt (by omega) (by omega)), if_neg e3]
theorem depth_ok {M : ModS} {N t : Nat} {F L : Nat → Nat} (hN : mNs M N) (h24 : N ≤ 24) (ht : t ≤ 100) (hFL : mFL M N F L) : f_X7_depth M (nI t) = some (nI (sumR (dg F L t) 0 N)) := by
  have := depth_c4 hN h24 ht hFL 200 0 0 (by omega) (by omega)
  rw [Nat.zero_add, Nat.sub_zero] at this
  exact this
theorem path_ok {M : ModS} {N t : Nat} {F L : Nat → Nat} {x : Int32} (hN : mNs M N) (h24 : N ≤ 24) (ht : t ≤ 100) (hFL : mFL M N F L) (hb : f_X7_below M x = some (nI t)) : f_X7_path M x = some (nI (sumR (pg F L t) 0 N)) := by
  have := path_c11 hN h24 ht hFL 200 0 0 (by omega) (by omega)
  rw [Nat.zero_add, Nat.sub_zero] at this
  unfold f_X7_path
  rw [hb, Option.bind_some]
  exact this
