/-! ===== my own layer, 3 ===== -/
section PQP
variable {p : Program} {l : Launch} {e : Env} {s : State} {m : MethodId} {args : Array Value} {below : List Frame} {meth : Method} {c : Code} {H H0 : Heap} {locs : List Loc} {cells slots : Nat} {Q : State → Prop} {A : Nat → Prop}
variable {cc bytes : ByteArray} {own host C : String} {idx nL maxL n k K mc ms : Nat} {y : MethodName} {g : pq_g} {ws ws' WS : va_W} {a b : Nat} {As rest : List Value} {r : Int32} {ty : FieldType} {pc : Nat} {ls : Array Slot} {st : List Value} {R : Room}
theorem pq_put (S : CallFix p m c cc nL s args pq_G own) (w : pq_Nw own idx yX6_put "PrioritySearchTree" cX6_put 3 none 3) (hK : pq_K g s) (hP : va_P g.1 pq_cl WS H) (hD : va_D A WS) (hS : va_S A H0 H locs) (hA : ∀ q : Nat, H0.size ≤ q → A q) (q0 : Nat) {f : Nat → Int32} {i v : Int32} (ha : WS[q0]? = some (a, .inl (g.2 0, n, .inl f))) (hn : n < 2 ^ 31) (hls : ls.size = nL) (hr : (rest.map fun v => v.category).sum ≤ 8) (hdg : decode cc pc = .ok (.invokestatic idx, 3)) (hk : 1 < K) (hf : cells ≤ mc ∧ slots ≤ ms)
    (kk : ∀ (H1 : Heap) (locs1 : List Loc), va_P g.1 pq_cl (WS.set q0 (a, .inl (g.2 0, n, .inl (pq_wr n f i v)))) H1 → va_S A H0 H1 locs1 → W p l e (pq_rm K mc ms) s m args below meth c H1 locs1 cells slots Q (F0 m (pc + 3) ls rest)) : W p l e (pq_rm K mc ms) s m args below meth c H locs cells slots Q (F0 m pc ls (.int v :: .int i :: .ref a :: rest)) := by
  have hD1 : va_D A [(a, (.inl (g.2 0, n, .inl f) : va_E))] := hD.sub [q0] rfl (by simp [ha])
  refine pq_cNv S (pq_put_ok l g a n f i v hn) w hK (hP.sub [q0] (by simp [ha])) hD1 hS hA rfl rfl hls hr hdg hk (by decide) hf (fun H1 locs1 hk1 hP1 hS1 => ?_)
  refine kk H1 locs1 ?_ hS1
  have hlen := (List.getElem?_eq_some_iff.mp ha).1
  intro j q hj
  by_cases hjq : j = q0
  · subst hjq
    rw [List.getElem?_set_self hlen] at hj
    cases hj
    exact hP1 0 _ rfl
  · rw [List.getElem?_set_ne (Ne.symm hjq)] at hj
    refine (hP j q hj).kept (hk1 q.1 (hP j q hj).lt ?_)
    rintro (⟨z, e9, h9⟩ | h9)
    · have hz : z = 0 := by
        rcases Nat.eq_zero_or_pos z with h | h
        · exact h
        · rw [List.getElem?_eq_none (by show 1 ≤ z; omega)] at h9
          cases h9
      subst hz
      have h10 : a = q.1 := congrArg Prod.fst (Option.some.inj h9)
      exact hjq (hD.1 j q0 q _ hj ha h10.symm)
    · have := (hP j q hj).lt
      omega
theorem pq_putf (S : CallFix p m c cc nL s args pq_G own) (hK : pq_K g s) (hP : va_P g.1 pq_cl WS H) (hD : va_D A WS) (hS : va_S A H0 H locs) {T : u_T} {N ci : Nat} (hin : ∀ w ∈ u_ws C T N, w ∈ pq_G) {ty0 : Nat → FieldType} (hty : ∀ k, k < N → parseFieldDescriptor (T k).2.2.1 = some (ty0 k)) (hnm : ∀ a, a < N → ∀ b, b < N → a ≠ b → (T a).2.1 ≠ (T b).2.1) (q0 : Nat) {fs : List Value} (he : WS[q0]? = some (a, .inr (ci, fs))) (hc : pq_cl[ci]? = some (C, T, N)) (k : Nat) (hk : k < N) (hl : Cond.fieldLink own idx C (T k).2.1 (T k).2.2.1 ∈ pq_G) (hs : (T k).1 = C) (hfin : (T k).2.2.2 = false) {v : Value} {ty : FieldType} (hd : ty0 k = ty) (hn : narrow ty v = v) (hfit : fits ty v = true) (hlen : k < fs.length) (hdg : decode cc pc = .ok (.putfield idx, 3))
    (kk : ∀ (H1 : Heap) (locs1 : List Loc), va_P g.1 pq_cl (WS.set q0 (a, .inr (ci, fs.set k v))) H1 → va_S A H0 H1 locs1 → W p l e R s m args below meth c H1 locs1 cells slots Q (F0 m (pc + 3) ls rest)) : W p l e R s m args below meth c H locs cells slots Q (F0 m pc ls (v :: .ref a :: rest)) :=
  va_put S.1 S.2.1 S.2.2.2.2 hin ty0 hty hnm S.2.2.2.1 hK.1 hP hD hS q0 he hc k hk (S.2.2.2.2 _ hl) (fun x h => by rw [hs] at h; exact h) hfin (by rw [hty k hk, hd]) hn hfit hlen hdg (fun H1 locs1 h1 _ h3 => kk H1 locs1 h1 h3)
theorem pq_putfN (S : CallFix p m c cc nL s args pq_G own) (hK : pq_K g s) (hP : va_P g.1 pq_cl WS H) (hD : va_D A WS) (hS : va_S A H0 H locs) {T : u_T} {N ci : Nat} (hin : ∀ w ∈ u_ws C T N, w ∈ pq_G) {ty0 : Nat → FieldType} (hty : ∀ k, k < N → parseFieldDescriptor (T k).2.2.1 = some (ty0 k)) (hnm : ∀ a, a < N → ∀ b, b < N → a ≠ b → (T a).2.1 ≠ (T b).2.1) (q0 : Nat) {fs : List Value} (he : WS[q0]? = some (a, .inr (ci, fs))) (hc : pq_cl[ci]? = some (C, T, N)) (k : Nat) (hk : k < N) (hl : (own, idx, C, (T k).2.1, (T k).2.2.1, host) ∈ pq_NF) (hs : (T k).1 = C) (hfin : (T k).2.2.2 = false) {v : Value} {ty : FieldType} (hd : ty0 k = ty) (hn : narrow ty v = v) (hfit : fits ty v = true) (hlen : k < fs.length) (hdg : decode cc pc = .ok (.putfield idx, 3))
    (kk : ∀ (H1 : Heap) (locs1 : List Loc), va_P g.1 pq_cl (WS.set q0 (a, .inr (ci, fs.set k v))) H1 → va_S A H0 H1 locs1 → W p l e R s m args below meth c H1 locs1 cells slots Q (F0 m (pc + 3) ls rest)) : W p l e R s m args below meth c H locs cells slots Q (F0 m pc ls (v :: .ref a :: rest)) :=
  va_putN S.1 S.2.1 S.2.2.2.2 hin ty0 hty hnm S.2.2.2.1 hK.1 hP hD hS q0 he hc k hk ((hK.2.2 _ hl).use rfl) (fun x h => by rw [hs] at h; exact h) hfin (by rw [hty k hk, hd]) hn hfit hlen hdg (fun H1 locs1 h1 _ h3 => kk H1 locs1 h1 h3)
end PQP
/-! worlds side by side -/
section PQW
variable {D : va_G} {cl : List vw_C} {X Y Y1 Y2 B : va_W} {H H1 : Heap} {A : Nat → Prop}
theorem pq_P1 (h : va_P D cl (X ++ Y) H) : va_P D cl X H := fun k q hk => h k q (by rw [List.getElem?_append_left (List.getElem?_eq_some_iff.mp hk).1]; exact hk)
theorem pq_P2 (h : va_P D cl (X ++ Y) H) : va_P D cl Y H := fun k q hk => h (X.length + k) q (by rw [List.getElem?_append_right (Nat.le_add_right _ _), Nat.add_sub_cancel_left]; exact hk)
theorem pq_D1 (h : va_D A (X ++ Y)) : va_D A X := ⟨fun i j p q hi hj e => h.1 i j p q (by rw [List.getElem?_append_left (List.getElem?_eq_some_iff.mp hi).1]; exact hi) (by rw [List.getElem?_append_left (List.getElem?_eq_some_iff.mp hj).1]; exact hj) e, fun k q hk => h.2 k q (by rw [List.getElem?_append_left (List.getElem?_eq_some_iff.mp hk).1]; exact hk)⟩
theorem pq_D2 (h : va_D A (X ++ Y)) : va_D A Y := ⟨fun i j p q hi hj e => Nat.add_left_cancel (h.1 (X.length + i) (X.length + j) p q (by rw [List.getElem?_append_right (Nat.le_add_right _ _), Nat.add_sub_cancel_left]; exact hi) (by rw [List.getElem?_append_right (Nat.le_add_right _ _), Nat.add_sub_cancel_left]; exact hj) e), fun k q hk => h.2 (X.length + k) q (by rw [List.getElem?_append_right (Nat.le_add_right _ _), Nat.add_sub_cancel_left]; exact hk)⟩
def pq_ap (X Y : va_W) : Prop := ∀ p ∈ X, ∀ q ∈ Y, p.1 ≠ q.1
theorem pq_Dx (h : va_D A (X ++ Y)) : pq_ap X Y := by
  intro p hp q hq e
  obtain ⟨i, hi⟩ := List.getElem?_of_mem hp
  obtain ⟨j, hj⟩ := List.getElem?_of_mem hq
  have h1 := (List.getElem?_eq_some_iff.mp hi).1
  have h2 := h.1 i (X.length + j) p q (by rw [List.getElem?_append_left h1]; exact hi) (by rw [List.getElem?_append_right (Nat.le_add_right _ _), Nat.add_sub_cancel_left]; exact hj) e
  omega
theorem pq_Da (h1 : va_D A X) (h2 : va_D A Y) (h : pq_ap X Y) : va_D A (X ++ Y) := va_D.app h1 h2 (fun i j p q hi hj => h p (List.mem_of_getElem? hi) q (List.mem_of_getElem? hj))
theorem pq_ap1 (h : pq_ap X (Y1 ++ Y2)) : pq_ap X Y1 := fun p hp q hq => h p hp q (List.mem_append_left _ hq)
theorem pq_ap2 (h : pq_ap X (Y1 ++ Y2)) : pq_ap X Y2 := fun p hp q hq => h p hp q (List.mem_append_right _ hq)
theorem pq_aps (h : pq_ap X Y) : pq_ap Y X := fun p hp q hq e => h q hq p hp e.symm
theorem pq_A1 {sz q : Nat} (h : va_A X sz q) : va_A (X ++ Y) sz q := by
  rcases h with ⟨k, e, h⟩ | h
  · exact Or.inl ⟨k, e, by rw [List.getElem?_append_left (List.getElem?_eq_some_iff.mp h).1]; exact h⟩
  · exact Or.inr h
theorem pq_A2 {sz q : Nat} (h : va_A Y sz q) : va_A (X ++ Y) sz q := by
  rcases h with ⟨k, e, h⟩ | h
  · exact Or.inl ⟨X.length + k, e, by rw [List.getElem?_append_right (Nat.le_add_right _ _), Nat.add_sub_cancel_left]; exact h⟩
  · exact Or.inr h
/-- what is apart from the part that a call may write, stays -/
theorem pq_kp (hP : va_P D cl X H) (ha : pq_ap X B) (hk : ∀ q : Nat, q < H.size → ¬ va_A B H.size q → H1[q]? = H[q]?) : va_P D cl X H1 := fun k q h => (hP k q h).kept (hk q.1 (hP k q h).lt (by
  rintro (⟨z, e, hz⟩ | hz)
  · exact ha q (List.mem_of_getElem? h) (q.1, e) (List.mem_of_getElem? hz) rfl
  · have := (hP k q h).lt
    omega))
/-! a row of worlds -/
def pq_fam (F : Nat → va_W) : Nat → va_W
  | 0 => []
  | n + 1 => pq_fam F n ++ F n
theorem pq_famP {F : Nat → va_W} {i : Nat} : ∀ {n : Nat}, i < n → va_P D cl (pq_fam F n) H → va_P D cl (F i) H
  | 0, h, _ => absurd h (Nat.not_lt_zero i)
  | n + 1, h, hP => by
    rcases Nat.lt_or_ge i n with q | q
    · exact pq_famP q (pq_P1 hP)
    · have e : i = n := by omega
      subst e
      exact pq_P2 hP
theorem pq_famD {F : Nat → va_W} {i : Nat} : ∀ {n : Nat}, i < n → va_D A (pq_fam F n) → va_D A (F i)
  | 0, h, _ => absurd h (Nat.not_lt_zero i)
  | n + 1, h, hP => by
    rcases Nat.lt_or_ge i n with q | q
    · exact pq_famD q (pq_D1 hP)
    · have e : i = n := by omega
      subst e
      exact pq_D2 hP
theorem pq_famM {F : Nat → va_W} {i : Nat} {x : Nat × va_E} (hx : x ∈ F i) : ∀ {n : Nat}, i < n → x ∈ pq_fam F n
  | 0, h => absurd h (Nat.not_lt_zero i)
  | n + 1, h => by
    rcases Nat.lt_or_ge i n with q | q
    · exact List.mem_append_left _ (pq_famM hx q)
    · have e : i = n := by omega
      subst e
      exact List.mem_append_right _ hx
theorem pq_famU {F G : Nat → va_W} {i : Nat} (hG : ∀ k, k ≠ i → G k = F k) (hk : ∀ q : Nat, q < H.size → ¬ va_A (F i) H.size q → H1[q]? = H[q]?) (h1 : va_P D cl (G i) H1) : ∀ {n : Nat}, i < n → va_P D cl (pq_fam F n) H → va_D A (pq_fam F n) → va_P D cl (pq_fam G n) H1
  | 0, h, _, _ => absurd h (Nat.not_lt_zero i)
  | n + 1, h, hP, hD => by
    rcases Nat.lt_or_ge i n with q | q
    · refine va_P.app (pq_famU hG hk h1 q (pq_P1 hP) (pq_D1 hD)) ?_
      rw [hG n (by omega)]
      exact pq_kp (pq_P2 hP) (fun x hx y hy => fun e => pq_Dx hD y (pq_famM hy q) x hx e.symm) hk
    · have e : i = n := by omega
      subst e
      refine va_P.app ?_ h1
      have : ∀ m, m ≤ i → pq_fam G m = pq_fam F m := by
        intro m
        induction m with
        | zero => intro _; rfl
        | succ m ih => intro hm; rw [pq_fam, pq_fam, ih (by omega), hG m (by omega)]
      rw [this i (Nat.le_refl i)]
      exact pq_kp (pq_P1 hP) (pq_Dx hD) hk
theorem pq_famA {F : Nat → va_W} {i sz q : Nat} (hq : va_A (F i) sz q) : ∀ {n : Nat}, i < n → va_A (pq_fam F n) sz q
  | 0, h => absurd h (Nat.not_lt_zero i)
  | n + 1, h => by
    rcases Nat.lt_or_ge i n with z | z
    · exact pq_A1 (pq_famA hq z)
    · have e : i = n := by omega
      subst e
      exact pq_A2 hq
end PQW
