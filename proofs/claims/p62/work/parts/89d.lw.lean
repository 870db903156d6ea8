/-! ===== the law's own rows: worlds, texts, calls ===== -/
theorem vs_L_7 : pq_Sw RL 7 yL_cell cL_cell 2 (some .int) 2 := ⟨⟨pq_in 666 (by decide +kernel) (by decide +kernel), pq_in 667 (by decide +kernel) (by decide +kernel), pq_in 17 (by decide +kernel) (by decide +kernel), pq_in 668 (by decide +kernel) (by decide +kernel)⟩, by decide +kernel, by decide +kernel, by decide +kernel⟩
theorem vs_L_90 : pq_Sw RL 90 yL_some cL_some 3 (some .int) 3 := ⟨⟨pq_in 663 (by decide +kernel) (by decide +kernel), pq_in 664 (by decide +kernel) (by decide +kernel), pq_in 17 (by decide +kernel) (by decide +kernel), pq_in 665 (by decide +kernel) (by decide +kernel)⟩, by decide +kernel, by decide +kernel, by decide +kernel⟩
theorem vs_L_97 : pq_Sw RL 97 yL_acts cL_acts 8 none 3 := ⟨⟨pq_in 886 (by decide +kernel) (by decide +kernel), pq_in 887 (by decide +kernel) (by decide +kernel), pq_in 17 (by decide +kernel) (by decide +kernel), pq_in 888 (by decide +kernel) (by decide +kernel)⟩, by decide +kernel, by decide +kernel, by decide +kernel⟩
theorem vs_L_169 : pq_Sw RL 169 yL_build cL_build 4 none 2 := ⟨⟨pq_in 776 (by decide +kernel) (by decide +kernel), pq_in 777 (by decide +kernel) (by decide +kernel), pq_in 17 (by decide +kernel) (by decide +kernel), pq_in 778 (by decide +kernel) (by decide +kernel)⟩, by decide +kernel, by decide +kernel, by decide +kernel⟩
theorem vs_L_194 : pq_Sw RL 194 yL_isAbove cL_isAbove 4 (some .boolean) 3 := ⟨⟨pq_in 994 (by decide +kernel) (by decide +kernel), pq_in 995 (by decide +kernel) (by decide +kernel), pq_in 17 (by decide +kernel) (by decide +kernel), pq_in 996 (by decide +kernel) (by decide +kernel)⟩, by decide +kernel, by decide +kernel, by decide +kernel⟩
theorem vs_L_238 : pq_Sw RL 238 yL_isLine cL_isLine 4 (some .boolean) 3 := ⟨⟨pq_in 997 (by decide +kernel) (by decide +kernel), pq_in 998 (by decide +kernel) (by decide +kernel), pq_in 17 (by decide +kernel) (by decide +kernel), pq_in 999 (by decide +kernel) (by decide +kernel)⟩, by decide +kernel, by decide +kernel, by decide +kernel⟩
theorem vs_L_151 : pq_Sw RL 151 yL_written cL_written 2 (some (.object "java/lang/String")) 2 := ⟨⟨pq_in 1058 (by decide +kernel) (by decide +kernel), pq_in 1059 (by decide +kernel) (by decide +kernel), pq_in 17 (by decide +kernel) (by decide +kernel), pq_in 1060 (by decide +kernel) (by decide +kernel)⟩, by decide +kernel, by decide +kernel, by decide +kernel⟩
theorem vm_L_111 : pq_Mw RL 111 Lib.Math.min.name Lib.Math.min.code := ⟨pq_in 948 (by decide +kernel) (by decide +kernel), pq_in 423 (by decide +kernel) (by decide +kernel), pq_in 31 (by decide +kernel) (by decide +kernel), pq_in 424 (by decide +kernel) (by decide +kernel)⟩
theorem vm_L_210 : pq_Mw RL 210 Lib.Math.max.name Lib.Math.max.code := ⟨pq_in 1277 (by decide +kernel) (by decide +kernel), pq_in 408 (by decide +kernel) (by decide +kernel), pq_in 31 (by decide +kernel) (by decide +kernel), pq_in 409 (by decide +kernel) (by decide +kernel)⟩
theorem vi_L_168 : pq_Iq RL 168 yX6_init cX6_init 1 := ⟨⟨pq_in 48 (by decide +kernel) (by decide +kernel), pq_in 49 (by decide +kernel) (by decide +kernel), pq_in 18 (by decide +kernel) (by decide +kernel), pq_in 50 (by decide +kernel) (by decide +kernel)⟩, rfl, by decide +kernel, by decide +kernel, by decide +kernel⟩
theorem vnL_14 : Cond.classLink RL 14 RX6 ∈ pq_G ∧ Cond.instantiable RX6 11 ∈ pq_G ∧ Cond.initialized RX6 ∈ pq_G := ⟨pq_in 46 (by decide +kernel) (by decide +kernel), pq_in 47 (by decide +kernel) (by decide +kernel), pq_in 18 (by decide +kernel) (by decide +kernel)⟩
theorem lw_on {D : va_G} {cl : List vw_C} {X F Y Y' : va_W} {H H1 : Heap} {A : Nat → Prop} (hP : va_P D cl (X ++ (F ++ Y)) H) (hD : va_D A (X ++ (F ++ Y))) (hDY : va_D A Y') (hn : ∀ q ∈ Y', (∃ q0 ∈ Y, q0.1 = q.1) ∨ H.size ≤ q.1) (hk : ∀ q : Nat, q < H.size → ¬ va_A Y H.size q → H1[q]? = H[q]?) (hP1 : va_P D cl Y' H1) : va_P D cl (X ++ (F ++ Y')) H1 ∧ va_D A (X ++ (F ++ Y')) := by
  have hXY : pq_ap X Y := pq_ap2 (pq_Dx hD)
  have hFY : pq_ap F Y := pq_Dx (pq_D2 hD)
  have hg : ∀ {Z : va_W}, va_P D cl Z H → pq_ap Z Y → pq_ap Z Y' := fun {Z} hZ hZY p hp q hq e => by
    rcases hn q hq with ⟨q0, h0, h1⟩ | h1
    · exact hZY p hp q0 h0 (e.trans h1.symm)
    · obtain ⟨i, hi⟩ := List.getElem?_of_mem hp
      have h2 : p.1 < H.size := (hZ i p hi).lt
      omega
  have hx := hg (pq_P1 hP) hXY
  have hf := hg (pq_P1 (pq_P2 hP)) hFY
  refine ⟨va_P.app (pq_kp (pq_P1 hP) hXY hk) (va_P.app (pq_kp (pq_P1 (pq_P2 hP)) hFY hk) hP1), pq_Da (pq_D1 hD) (pq_Da (pq_D1 (pq_D2 hD)) hDY hf) (fun p hp q hq e => ?_)⟩
  rcases List.mem_append.mp hq with h | h
  · exact pq_ap1 (pq_Dx hD) p hp q h e
  · exact hx p hp q h e
theorem lw_D1 {A : Nat → Prop} {b : Nat} {e : va_E} (h : A b) : va_D A [(b, e)] := by
  refine ⟨fun i j p q hi hj _ => ?_, fun k q hk => ?_⟩
  · have h1 := (List.getElem?_eq_some_iff.mp hi).1
    have h2 := (List.getElem?_eq_some_iff.mp hj).1
    simp at h1 h2
    omega
  · have h9 := List.mem_of_getElem? hk
    rw [List.mem_singleton] at h9
    rw [h9]; exact h
theorem lw_D2 {A : Nat → Prop} {b z : Nat} {e1 e2 : va_E} (hne : b ≠ z) (h1 : A b) (h2 : A z) : va_D A ([(b, e1)] ++ [(z, e2)]) :=
  pq_Da (lw_D1 h1) (lw_D1 h2) (fun p hp q hq e => by
    rw [List.mem_singleton] at hp hq
    rw [hp, hq] at e
    exact hne e)
/-- a world of cells that are new, beside another -/
theorem lw_new {D : va_G} {cl : List vw_C} {X E : va_W} {H0 H : Heap} {A : Nat → Prop} {locs : List Loc} (hP : va_P D cl X H) (hD : va_D A X) (hS : va_S A H0 H locs) (hA : ∀ q : Nat, H0.size ≤ q → A q) (hE : va_D (fun _ => True) E) (hz : ∀ q ∈ E, H.size ≤ q.1) : va_D A (X ++ E) := by
  refine pq_Da hD ⟨hE.1, fun k q hk => hA _ (Nat.le_trans hS.1 (hz q (List.mem_of_getElem? hk)))⟩ (fun p hp q hq e => ?_)
  obtain ⟨i, hi⟩ := List.getElem?_of_mem hp
  have h1 : p.1 < H.size := (hP i p hi).lt
  have h2 := hz q hq
  omega
/-- what a builder holds -/
def sbO (x : List Nat) (m : Nat) (f : Nat → Int32) : Prop := x.length ≤ m ∧ m ≤ 1002 ∧ sb_Fit f ∧ sb_T x f
/-- a text: the empty one of the law, or a String of the world -/
def lw_str (g : pq_g) (ad : Nat → Nat) (t : List Nat) (b : Nat) (E : va_W) : Prop := (t = [] ∧ b = ad 0 ∧ E = []) ∨ ∃ (v : Nat) (f : Nat → Int32), E = stW g b v t.length f ∧ ∀ j, j < t.length → f j = nI (t.getD j 0)
theorem lw_nB {D : va_G} {cl : List vw_C} {E Y : va_W} {H : Heap} (hP : va_P D cl E H) (h : pq_ap E Y) : ∀ p ∈ E, ¬ va_A Y H.size p.1 := by
  rintro p hp (⟨k, e, hk⟩ | hk)
  · exact h p hp (p.1, e) (List.mem_of_getElem? hk) rfl
  · obtain ⟨i, hi⟩ := List.getElem?_of_mem hp
    have := (hP i p hi).lt
    omega
section LW
variable {p : Program} {l : Launch} {e : Env} {s : State} {m : MethodId} {args : Array Value} {below : List Frame} {meth : Method} {c : Code} {H H0 : Heap} {locs : List Loc} {cells slots : Nat} {Q : State → Prop} {A : Nat → Prop}
variable {cc bytes : ByteArray} {own C : String} {idx nL maxL n k n1 s1 n9 : Nat} {y : MethodName} {g : pq_g} {ad av : Nat → Nat} {TX : tx_L} {sb L : Nat} {xs : Nat → Int32} {E F : va_W} {a : Nat → Nat} {b v : Nat} {T T1 : MainS} {As rest : List Value} {ret : Option FieldType} {pc : Nat} {ls : Array Slot} {st : List Value} {R : Room}
/-- what stays through a method of the law -/
def lwC (p : Program) (l : Launch) (s : State) (m : MethodId) (args : Array Value) (c : Code) (cc : ByteArray) (nL : Nat) (A : Nat → Prop) (g : pq_g) (ad av : Nat → Nat) (TX : tx_L) (sb L : Nat) (xs : Nat → Int32) : Prop :=
  CallFix p m c cc nL s args pq_G RL ∧ pq_K g s ∧ (∀ q : Nat, s.heap.size ≤ q → A q) ∧ lI ad av TX sb L xs A s s.heap ∧ l.stackTraces = false
/-- what moves -/
def lwM (g : pq_g) (a : Nat → Nat) (T : MainS) (E : va_W) (A : Nat → Prop) (s : State) (H : Heap) (locs : List Loc) : Prop := va_P g.1 pq_cl (mainW g a T ++ E) H ∧ va_D A (mainW g a T ++ E) ∧ va_S A s.heap H locs
theorem lwM.P {g : pq_g} {a : Nat → Nat} {T : MainS} {E : va_W} {A : Nat → Prop} {s : State} {H : Heap} {locs : List Loc} (h : lwM g a T E A s H locs) : va_P g.1 pq_cl (mainW g a T) H := pq_P1 h.1
theorem lwM.Dm {g : pq_g} {a : Nat → Nat} {T : MainS} {E : va_W} {A : Nat → Prop} {s : State} {H : Heap} {locs : List Loc} (h : lwM g a T E A s H locs) : va_D A (mainW g a T) := pq_D1 h.2.1
/-- a part of the further world alone -/
theorem lwM.fst {g : pq_g} {a : Nat → Nat} {T : MainS} {E F : va_W} {A : Nat → Prop} {s : State} {H : Heap} {locs : List Loc} (h : lwM g a T (E ++ F) A s H locs) : lwM g a T E A s H locs :=
  ⟨va_P.app (pq_P1 h.1) (pq_P1 (pq_P2 h.1)), pq_Da (pq_D1 h.2.1) (pq_D1 (pq_D2 h.2.1)) (pq_ap1 (pq_Dx h.2.1)), h.2.2⟩
theorem lwM.snd {g : pq_g} {a : Nat → Nat} {T : MainS} {E F : va_W} {A : Nat → Prop} {s : State} {H : Heap} {locs : List Loc} (h : lwM g a T (E ++ F) A s H locs) : lwM g a T F A s H locs :=
  ⟨va_P.app (pq_P1 h.1) (pq_P2 (pq_P2 h.1)), pq_Da (pq_D1 h.2.1) (pq_D2 (pq_D2 h.2.1)) (pq_ap2 (pq_Dx h.2.1)), h.2.2⟩
theorem lwM.nil {g : pq_g} {a : Nat → Nat} {T : MainS} {E : va_W} {A : Nat → Prop} {s : State} {H : Heap} {locs : List Loc} (h : lwM g a T E A s H locs) : lwM g a T [] A s H locs :=
  ⟨va_P.app (pq_P1 h.1) pq_P0, pq_Da (pq_D1 h.2.1) pq_D0 (fun _ _ q hq => absurd hq List.not_mem_nil), h.2.2⟩
/-- a call of the object that may throw, and answers an int -/
theorem mX (C0 : lwC p l s m args c cc nL A g ad av TX sb L xs) (M0 : lwM g a T E A s H locs) {r : Int32} (hM : pq_X l y bytes maxL ret k n9 g (mainW g a T) (.ref (a 0) :: As) (.inr (some (.int r))) (mainW g a T1)) (w : pq_Vw RL idx RX6 y bytes maxL ret n) (hst : st = As.reverse ++ .ref (a 0) :: rest) (hn : As.length = n) (hls : ls.size = nL) (hr : (rest.map fun v => v.category).sum ≤ 8) (hdg : decode cc pc = .ok (.invokevirtual idx, 3)) (hR : k + 1 ≤ R.frames ∧ 8 + (maxL + 11) + 64 * k ≤ R.locals) (hf : cells + n9 ≤ R.cells ∧ slots + 6 * n9 ≤ R.slots)
    (kk : ∀ (H1 : Heap) (locs1 : List Loc), lwM g a T1 E A s H1 locs1 → W p l e R s m args below meth c H1 locs1 (cells + n9) (slots + 6 * n9) Q (F0 m (pc + 3) ls (.int r :: rest))) : W p l e R s m args below meth c H locs cells slots Q (F0 m pc ls st) :=
  lX C0.1 hM w C0.2.1 C0.2.2.2.1.1.1 M0.1 M0.2.1 M0.2.2 C0.2.2.1 hst hn hls hr hdg hR hf (fun H1 locs1 h1 h2 _ h3 => kk H1 locs1 ⟨h1, h2, h3⟩)
/-- .. any value -/
theorem mXv (C0 : lwC p l s m args c cc nL A g ad av TX sb L xs) (M0 : lwM g a T E A s H locs) {r : Value} (hM : pq_X l y bytes maxL ret k n9 g (mainW g a T) (.ref (a 0) :: As) (.inr (some r)) (mainW g a T1)) (w : pq_Vw RL idx RX6 y bytes maxL ret n) (hst : st = As.reverse ++ .ref (a 0) :: rest) (hn : As.length = n) (hls : ls.size = nL) (hr : (rest.map fun v => v.category).sum ≤ 8) (hdg : decode cc pc = .ok (.invokevirtual idx, 3)) (hR : k + 1 ≤ R.frames ∧ 8 + (maxL + 11) + 64 * k ≤ R.locals) (hf : cells + n9 ≤ R.cells ∧ slots + 6 * n9 ≤ R.slots)
    (kk : ∀ (H1 : Heap) (locs1 : List Loc), lwM g a T1 E A s H1 locs1 → W p l e R s m args below meth c H1 locs1 (cells + n9) (slots + 6 * n9) Q (F0 m (pc + 3) ls (r :: rest))) : W p l e R s m args below meth c H locs cells slots Q (F0 m pc ls st) :=
  lX C0.1 hM w C0.2.1 C0.2.2.2.1.1.1 M0.1 M0.2.1 M0.2.2 C0.2.2.1 hst hn hls hr hdg hR hf (fun H1 locs1 h1 h2 _ h3 => kk H1 locs1 ⟨h1, h2, h3⟩)
/-- a helper of the law -/
theorem mH (C0 : lwC p l s m args c cc nL A g ad av TX sb L xs) (M0 : lwM g a T E A s H locs) {hh : List (Nat × Nat × Nat × Nat)} {r : Int32} (hM : pq_H l y bytes maxL hh k n9 g (mainW g a T) As r (mainW g a T1)) (w : pq_Hw RL idx y bytes maxL hh n) (hst : st = As.reverse ++ rest) (hn : As.length = n) (hls : ls.size = nL) (hr : (rest.map fun v => v.category).sum ≤ 8) (hdg : decode cc pc = .ok (.invokestatic idx, 3)) (hR : k + 1 ≤ R.frames ∧ 8 + (maxL + 11) + 64 * k ≤ R.locals) (hf : cells + n9 ≤ R.cells ∧ slots + 6 * n9 ≤ R.slots)
    (kk : ∀ (H1 : Heap) (locs1 : List Loc), lwM g a T1 E A s H1 locs1 → W p l e R s m args below meth c H1 locs1 (cells + n9) (slots + 6 * n9) Q (F0 m (pc + 3) ls (.int r :: rest))) : W p l e R s m args below meth c H locs cells slots Q (F0 m pc ls st) :=
  lH C0.1 hM w C0.2.1 C0.2.2.2.1.1.1 C0.2.2.2.1.1.2 M0.1 M0.2.1 M0.2.2 C0.2.2.1 hst hn hls hr hdg hR hf (fun H1 locs1 h1 h2 _ h3 => kk H1 locs1 ⟨h1, h2, h3⟩)
/-- a call of the object that reads -/
theorem mR (C0 : lwC p l s m args c cc nL A g ad av TX sb L xs) (M0 : lwM g a T E A s H locs) {r : Int32} {ty : FieldType} (hM : pq_R l y bytes maxL ty k g (mainW g a T) (.ref (a 0) :: As) r) (w : pq_Vw RL idx RX6 y bytes maxL (some ty) n) (hst : st = As.reverse ++ .ref (a 0) :: rest) (hn : As.length = n) (hls : ls.size = nL) (hr : (rest.map fun v => v.category).sum ≤ 8) (hdg : decode cc pc = .ok (.invokevirtual idx, 3)) (hR : k + 1 ≤ R.frames ∧ 8 + (maxL + 11) + 64 * k ≤ R.locals) (hf : cells ≤ R.cells ∧ slots ≤ R.slots)
    (kk : W p l e R s m args below meth c H locs cells slots Q (F0 m (pc + 3) ls (.int r :: rest))) : W p l e R s m args below meth c H locs cells slots Q (F0 m pc ls st) :=
  lR C0.1 hM w C0.2.1 M0.1 hst hn hls hr hdg hR hf kk
/-- .. that writes, and answers -/
theorem mMi (C0 : lwC p l s m args c cc nL A g ad av TX sb L xs) (M0 : lwM g a T E A s H locs) {r : Int32} {ty : FieldType} (hM : pq_Mi l y bytes maxL ty k g (mainW g a T) (.ref (a 0) :: As) r (mainW g a T1)) (w : pq_Vw RL idx RX6 y bytes maxL (some ty) n) (hst : st = As.reverse ++ .ref (a 0) :: rest) (hn : As.length = n) (hls : ls.size = nL) (hr : (rest.map fun v => v.category).sum ≤ 8) (hdg : decode cc pc = .ok (.invokevirtual idx, 3)) (hR : k + 1 ≤ R.frames ∧ 8 + (maxL + 11) + 64 * k ≤ R.locals) (hf : cells ≤ R.cells ∧ slots ≤ R.slots)
    (kk : ∀ (H1 : Heap) (locs1 : List Loc), lwM g a T1 E A s H1 locs1 → W p l e R s m args below meth c H1 locs1 cells slots Q (F0 m (pc + 3) ls (.int r :: rest))) : W p l e R s m args below meth c H locs cells slots Q (F0 m pc ls st) :=
  lMi C0.1 hM w C0.2.1 M0.1 M0.2.1 M0.2.2 C0.2.2.1 hst hn hls hr hdg hR hf (fun H1 locs1 h1 h2 h3 => kk H1 locs1 ⟨h1, h2, h3⟩)
theorem mmin (C0 : lwC p l s m args c cc nL A g ad av TX sb L xs) (hls : ls.size = nL) (hr : (rest.map fun v => v.category).sum ≤ 8) {x y : Int32} (w : pq_Mw RL idx Lib.Math.min.name Lib.Math.min.code) (hdg : decode cc pc = .ok (.invokestatic idx, 3)) (hR : 1 ≤ R.frames ∧ 30 ≤ R.locals) (hf : cells ≤ R.cells ∧ slots ≤ R.slots)
    (kk : W p l e R s m args below meth c H locs cells slots Q (F0 m (pc + 3) ls (.int (if y < x then y else x) :: rest))) : W p l e R s m args below meth c H locs cells slots Q (F0 m pc ls (.int y :: .int x :: rest)) := by
  have S := C0.1
  exact va_mmin S.1 S.2.1 (S.2.2.1.trans hls.symm) S.2.2.2.1 (S.2.2.2.2 _ w.1) (S.2.2.2.2 _ w.2.1) (S.2.2.2.2 _ w.2.2.1) (S.2.2.2.2 _ w.2.2.2) hR.1 (by omega) hf.1 hf.2 hdg kk
theorem mmax (C0 : lwC p l s m args c cc nL A g ad av TX sb L xs) (hls : ls.size = nL) (hr : (rest.map fun v => v.category).sum ≤ 8) {x y : Int32} (w : pq_Mw RL idx Lib.Math.max.name Lib.Math.max.code) (hdg : decode cc pc = .ok (.invokestatic idx, 3)) (hR : 1 ≤ R.frames ∧ 30 ≤ R.locals) (hf : cells ≤ R.cells ∧ slots ≤ R.slots)
    (kk : W p l e R s m args below meth c H locs cells slots Q (F0 m (pc + 3) ls (.int (if x < y then y else x) :: rest))) : W p l e R s m args below meth c H locs cells slots Q (F0 m pc ls (.int y :: .int x :: rest)) := by
  have S := C0.1
  exact va_mmax S.1 S.2.1 (S.2.2.1.trans hls.symm) S.2.2.2.1 (S.2.2.2.2 _ w.1) (S.2.2.2.2 _ w.2.1) (S.2.2.2.2 _ w.2.2.1) (S.2.2.2.2 _ w.2.2.2) hR.1 (by omega) hf.1 hf.2 hdg kk
/-- a static method of the law that reads the script alone -/
theorem mS0 (C0 : lwC p l s m args c cc nL A g ad av TX sb L xs) (M0 : lwM g a T E A s H locs) {r : Int32} (hM : lM l y bytes maxL ret k 0 0 g ad av [] sb L xs [] As (fun v _ _ => v = some (.int r))) (w : pq_Sw RL idx y bytes maxL ret n) (hst : st = As.reverse ++ rest) (hn : As.length = n) (hls : ls.size = nL) (hr : (rest.map fun v => v.category).sum ≤ 8) (hdg : decode cc pc = .ok (.invokestatic idx, 3)) (hR : k + 1 ≤ R.frames ∧ 8 + (maxL + 11) + 64 * k ≤ R.locals) (hf : cells ≤ R.cells ∧ slots ≤ R.slots)
    (kk : ∀ (H1 : Heap) (locs1 : List Loc), lwM g a T E A s H1 locs1 → W p l e R s m args below meth c H1 locs1 cells slots Q (F0 m (pc + 3) ls (.int r :: rest))) : W p l e R s m args below meth c H locs cells slots Q (F0 m pc ls st) :=
  lS C0.1 hM w C0.2.1 (C0.2.2.2.1.at M0.2.2 (pq_Afree pq_D0 M0.2.2 C0.2.2.1) (TY := []) (fun q h => absurd h List.not_mem_nil)) pq_P0 pq_D0 M0.2.2 C0.2.2.1 hst hn hls hr hdg hR hf (fun v H1 locs1 hv _ hk hS1 => by
    subst hv
    exact kk H1 locs1 ⟨pq_kp0 M0.1 hk, M0.2.1, hS1⟩)
/-- .. that works on the object -/
theorem mS (C0 : lwC p l s m args c cc nL A g ad av TX sb L xs) (M0 : lwM g a T E A s H locs) {TY : tx_L} {post : Option Value → Nat → Heap → Prop} (hM : lM l y bytes maxL ret k n1 s1 g ad av TY sb L xs (mainW g a T) As post) (hTY : ∀ U : State, U.heap = H → s.WarmedH U.vm → ∀ q ∈ TY, tx_O q.1 q.2.1 q.2.2 (va_A (mainW g a T) H.size) U U.heap) (w : pq_Sw RL idx y bytes maxL ret n) (hst : st = As.reverse ++ rest) (hn : As.length = n) (hls : ls.size = nL) (hr : (rest.map fun v => v.category).sum ≤ 8) (hdg : decode cc pc = .ok (.invokestatic idx, 3)) (hR : k + 1 ≤ R.frames ∧ 8 + (maxL + 11) + 64 * k ≤ R.locals) (hf : cells + n1 ≤ R.cells ∧ slots + s1 ≤ R.slots)
    (kk : ∀ (v : Option Value) (H1 : Heap) (locs1 : List Loc), post v H.size H1 → H.size ≤ H1.size → va_P g.1 pq_cl E H1 → va_S A s.heap H1 locs1 → W p l e R s m args below meth c H1 locs1 (cells + n1) (slots + s1) Q (F0 m (pc + 3) ls (v.toList ++ rest))) : W p l e R s m args below meth c H locs cells slots Q (F0 m pc ls st) := by
  refine lS C0.1 hM w C0.2.1 (fun U hU hW => ?_) (pq_P1 M0.1) (pq_D1 M0.2.1) M0.2.2 C0.2.2.1 hst hn hls hr hdg hR hf (fun v H1 locs1 hv hz hk hS1 => kk v H1 locs1 hv hz (pq_kp (pq_P2 M0.1) (pq_aps (pq_Dx M0.2.1)) hk) hS1)
  have h := C0.2.2.2.1.at M0.2.2 (pq_Afree (pq_D1 M0.2.1) M0.2.2 C0.2.2.1) (TY := []) (fun q h => absurd h List.not_mem_nil) U hU hW
  exact ⟨h.1, ⟨h.2.1.1, hTY U hU hW, h.2.1.2.2⟩, h.2.2⟩
theorem mS_no {T : MainS} {s : State} {H : Heap} {g : pq_g} {a : Nat → Nat} : ∀ U : State, U.heap = H → s.WarmedH U.vm → ∀ q ∈ ([] : tx_L), tx_O q.1 q.2.1 q.2.2 (va_A (mainW g a T) H.size) U U.heap := fun _ _ _ q h => absurd h List.not_mem_nil
/-- a String of the world, as a text -/
theorem tx_of (S : CallFix p m c cc nL s args pq_G own) (hK : pq_K g s) {t : List Nat} {f : Nat → Int32} (hP : va_P g.1 pq_cl (stW g b v t.length f) H) (hf : ∀ j, j < t.length → f j = nI (t.getD j 0)) {B : Nat → Prop} (h1 : ¬ B b) (h2 : ¬ B v) (hn : t.length < 2 ^ 31) : ∀ U : State, U.heap = H → s.WarmedH U.vm → tx_O t b v B U U.heap := by
  have key : tx_O t b v B s H := by
    obtain ⟨r, e1, cell, q1, q2, q3, q4⟩ := hP 0 _ rfl
    have hr : r = (RJ0, TJ0, 4) := Option.some.inj (e1.symm.trans rfl)
    subst hr
    obtain ⟨hS, hfc, kC, hkC, hkind⟩ := hK.1.1 7 _ rfl
    have fld : ∀ k, k < 4 → ∀ v0 : Value, vp_V [.ref v, .int 0, .int 0, .int 0] k = v0 → va_OF (TJ0 k).1 (TJ0 k).2.1 (TJ0 k).2.2.1 v0 b B s H := fun k hk v0 hv => by
      obtain ⟨cf, kf, fi, fd, hi, hsl⟩ := hS k hk
      exact ⟨cf, kf, fi, fd, cell, hi, (u_facts hfc hkC (u_lays S.2.2.2.2 inJ0 hk) hi).1, q1, (by rw [q3]; exact fun h => (by cases h)), (by rw [hsl, q4 k hk]; exact congrArg some hv), h1⟩
    refine ⟨⟨cell, q1, by rw [q3]; rfl, by rw [q2]; exact hfc, h1⟩, fld 1 (by decide) (.int 0) rfl, fld 0 (by decide) (.ref v) rfl, ?_⟩
    have hv := hP 1 _ rfl
    refine ⟨arrV (g.2 1) t.length (fun j => .int (f j)), hv, (hK.1.2 1 _ rfl).1 _ _, (fun h => (by cases h)), ?_, ?_, fun j hj => ?_, h2⟩
    · rw [arrV_size]; exact Nat.le_refl _
    · exact congrArg Nat.toInt32 (arrV_size _ _ _)
    · rw [arrV_read _ _ hj, hf j hj]
  intro U hU hW
  rw [hU]
  exact ⟨va_O.moved hW.alike key.1, va_OF.moved hW.alike key.2.1, va_OF.moved hW.alike key.2.2.1, va_T.moved hW.alike key.2.2.2⟩
theorem lw_strT (C0 : lwC p l s m args c cc nL A g ad av TX sb L xs) (hS : va_S A s.heap H locs) {t : List Nat} (hs : lw_str g ad t b E) (hP : va_P g.1 pq_cl E H) {B : Nat → Prop} (hB : ∀ q, B q → A q) (hE : ∀ p ∈ E, ¬ B p.1) (hn : t.length < 2 ^ 31) : ∃ v, ∀ U : State, U.heap = H → s.WarmedH U.vm → tx_O t b v B U U.heap := by
  rcases hs with ⟨rfl, rfl, -⟩ | ⟨v, f, rfl, hf⟩
  · refine ⟨av 0, fun U hU hW => ?_⟩
    rw [hU]
    exact tx_O.go (pq_SX.text C0.2.2.2.1.2.1.1 0 (by decide)) hS.2.1 hW hB
  · exact ⟨v, tx_of C0.1 C0.2.1 hP hf (hE _ (List.mem_append_left _ List.mem_cons_self)) (hE _ (List.mem_append_right _ List.mem_cons_self)) hn⟩
/-- a constant text of the law -/
theorem lw_cst (C0 : lwC p l s m args c cc nL A g ad av TX sb L xs) (hS : va_S A s.heap H locs) (i : Nat) (hi : i < 5) {B : Nat → Prop} (hB : ∀ q, B q → A q) : ∀ U : State, U.heap = H → s.WarmedH U.vm → tx_O (pz_t.getD i []) (ad i) (av i) B U U.heap := fun U hU hW => by
  rw [hU]
  exact tx_O.go (pq_SX.text C0.2.2.2.1.2.1.1 i hi) hS.2.1 hW hB
theorem mldc (C0 : lwC p l s m args c cc nL A g ad av TX sb L xs) (i : Nat) (hi : i < 5) (hdg : decode cc pc = .ok (.ldc (pz_tx.getD i (0, "")).1, 2))
    (kk : W p l e R s m args below meth c H locs cells slots Q (F0 m (pc + 2) ls (.ref (ad i) :: rest))) : W p l e R s m args below meth c H locs cells slots Q (F0 m pc ls rest) :=
  va_ldcS C0.1.1 C0.1.2.1 C0.1.2.2.2.1 (C0.2.2.2.1.2.1.1.2.1 i hi) hdg kk
theorem mldcw (C0 : lwC p l s m args c cc nL A g ad av TX sb L xs) (i : Nat) (hi : i < 5) (hdg : decode cc pc = .ok (.ldc_w (pz_tx.getD i (0, "")).1, 3))
    (kk : W p l e R s m args below meth c H locs cells slots Q (F0 m (pc + 3) ls (.ref (ad i) :: rest))) : W p l e R s m args below meth c H locs cells slots Q (F0 m pc ls rest) := by
  have hZ := C0.2.2.2.1.2.1.1.2.1 i hi
  have S := C0.1
  intro T hT X
  obtain ⟨t, a1, b1⟩ := kk T hT X
  exact ⟨t, X.ldcStringW S.1 S.2.2.2.1 (a := ad i) hZ.1 hZ.2 (g := F0 m pc ls rest) rfl (by rw [S.2.1]; exact hdg) t a1, b1⟩
/-- new StringBuilder() -/
theorem mSBn (C0 : lwC p l s m args c cc nL A g ad av TX sb L xs) (M0 : lwM g a T E A s H locs) (hls : ls.size = nL) (hr : (rest.map fun v => v.category).sum ≤ 6) (d0 : decode cc pc = .ok (.new 140, 3)) (d1 : decode cc (pc + 3) = .ok (.dup, 1)) (d2 : decode cc (pc + 4) = .ok (.invokespecial 142, 3)) (hR : 8 ≤ R.frames ∧ 600 ≤ R.locals) (hf : cells + 2 ≤ R.cells ∧ slots + 20 ≤ R.slots)
    (kk : ∀ (b w : Nat) (f : Nat → Int32) (H1 : Heap) (locs1 : List Loc), lwM g a T (E ++ sbW g b w 16 (nI ([] : List Nat).length) f) A s H1 locs1 → sbO [] 16 f → W p l e R s m args below meth c H1 locs1 (cells + 2) (slots + 20) Q (F0 m (pc + 7) ls (.ref b :: rest))) : W p l e R s m args below meth c H locs cells slots Q (F0 m pc ls rest) := by
  obtain ⟨S, hK, hA, hI, -⟩ := id C0
  obtain ⟨hP, hD, hS⟩ := M0
  refine pq_new S inJ4 tyJ4 tyJ4_ok vnL_140.1 vnL_140.2.1 vnL_140.2.2 hK hP hD hS hA (ci := 8) rfl (fs := [.null, .int 0, .int 0, .int 0]) (by decide +kernel) (by omega) (by omega) d0 (fun q H hP hD hS => ?_)
  refine lv_dup S.1 S.2.1 d1 rfl ?_
  refine sN S (c_J4_init l g ad av q []) vi_L_142 hK (hI.2.1.at hS (pq_Afree (pq_D2 hD) hS hA) (fun q h => absurd h List.not_mem_nil)) (pq_P2 hP) (pq_D2 hD) hS hA (As := []) rfl rfl hls (by rw [List.map_cons, List.sum_cons]; exact Nat.le_trans (Nat.add_le_add_left hr 1) (by decide)) d2 ⟨by omega, by omega⟩ ⟨by omega, by omega⟩ (fun v H1 locs1 hv hz hk hS1 => ?_)
  obtain ⟨rfl, w, f, hP1, hw, hf1⟩ := hv
  rw [List.append_assoc] at hP hD
  have hDY : va_D A (sbW g q w 16 (nI 0) f) := pq_adr (pz_Dn (e := .inl (g.2 1, 16, .inl f)) (pq_P2 (pq_P2 hP)) (pq_D2 (pq_D2 hD)) hS hw hA) rfl
  obtain ⟨g1, g2⟩ := lw_on hP hD hDY (fun z hz9 => by
    rcases List.mem_append.mp hz9 with h | h
    · rw [List.mem_singleton] at h
      subst h
      exact Or.inl ⟨_, List.mem_cons_self, rfl⟩
    · rw [List.mem_singleton] at h
      subst h
      exact Or.inr hw) hk hP1
  exact kk q w f H1 locs1 ⟨g1, g2, hS1⟩ ⟨Nat.zero_le _, by decide, hf1, fun j hj => absurd hj (Nat.not_lt_zero j)⟩
theorem lw_sbN {g : pq_g} {b w w' m m' : Nat} {c c' : Int32} {f f' : Nat → Int32} {H : Heap} (hw : w' = w ∨ H.size ≤ w') : ∀ q ∈ sbW g b w' m' c' f', (∃ q0 ∈ sbW g b w m c f, q0.1 = q.1) ∨ H.size ≤ q.1 := fun z hz9 => by
  rcases List.mem_append.mp hz9 with h | h
  · rw [List.mem_singleton] at h
    subst h
    exact Or.inl ⟨_, List.mem_append_left _ List.mem_cons_self, rfl⟩
  · rw [List.mem_singleton] at h
    subst h
    rcases hw with rfl | hw
    · exact Or.inl ⟨_, List.mem_append_right _ List.mem_cons_self, rfl⟩
    · exact Or.inr hw
/-- append(String) -/
theorem mSBs (C0 : lwC p l s m args c cc nL A g ad av TX sb L xs) {w mm : Nat} {x t : List Nat} {f : Nat → Int32} {b2 v2 : Nat} (M0 : lwM g a T (F ++ sbW g b w mm (nI x.length) f) A s H locs) (hx : sbO x mm f) (hlen : (x ++ t).length ≤ 500) (ht : ∀ c ∈ t, c < 128) (hT : ∀ U : State, U.heap = H → s.WarmedH U.vm → tx_O t b2 v2 (va_A (sbW g b w mm (nI x.length) f) H.size) U U.heap) (hls : ls.size = nL) (hr : (rest.map fun v => v.category).sum ≤ 6) (hdg : decode cc pc = .ok (.invokevirtual 145, 3)) (hR : 8 ≤ R.frames ∧ 600 ≤ R.locals) (hf : cells + 1 ≤ R.cells ∧ slots + 2000 ≤ R.slots)
    (kk : ∀ (w' m' : Nat) (f' : Nat → Int32) (H1 : Heap) (locs1 : List Loc), lwM g a T (F ++ sbW g b w' m' (nI (x ++ t).length) f') A s H1 locs1 → sbO (x ++ t) m' f' → W p l e R s m args below meth c H1 locs1 (cells + 1) (slots + 2000) Q (F0 m (pc + 3) ls (.ref b :: rest))) : W p l e R s m args below meth c H locs cells slots Q (F0 m pc ls (.ref b2 :: .ref b :: rest)) := by
  obtain ⟨S, hK, hA, hI, -⟩ := id C0
  obtain ⟨hP, hD, hS⟩ := M0
  refine sV S (c_J4_appendS l g ad av b w mm f x t b2 v2 [] hx.1 hx.2.1 hlen hx.2.2.1 hx.2.2.2 ht) vv_L_145 hK (fun U hU hW => ⟨by rw [hU]; exact hI.2.1.1.go hS.2.1 hW (pq_Afree (pq_D2 (pq_D2 hD)) hS hA), fun q hq => by rw [List.mem_singleton.mp hq]; exact hT U hU hW, fun y hy => pz_warmP hW (hI.2.1.2.2 y hy)⟩) (pq_P2 (pq_P2 hP)) (pq_D2 (pq_D2 hD)) hS hA (va_recv hK.1 (pq_P2 (pq_P2 hP)) (ci := 8) rfl (q0 := 0) rfl) (As := [.ref b2]) rfl rfl hls (by omega) hdg ⟨by omega, by omega⟩ hf (fun v H1 locs1 hv hz hk hS1 => ?_)
  obtain ⟨w', m', f', rfl, hP1, hw, h1, h2, h3, h4⟩ := hv
  obtain ⟨g1, g2⟩ := lw_on hP hD (pz_Dsb (pq_P2 (pq_P2 hP)) (pq_D2 (pq_D2 hD)) hS hA hw) (lw_sbN hw) hk hP1
  exact kk w' m' f' H1 locs1 ⟨g1, g2, hS1⟩ ⟨h1, h2, h3, h4⟩
/-- append(int) -/
theorem mSBi (C0 : lwC p l s m args c cc nL A g ad av TX sb L xs) {w mm : Nat} {x : List Nat} {f : Nat → Int32} {q : Nat} (M0 : lwM g a T (F ++ sbW g b w mm (nI x.length) f) A s H locs) (hx : sbO x mm f) (hlen : (x ++ decL q).length ≤ 500) (hq : q < 100) (hls : ls.size = nL) (hr : (rest.map fun v => v.category).sum ≤ 6) (hdg : decode cc pc = .ok (.invokevirtual 155, 3)) (hR : 8 ≤ R.frames ∧ 600 ≤ R.locals) (hf : cells + 1 ≤ R.cells ∧ slots + 2000 ≤ R.slots)
    (kk : ∀ (w' m' : Nat) (f' : Nat → Int32) (H1 : Heap) (locs1 : List Loc), lwM g a T (F ++ sbW g b w' m' (nI (x ++ decL q).length) f') A s H1 locs1 → sbO (x ++ decL q) m' f' → W p l e R s m args below meth c H1 locs1 (cells + 1) (slots + 2000) Q (F0 m (pc + 3) ls (.ref b :: rest))) : W p l e R s m args below meth c H locs cells slots Q (F0 m pc ls (.int (nI q) :: .ref b :: rest)) := by
  obtain ⟨S, hK, hA, hI, -⟩ := id C0
  obtain ⟨hP, hD, hS⟩ := M0
  refine sV S (c_J4_appendI l g ad av b w mm f x [] q hx.1 hx.2.1 hlen hx.2.2.1 hx.2.2.2 hq) vv_L_155 hK (hI.2.1.at hS (pq_Afree (pq_D2 (pq_D2 hD)) hS hA) (fun q h => absurd h List.not_mem_nil)) (pq_P2 (pq_P2 hP)) (pq_D2 (pq_D2 hD)) hS hA (va_recv hK.1 (pq_P2 (pq_P2 hP)) (ci := 8) rfl (q0 := 0) rfl) (As := [.int (nI q)]) rfl rfl hls (by omega) hdg ⟨by omega, by omega⟩ hf (fun v H1 locs1 hv hz hk hS1 => ?_)
  obtain ⟨w', m', f', rfl, hP1, hw, h1, h2, h3, h4⟩ := hv
  obtain ⟨g1, g2⟩ := lw_on hP hD (pz_Dsb (pq_P2 (pq_P2 hP)) (pq_D2 (pq_D2 hD)) hS hA hw) (lw_sbN hw) hk hP1
  exact kk w' m' f' H1 locs1 ⟨g1, g2, hS1⟩ ⟨h1, h2, h3, h4⟩
/-- toString() -/
theorem mSBt (C0 : lwC p l s m args c cc nL A g ad av TX sb L xs) {w mm : Nat} {x : List Nat} {f : Nat → Int32} (M0 : lwM g a T (F ++ sbW g b w mm (nI x.length) f) A s H locs) (hx : sbO x mm f) (hls : ls.size = nL) (hr : (rest.map fun v => v.category).sum ≤ 6) (hdg : decode cc pc = .ok (.invokevirtual 164, 3)) (hR : 8 ≤ R.frames ∧ 600 ≤ R.locals) (hf : cells + 2 ≤ R.cells ∧ slots + 2004 ≤ R.slots)
    (kk : ∀ (b2 v2 : Nat) (f' : Nat → Int32) (H1 : Heap) (locs1 : List Loc), lwM g a T (F ++ stW g b2 v2 x.length f') A s H1 locs1 → (∀ j, j < x.length → f' j = nI (x.getD j 0)) → H.size ≤ b2 ∧ H.size ≤ v2 ∧ b2 ≠ v2 → W p l e R s m args below meth c H1 locs1 (cells + 2) (slots + 2004) Q (F0 m (pc + 3) ls (.ref b2 :: rest))) : W p l e R s m args below meth c H locs cells slots Q (F0 m pc ls (.ref b :: rest)) := by
  obtain ⟨S, hK, hA, hI, -⟩ := id C0
  obtain ⟨hP, hD, hS⟩ := M0
  refine sV S (c_J4_toString l g ad av b w mm x.length f [] hx.1 hx.2.1 hx.2.2.1) vv_L_164 hK (hI.2.1.at hS (pq_Afree (pq_D2 (pq_D2 hD)) hS hA) (fun q h => absurd h List.not_mem_nil)) (pq_P2 (pq_P2 hP)) (pq_D2 (pq_D2 hD)) hS hA (va_recv hK.1 (pq_P2 (pq_P2 hP)) (ci := 8) rfl (q0 := 0) rfl) (As := []) rfl rfl hls (by omega) hdg ⟨by omega, by omega⟩ hf (fun v H1 locs1 hv hz hk hS1 => ?_)
  obtain ⟨b2, z, f', rfl, h1, h2, h3, hP0, hP1, h4⟩ := hv
  obtain ⟨g1, g2⟩ := lw_on hP hD (lw_D2 (e1 := .inr (7, [.ref z, .int 0, .int 0, .int 0])) (e2 := .inl (g.2 1, x.length, .inl f')) h3 (hA _ (Nat.le_trans hS.1 h1)) (hA _ (Nat.le_trans hS.1 h2))) (fun q hq => by
    rcases List.mem_append.mp hq with h | h
    · rw [List.mem_singleton] at h; subst h; exact Or.inr h1
    · rw [List.mem_singleton] at h; subst h; exact Or.inr h2) hk hP1
  exact kk b2 z f' H1 locs1 ⟨g1, g2, hS1⟩ (fun j hj => (h4 j hj).trans (hx.2.2.2 j hj)) ⟨h1, h2, h3⟩
end LW
