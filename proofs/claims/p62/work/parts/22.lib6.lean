/-! ===== my own layer, 6: methods that may throw ===== -/
abbrev pq_EX : List String := ["java/lang/IllegalArgumentException", "java/lang/IndexOutOfBoundsException", "java/lang/UnsupportedOperationException", "java/util/NoSuchElementException", "java/lang/ArithmeticException"]
abbrev pq_up2 : List String := ["java/lang/RuntimeException", "java/lang/Exception"]
abbrev pq_SR : List (Nat × String) := [(375, "there is no point with this key"), (377, "there is no such point"), (366, "this is no range of keys"), (364, "a number is out of range"), (371, "there is no such window"), (373, "this window is not set"), (251, "there are no points"), (71, "the point is rejected"), (379, "no call was rejected"), (93, "the priority is rejected"), (110, "the key is rejected"), (210, "the limit is out of range"), (216, "the window is rejected"), (285, "there is no character at this index")]
/-- the five texts of the law, and the two rows of digits, as the start holds them -/
abbrev pz_tx : List (Nat × String) := [(138, ""), (143, "("), (158, ":"), (162, ")"), (274, ",")]
abbrev pz_le : List Nat := [0, 1, 1, 1, 1]
abbrev pz_by : List (List Int32) := [[], [40], [58], [41], [44]]
def pq_dT (j : Nat) : Int32 := nI (48 + j / 10)
def pq_dO (j : Nat) : Int32 := nI (48 + j % 10)
def pq_SX (ad av : Nat → Nat) (A : Nat → Prop) (U : State) (H : Heap) : Prop := (∀ i : Nat, i < 5 → vk_S 1 [pz_le.getD i 0] [pz_by.getD i []] (fun _ => ad i) (fun _ => av i) A U H) ∧ (∀ i : Nat, i < 5 → vk_R RL (pz_tx.getD i (0, "")).1 (pz_tx.getD i (0, "")).2 (ad i) U) ∧ va_Z "java/lang/String" "COMPACT_STRINGS" "Z" (.int 1) A U H ∧ va_Zq "jdk/internal/util/Preconditions" "SIOOBE_FORMATTER" "Ljava/util/function/BiFunction;" A U H ∧ (va_Z "java/lang/Integer" "DigitTens" "[B" (.ref (av 5)) A U H ∧ va_T .byte (av 5) 100 (fun j => .int (pq_dT j)) A U H) ∧ va_Z "java/lang/Integer" "DigitOnes" "[B" (.ref (av 6)) A U H ∧ va_T .byte (av 6) 100 (fun j => .int (pq_dO j)) A U H ∧ va_Nw (.castable "[B" "java/lang/Cloneable") U
theorem pq_SX.go {ad av : Nat → Nat} {A B : Nat → Prop} {s U : State} {H : Heap} (h : pq_SX ad av A s s.heap) (hk : ∀ q : Nat, q < s.heap.size → ¬ A q → H[q]? = s.heap[q]?) (hW : s.WarmedH U.vm) (hB : ∀ q, B q → A q) : pq_SX ad av B U H :=
  ⟨fun i hi => vk_S.moved hW.alike (((h.1 i hi).kept hk).narrow hB), fun i hi => (h.2.1 i hi).warm hW, va_Z.moved hW.alike ((h.2.2.1.kept hk).narrow hB), va_Zq.moved hW.alike ((h.2.2.2.1.kept hk).narrow hB), ⟨va_Z.moved hW.alike ((h.2.2.2.2.1.1.kept hk).narrow hB), va_T.moved hW.alike ((h.2.2.2.2.1.2.kept hk).narrow hB)⟩, va_Z.moved hW.alike ((h.2.2.2.2.2.1.kept hk).narrow hB), va_T.moved hW.alike ((h.2.2.2.2.2.2.1.kept hk).narrow hB), h.2.2.2.2.2.2.2.warmC hW⟩
theorem pq_SX.call {ad av : Nat → Nat} {A : Nat → Prop} {U : State} {f : JFrame} {mk : MethodId} {a : Array Value} (h : pq_SX ad av A U U.heap) : pq_SX ad av A (U.calling f mk a) (U.calling f mk a).heap :=
  ⟨fun i hi => vk_S.moved (u := U) (U := U.calling f mk a) (Vm.Alike.refl U.vm) (h.1 i hi), fun i hi => vk_R.same (u := U) rfl (h.2.1 i hi), va_Z.moved (u := U) (U := U.calling f mk a) (Vm.Alike.refl U.vm) h.2.2.1, va_Zq.moved (u := U) (U := U.calling f mk a) (Vm.Alike.refl U.vm) h.2.2.2.1, ⟨va_Z.moved (u := U) (U := U.calling f mk a) (Vm.Alike.refl U.vm) h.2.2.2.2.1.1, va_T.moved (u := U) (U := U.calling f mk a) (Vm.Alike.refl U.vm) h.2.2.2.2.1.2⟩, va_Z.moved (u := U) (U := U.calling f mk a) (Vm.Alike.refl U.vm) h.2.2.2.2.2.1, va_T.moved (u := U) (U := U.calling f mk a) (Vm.Alike.refl U.vm) h.2.2.2.2.2.2.1, h.2.2.2.2.2.2.2.same rfl rfl⟩
/-- what a throw needs of the start, beside the words -/
abbrev pq_DY : List String := ["java/lang/RuntimeException", "java/lang/Exception", Bundle.tN]
def pq_T (A : Nat → Prop) (U : State) (H : Heap) : Prop := ((∀ E ∈ pq_EX, va_Nw (.castable E E) U) ∧ ∀ Y ∈ pq_DY, va_Nw (.declares (Bundle.initS Y)) U) ∧ (∀ q ∈ pq_SR, ∃ sa, vk_R RX6 q.1 q.2 sa U) ∧ vx_Zq Bundle.tN "UNASSIGNED_STACK" Bundle.steD A U H ∧ vx_Zq Bundle.tN "SUPPRESSED_SENTINEL" Bundle.listD A U H ∧ ∃ ad av, pq_SX ad av A U H
theorem pq_T.go {A B : Nat → Prop} {s U : State} {H : Heap} (h : pq_T A s s.heap) (hk : ∀ q : Nat, q < s.heap.size → ¬ A q → H[q]? = s.heap[q]?) (hW : s.WarmedH U.vm) (hB : ∀ q, B q → A q) : pq_T B U H :=
  ⟨⟨fun E hE => (h.1.1 E hE).warmC hW, fun Y hY => (h.1.2 Y hY).warmD hW⟩, fun q hq => by obtain ⟨sa, h9⟩ := h.2.1 q hq; exact ⟨sa, h9.warm hW⟩, vx_Zq.moved hW.alike ((h.2.2.1.kept hk).narrow hB), vx_Zq.moved hW.alike ((h.2.2.2.1.kept hk).narrow hB), by obtain ⟨ad, av, h9⟩ := h.2.2.2.2; exact ⟨ad, av, h9.go hk hW hB⟩⟩
theorem pq_T.call {A : Nat → Prop} {U : State} {f : JFrame} {mk : MethodId} {a : Array Value} (h : pq_T A U U.heap) : pq_T A (U.calling f mk a) (U.calling f mk a).heap :=
  ⟨⟨fun E hE => (h.1.1 E hE).same rfl rfl, fun Y hY => (h.1.2 Y hY).same rfl rfl⟩, fun q hq => by obtain ⟨sa, h9⟩ := h.2.1 q hq; exact ⟨sa, vk_R.same (u := U) rfl h9⟩, vx_Zq.moved (u := U) (U := U.calling f mk a) (Vm.Alike.refl U.vm) h.2.2.1, vx_Zq.moved (u := U) (U := U.calling f mk a) (Vm.Alike.refl U.vm) h.2.2.2.1, by obtain ⟨ad, av, h9⟩ := h.2.2.2.2; exact ⟨ad, av, h9.call⟩⟩
def pq_XC (g : pq_g) (o : String ⊕ Option Value) (ws' : va_W) (A : Nat → Prop) : String → State → State → Prop := fun E st t => o = .inl E ∧ va_P g.1 pq_cl ws' t.heap ∧ va_F A st t
def pq_QC (g : pq_g) (o : String ⊕ Option Value) (ws' : va_W) (A : Nat → Prop) : Array Value → State → Outcome → State → Prop := fun _ st oc t => (∃ v, o = .inr v ∧ oc = .returned v ∧ va_P g.1 pq_cl ws' t.heap) ∧ va_F A st t
/-- a method that returns or throws, and may write its world; it makes at most n cells -/
def pq_X (l : Launch) (y : MethodName) (cc : ByteArray) (nL : Nat) (ret : Option FieldType) (k n : Nat) (g : pq_g) (ws : va_W) (vs : List Value) (o : String ⊕ Option Value) (ws' : va_W) : Prop :=
  ∀ sz : Nat, vx_Met l y (Cond.code y cc nL ret :: pq_G) (pq_rm k n (6 * n)) (va_Pc vs (fun U => U.heap.size = sz ∧ va_P g.1 pq_cl ws U.heap ∧ pq_K g U ∧ va_D (fun _ => True) ws ∧ pq_T (va_A ws sz) U U.heap)) (pq_QC g o ws' (va_A ws sz)) (pq_XC g o ws' (va_A ws sz)) n (6 * n) (va_A ws sz)
def pq_Ret (cc : ByteArray) (pc : Nat) (ret : Option FieldType) (st : List Value) (v : Option Value) : Prop :=
  (∃ x ty, ret = some ty ∧ narrow ty (.int x) = .int x ∧ decode cc pc = .ok (.ireturn, 1) ∧ st = [.int x] ∧ v = some (.int x)) ∨ (ret = none ∧ decode cc pc = .ok (.return_, 1) ∧ st = [] ∧ v = none) ∨ (∃ x, ret = some .long ∧ decode cc pc = .ok (.lreturn, 1) ∧ st = [.long x] ∧ v = some (.long x)) ∨ (∃ x, ret = some .double ∧ decode cc pc = .ok (.dreturn, 1) ∧ st = [.double x] ∧ v = some (.double x)) ∨ (∃ x, ret = some .float ∧ decode cc pc = .ok (.freturn, 1) ∧ st = [.float x] ∧ v = some (.float x))
def pq_twS (ic : Nat) (cls : String) : List Cond := if cls = ns_N then (ns_all RX6 ic).filter vx_no else vx_atS RX6 ic cls pq_up2
def pq_Tw (ik ic : Nat) (cls : String) : Prop := cls ∈ pq_EX ∧ Bundle.fit cls = true ∧ Cond.classLink RX6 ik cls ∈ pq_G ∧ Cond.initialized cls ∈ pq_G ∧ (∀ w ∈ pq_twS ic cls, w ∈ pq_G ∨ w = .castable cls cls ∨ w ∈ pq_DY.map (fun Y => Cond.declares (Bundle.initS Y))) ∧ ∀ w ∈ Cond.classLink RX6 ik cls :: Cond.initialized cls :: pq_twS ic cls, vx_ot w = true
theorem pq_X.of {l : Launch} {y : MethodName} {cc : ByteArray} {nL : Nat} {ret : Option FieldType} {k n : Nat} {g : pq_g} {ws ws' : va_W} {vs : List Value} {o : String ⊕ Option Value} {lv : List (Nat × Value)} (hst : l.stackTraces = false) (hy : plainName y.cls = true) (ho : y.cls = RX6) (hn : (lg_sl vs).length ≤ nL) (hlv : lv_args 0 vs = lv)
    (body : ∀ (p : Program) (e : Env) (s : State) (m : MethodId) (below : List Frame) (meth : Method) (c : Code) (ls : Array Slot) (Q : State → Prop) (A : Nat → Prop), CallFix p m c cc nL s vs.toArray pq_G RX6 → va_P g.1 pq_cl ws s.heap → pq_K g s → va_D A ws → va_S A s.heap s.heap [] → (∀ q : Nat, s.heap.size ≤ q → A q) → pq_T A s s.heap → lv_has ls nL lv →
      (∀ (pc : Nat) (ls : Array Slot) (st : List Value) (v : Option Value) (H : Heap) (locs : List Loc) (cells slots : Nat), pq_Ret cc pc ret st v → o = .inr v → va_P g.1 pq_cl ws' H → va_S A s.heap H locs → cells ≤ n → slots ≤ 6 * n → W p l e (pq_rm k n (6 * n)) s m vs.toArray below meth c H locs cells slots Q (F0 m pc ls st)) →
      (∀ (pc : Nat) (ls : Array Slot) (rest : List Value) (H : Heap) (locs : List Loc) (cells slots : Nat) (E : String) (ce : Cell) (q9 : Addr), o = .inl E → va_P g.1 pq_cl ws' H → va_S A s.heap H locs → H[q9]? = some ce → ce.vm = .none → s.vm.findClass E = some ce.cls → cells ≤ n → slots ≤ 6 * n → vx_W p l e (pq_rm k n (6 * n)) s m vs.toArray below meth c H locs cells slots Q (F0 m pc ls rest) q9) →
      (∀ (pc : Nat) (ls : Array Slot) (H : Heap) (locs : List Loc) (cells slots : Nat) (cls text : String) (ik is ic : Nat), pq_Tw ik ic cls → (is, text) ∈ pq_SR → decode cc pc = .ok (.new ik, 3) → decode cc (pc + 3) = .ok (.dup, 1) → (decode cc (pc + 4) = .ok (.ldc is, 2) ∧ decode cc (pc + 6) = .ok (.invokespecial ic, 3) ∧ decode cc (pc + 9) = .ok (.athrow, 1)) ∨ (decode cc (pc + 4) = .ok (.ldc_w is, 3) ∧ decode cc (pc + 7) = .ok (.invokespecial ic, 3) ∧ decode cc (pc + 10) = .ok (.athrow, 1)) → o = .inl cls → va_P g.1 pq_cl ws' H → va_S A s.heap H locs → ls.size = nL → 5 < k → cells + 1 ≤ n → slots + 6 ≤ 6 * n → W p l e (pq_rm k n (6 * n)) s m vs.toArray below meth c H locs cells slots Q (F0 m pc ls [])) →
      W p l e (pq_rm k n (6 * n)) s m vs.toArray below meth c s.heap [] 0 0 Q (F0 m 0 ls [])) : pq_X l y cc nL ret k n g ws vs o ws' := by
  intro sz
  refine vx_ofW (cc := cc) (maxL := nL) (ret := ret) hy rfl ?_
  intro p e s m args below meth c s₁ B hml htab hv
  obtain ⟨rfl, hsz, hP, hK, hD0, hT⟩ := hv
  subst hsz
  have hts := atoms_spec (ws := Cond.code y cc nL ret :: pq_G) B.pre
  have hown : s.vm.findClass RX6 = some m.cls := by rw [← ho]; exact findClass_of_methodNamed B.named
  have hlocks := B.notSynchronized
  have hl := lv_entry vs hn
  rw [lg_entry_eq]
  generalize (lg_sl vs ++ List.replicate (nL - (lg_sl vs).length) Slot.unset).toArray = ls at hl ⊢
  rw [hlv] at hl
  refine body p e s m below meth c ls _ (va_A ws s.heap.size) ⟨B.exec, B.bytes, hml, hown, fun w h => hts w (List.mem_cons_of_mem _ h)⟩ hP hK hD0.self va_S.rf (fun q h => Or.inr h) hT hl ?_ ?_ ?_
  · intro pc ls st v H locs cells slots hret hov hP1 hS hc hs
    refine W.widen hc hs (vx_ret ?_)
    have hq : ∀ t : State, t.heap = H → s.WarmedH t.vm → pq_QC g o ws' (va_A ws s.heap.size) vs.toArray s (.returned v) t := fun t ht hW => ⟨⟨v, hov, rfl, by rw [ht]; exact hP1⟩, hS.F ht⟩
    rcases hret with ⟨x, ty, h1, h2, h3, rfl, rfl⟩ | ⟨h1, h3, rfl, rfl⟩ | ⟨x, h1, h3, rfl, rfl⟩ | ⟨x, h1, h3, rfl, rfl⟩ | ⟨x, h1, h3, rfl, rfl⟩
    · exact W.zret B.exec B.bytes (B.returns.trans h1) h2 hq hS.2.2 h3 hlocks
    · exact W.vret B.exec B.bytes (B.returns.trans h1) hq hS.2.2 h3 hlocks
    · exact W.lret B.exec B.bytes (B.returns.trans h1) hq hS.2.2 h3 hlocks
    · exact W.dret B.exec B.bytes (B.returns.trans h1) hq hS.2.2 h3 hlocks
    · exact W.fret B.exec B.bytes (B.returns.trans h1) hq hS.2.2 h3 hlocks
  · intro pc ls rest H locs cells slots E ce q9 hoE hP1 hS hce hcv hcl hc hs
    exact vx_out (fun x hx => (htab x hx).elim) hlocks hce hcv hcl (fun t ht hA => ⟨hoE, by rw [ht]; exact hP1, hS.F ht⟩) hS.2.2 hc hs
  · intro pc ls H locs cells slots cls text ik is ic w hsr d0 d3 d4 hoE hP1 hS hls hk hc hs
    obtain ⟨hE, hfit, w1, w2, w3, w4⟩ := w
    obtain ⟨sa, hstr⟩ := hT.2.1 _ hsr
    have ht := fun w h => hts w (List.mem_cons_of_mem _ h)
    have hat : ∀ w ∈ pq_twS ic cls, w.before vs.toArray s = true := fun w h => by
      rcases w3 w h with h | rfl | h
      · exact ht w h
      · exact (hT.1.1 _ hE).use rfl
      · obtain ⟨Y, hY, rfl⟩ := List.mem_map.mp h
        exact (hT.1.2 Y hY).use rfl
    have hx : ∀ t : State, s.vm.Alike t.vm → H.size ≤ t.heap.size → (∀ q : Nat, q < H.size → t.heap[q]? = H[q]?) → pq_XC g o ws' (va_A ws s.heap.size) cls s t := fun t _ hz hq =>
      ⟨hoE, hP1.kept (fun k q hk => hq q.1 (hP1 k q hk).lt), Nat.le_trans hS.1 hz, fun q h1 h2 => by rw [hq q (Nat.lt_of_lt_of_le h1 hS.1)]; exact hS.2.1 q h1 h2⟩
    by_cases hns : cls = ns_N
    · subst hns
      rw [show pq_twS ic ns_N = (ns_all RX6 ic).filter vx_no from if_pos rfl] at hat w4
      rcases d4 with ⟨d4, d6, d9⟩ | ⟨d4, d6, d9⟩
      · exact ns_throwS B.exec B.bytes hst hown (ht _ w1) (ht _ w2) hstr hat w4 hT.2.2.1 hT.2.2.2.1 hS (hls.trans hml.symm) d0 d3 d4 d6 d9 (fun x hx => (htab x hx).elim) (by show 5 < k; omega) (by show 0 + 82 ≤ 64 * k; omega) hc hs hlocks hx hS.2.2 hc hs
      · exact ns_throwSW B.exec B.bytes hst hown (ht _ w1) (ht _ w2) hstr hat w4 hT.2.2.1 hT.2.2.2.1 hS (hls.trans hml.symm) d0 d3 d4 d6 d9 (fun x hx => (htab x hx).elim) (by show 5 < k; omega) (by show 0 + 82 ≤ 64 * k; omega) hc hs hlocks hx hS.2.2 hc hs
    · rw [show pq_twS ic cls = vx_atS RX6 ic cls pq_up2 from if_neg hns] at hat w4
      rcases d4 with ⟨d4, d6, d9⟩ | ⟨d4, d6, d9⟩
      · exact vx_throwS B.exec B.bytes hst hown hfit (by decide) (ht _ w1) (ht _ w2) hstr hat w4 hT.2.2.1 hT.2.2.2.1 hS (hls.trans hml.symm) d0 d3 d4 d6 d9 (fun x hx => (htab x hx).elim) (by show 2 + 3 < k; omega) (by show 0 + (13 * (2 + 1) + 43) ≤ 64 * k; omega) hc hs hlocks hx hS.2.2 hc hs
      · exact vx_throwSW B.exec B.bytes hst hown hfit (by decide) (ht _ w1) (ht _ w2) hstr hat w4 hT.2.2.1 hT.2.2.2.1 hS (hls.trans hml.symm) d0 d3 d4 d6 d9 (fun x hx => (htab x hx).elim) (by show 2 + 3 < k; omega) (by show 0 + (13 * (2 + 1) + 43) ≤ 64 * k; omega) hc hs hlocks hx hS.2.2 hc hs
theorem pq_blindX {g : pq_g} {ws : va_W} {vs : List Value} {sz : Nat} : FrameBlind (va_Pc vs (fun U => U.heap.size = sz ∧ va_P g.1 pq_cl ws U.heap ∧ pq_K g U ∧ va_D (fun _ => True) ws ∧ pq_T (va_A ws sz) U U.heap)) := fun _ _ _ _ q => ⟨q.1, q.2.1, q.2.2.1, q.2.2.2.1.call, q.2.2.2.2.1, q.2.2.2.2.2.call⟩
def pq_tr {α β σ : Type} (o : Option ((String ⊕ α) × σ)) (k : α → σ → Option ((String ⊕ β) × σ)) : Option ((String ⊕ β) × σ) := match o with
  | none => none
  | some (.inl E, s) => some (.inl E, s)
  | some (.inr a, s) => k a s
theorem pq_trE {α β σ : Type} {o : Option ((String ⊕ α) × σ)} {k : α → σ → Option ((String ⊕ β) × σ)} {z : (String ⊕ β) × σ} (h : pq_tr o k = some z) : (∃ E s, o = some (.inl E, s) ∧ z = (.inl E, s)) ∨ ∃ a s, o = some (.inr a, s) ∧ k a s = some z := by
  match o, h with
  | some (.inl E, s), h => exact Or.inl ⟨E, s, rfl, (Option.some.inj h).symm⟩
  | some (.inr a, s), h => exact Or.inr ⟨a, s, rfl, h⟩
def pq_tu {α β σ τ : Type} (s : σ) (o : Option ((String ⊕ α) × τ)) (k : α → Option ((String ⊕ β) × σ)) : Option ((String ⊕ β) × σ) := match o with
  | none => none
  | some (.inl E, _) => some (.inl E, s)
  | some (.inr a, _) => k a
theorem pq_tuE {α β σ τ : Type} {s : σ} {o : Option ((String ⊕ α) × τ)} {k : α → Option ((String ⊕ β) × σ)} {z : (String ⊕ β) × σ} (h : pq_tu s o k = some z) : (∃ E t, o = some (.inl E, t) ∧ z = (.inl E, s)) ∨ ∃ a t, o = some (.inr a, t) ∧ k a = some z := by
  match o, h with
  | some (.inl E, t), h => exact Or.inl ⟨E, t, rfl, (Option.some.inj h).symm⟩
  | some (.inr a, t), h => exact Or.inr ⟨a, t, rfl, h⟩
abbrev pq_oi (q : String ⊕ Int32) : String ⊕ Option Value := q.elim .inl (fun x => .inr (some (.int x)))
abbrev pq_ov (q : String ⊕ Unit) : String ⊕ Option Value := q.elim .inl (fun _ => .inr none)
abbrev pq_ol (q : String ⊕ Int64) : String ⊕ Option Value := q.elim .inl (fun x => .inr (some (.long x)))
abbrev pq_od (q : String ⊕ UInt64) : String ⊕ Option Value := q.elim .inl (fun x => .inr (some (.double x)))
abbrev pq_of (q : String ⊕ UInt32) : String ⊕ Option Value := q.elim .inl (fun x => .inr (some (.float x)))
section PQX
variable {p : Program} {l : Launch} {e : Env} {s : State} {m : MethodId} {args : Array Value} {below : List Frame} {meth : Method} {c : Code} {H H0 : Heap} {locs : List Loc} {cells slots : Nat} {Q : State → Prop} {A : Nat → Prop}
variable {cc bytes : ByteArray} {own host C : String} {idx nL maxL n k K mc ms n9 : Nat} {y : MethodName} {g : pq_g} {ws ws' WS : va_W} {a b : Nat} {As rest : List Value} {o : String ⊕ Option Value} {ret : Option FieldType} {pc : Nat} {ls : Array Slot} {st : List Value} {R : Room}
theorem pq_callX {R : Room} {a : Array Value} {free : Addr → Prop} {A1 : Nat → Prop} {st0 : List Value} (hr : vx_Run p l e R s m args below meth c H locs cells slots mc ms (F0 m pc ls st0) rest (pq_QC g o ws' A1 a) (pq_XC g o ws' A1) free) (hS : va_S A H0 H locs) (hA : ∀ q, q < H.size → A1 q → A q) (hf : ∀ q, free q → A q)
    (kx : ∀ (E : String) (ce : Cell) (q9 : Addr) (H1 : Heap) (locs1 : List Loc), o = .inl E → (∀ q : Nat, q < H.size → ¬ A1 q → H1[q]? = H[q]?) → va_P g.1 pq_cl ws' H1 → va_S A H0 H1 locs1 → H1[q9]? = some ce → ce.vm = .none → s.vm.findClass E = some ce.cls → vx_W p l e R s m args below meth c H1 locs1 (cells + mc) (slots + ms) Q (F0 m pc ls rest) q9)
    (kk : ∀ (v : Option Value) (H1 : Heap) (locs1 : List Loc), o = .inr v → (∀ q : Nat, q < H.size → ¬ A1 q → H1[q]? = H[q]?) → va_P g.1 pq_cl ws' H1 → va_S A H0 H1 locs1 → W p l e R s m args below meth c H1 locs1 (cells + mc) (slots + ms) Q (F0 m (pc + 3) ls (v.toList ++ rest))) : W p l e R s m args below meth c H locs cells slots Q (F0 m pc ls st0) := by
  intro T hT X
  rcases hr T hT X with ⟨v, st₀, t, T', L, h0, X', hL, e1, e2, ⟨⟨v2, h1, h2, h3⟩, hF⟩, st⟩ | ⟨q, st₀, t, T', L, E, ce, h0, X', hL, e1, e2, ⟨h1, h3, hF⟩, hce, hcv, hcl, st⟩
  · cases h2
    obtain ⟨k1, k2, k3⟩ := vx_keep h0 e1 hS hA hf hL hF
    obtain ⟨t2, a1, b1⟩ := kk v T'.heap (locs ++ L) h1 k2 (by rw [e1]; exact h3) k3 T' rfl X'
    exact ⟨t2, st t2 a1, b1⟩
  · obtain ⟨k1, k2, k3⟩ := vx_keep h0 e1 hS hA hf hL hF
    obtain ⟨t2, a1, b1⟩ := kx E ce q T'.heap (locs ++ L) h1 k2 (by rw [e1]; exact h3) k3 (by rw [e1]; exact hce) hcv hcl T' rfl X'
    exact ⟨t2, st.trans a1, b1⟩
theorem pq_cXV (S : CallFix p m c cc nL s args pq_G own) (hM : pq_X l y bytes maxL ret k n9 g ws (.ref b :: As) o ws') (w : pq_Vw own idx C y bytes maxL ret n) (hK : pq_K g s) (hT : pq_T A s s.heap) (hP : va_P g.1 pq_cl ws H) (hD : va_D A ws) (hS : va_S A s.heap H locs) (hA : ∀ q : Nat, s.heap.size ≤ q → A q) {ci : Nat} {fs : List Value} {q : vw_C} (hb : ws[0]? = some (b, .inr (ci, fs))) (hc : pq_cl[ci]? = some q) (hC : q.1 = C) (hst : st = As.reverse ++ .ref b :: rest) (hn : As.length = n) (hls : ls.size = nL) (hr : (rest.map fun v => v.category).sum ≤ 8) (hdg : decode cc pc = .ok (.invokevirtual idx, 3)) (hk : k < K) (hL : maxL ≤ 45) (hf : cells + n9 ≤ mc ∧ slots + 6 * n9 ≤ ms)
    (kx : ∀ (E : String) (ce : Cell) (q9 : Addr) (H1 : Heap) (locs1 : List Loc), o = .inl E → (∀ q : Nat, q < H.size → ¬ va_A ws H.size q → H1[q]? = H[q]?) → va_P g.1 pq_cl ws' H1 → va_S A s.heap H1 locs1 → H1[q9]? = some ce → ce.vm = .none → s.vm.findClass E = some ce.cls → vx_W p l e (pq_rm K mc ms) s m args below meth c H1 locs1 (cells + n9) (slots + 6 * n9) Q (F0 m pc ls rest) q9)
    (kk : ∀ (v : Option Value) (H1 : Heap) (locs1 : List Loc), o = .inr v → (∀ q : Nat, q < H.size → ¬ va_A ws H.size q → H1[q]? = H[q]?) → va_P g.1 pq_cl ws' H1 → va_S A s.heap H1 locs1 → W p l e (pq_rm K mc ms) s m args below meth c H1 locs1 (cells + n9) (slots + 6 * n9) Q (F0 m (pc + 3) ls (v.toList ++ rest))) : W p l e (pq_rm K mc ms) s m args below meth c H locs cells slots Q (F0 m pc ls st) := by
  subst hC
  exact pq_callX (vx_runV S (hM H.size) (pq_cwV S w hk hL) ⟨pq_blindX, va_recv hK.1 hP hc hb, fun U hU hW => ⟨rfl, by rw [hU], by rw [hU]; exact hP, hK.warm hW, hD.weaken (fun _ _ _ _ => trivial), by rw [hU]; exact hT.go hS.2.1 hW (pq_Afree hD hS hA)⟩⟩ rfl hn hls hst (lv_room hr) hdg hf) hS (fun q _ h => pq_Afree hD hS hA q h) (pq_Afree hD hS hA) kx kk
theorem pq_cXS (S : CallFix p m c cc nL s args pq_G own) (hM : pq_X l y bytes maxL ret k n9 g ws As o ws') (w : pq_Sw own idx y bytes maxL ret n) (hK : pq_K g s) (hT : pq_T A s s.heap) (hP : va_P g.1 pq_cl ws H) (hD : va_D A ws) (hS : va_S A s.heap H locs) (hA : ∀ q : Nat, s.heap.size ≤ q → A q) (hst : st = As.reverse ++ rest) (hn : As.length = n) (hls : ls.size = nL) (hr : (rest.map fun v => v.category).sum ≤ 8) (hdg : decode cc pc = .ok (.invokestatic idx, 3)) (hk : k < K) (hL : maxL ≤ 45) (hf : cells + n9 ≤ mc ∧ slots + 6 * n9 ≤ ms)
    (kx : ∀ (E : String) (ce : Cell) (q9 : Addr) (H1 : Heap) (locs1 : List Loc), o = .inl E → (∀ q : Nat, q < H.size → ¬ va_A ws H.size q → H1[q]? = H[q]?) → va_P g.1 pq_cl ws' H1 → va_S A s.heap H1 locs1 → H1[q9]? = some ce → ce.vm = .none → s.vm.findClass E = some ce.cls → vx_W p l e (pq_rm K mc ms) s m args below meth c H1 locs1 (cells + n9) (slots + 6 * n9) Q (F0 m pc ls rest) q9)
    (kk : ∀ (v : Option Value) (H1 : Heap) (locs1 : List Loc), o = .inr v → (∀ q : Nat, q < H.size → ¬ va_A ws H.size q → H1[q]? = H[q]?) → va_P g.1 pq_cl ws' H1 → va_S A s.heap H1 locs1 → W p l e (pq_rm K mc ms) s m args below meth c H1 locs1 (cells + n9) (slots + 6 * n9) Q (F0 m (pc + 3) ls (v.toList ++ rest))) : W p l e (pq_rm K mc ms) s m args below meth c H locs cells slots Q (F0 m pc ls st) :=
  pq_callX (vx_runS S (hM H.size) (pq_cwS S w hk hL) ⟨pq_blindX, fun U hU hW => ⟨rfl, by rw [hU], by rw [hU]; exact hP, hK.warm hW, hD.weaken (fun _ _ _ _ => trivial), by rw [hU]; exact hT.go hS.2.1 hW (pq_Afree hD hS hA)⟩⟩ rfl hn hls hst (lv_room hr) hdg hf) hS (fun q _ h => pq_Afree hD hS hA q h) (pq_Afree hD hS hA) kx kk
end PQX
theorem pq_D0 {A : Nat → Prop} : va_D A [] := ⟨fun i j p q h => by simp at h, fun k q h => by simp at h⟩
theorem pq_P0 {D : va_G} {cl : List vw_C} {H : Heap} : va_P D cl [] H := fun k q h => by simp at h
theorem pq_kp0 {D : va_G} {cl : List vw_C} {ws : va_W} {H H1 : Heap} (hP : va_P D cl ws H) (hk : ∀ q : Nat, q < H.size → ¬ va_A [] H.size q → H1[q]? = H[q]?) : va_P D cl ws H1 := pq_kp hP (fun p _ q hq => by cases hq) hk
