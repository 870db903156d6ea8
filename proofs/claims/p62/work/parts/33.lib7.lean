/-! ===== my own layer, 10: the law's helpers, which catch ===== -/
/-- no exception class is one of those that the law catches, but itself -/
abbrev pq_CX : List String := ["java/lang/IllegalArgumentException", "java/lang/IndexOutOfBoundsException", "java/lang/UnsupportedOperationException", "java/util/NoSuchElementException"]
def pq_L (U : State) : Prop := ∀ E ∈ pq_EX, ∀ X ∈ pq_CX, E ≠ X → va_Nc E X U
theorem pq_L.go {s U : State} (h : pq_L s) (hW : s.WarmedH U.vm) : pq_L U := fun E hE X hX hne => (h E hE X hX hne).moved hW.alike
theorem pq_L.call {U : State} {f : JFrame} {mk : MethodId} {a : Array Value} (h : pq_L U) : pq_L (U.calling f mk a) := fun E hE X hX hne => va_Nc.moved (u := U) (U := U.calling f mk a) (Vm.Alike.refl U.vm) (h E hE X hX hne)
/-- the number of what was thrown, by its place in the clause -/
def pq_cdF : List String → Int32 → String → Option Int32
  | [], _, _ => none
  | c :: cs, k, E => if E = c then some k else pq_cdF cs (k + 1) E
def pq_cd {α : Type} (cs : List String) : String ⊕ α → Option Int32
  | .inl E => pq_cdF cs 1 E
  | .inr _ => some 0
def pq_nf {α β : Type} (f : Nat → β) (k : α → β) : String ⊕ α → (Nat → β)
  | .inl _ => f
  | .inr v => fun j => if j = 0 then k v else f j
/-- a helper that returns, and may write its world; what it calls makes at most n cells -/
def pq_H (l : Launch) (y : MethodName) (cc : ByteArray) (nL : Nat) (hh : List (Nat × Nat × Nat × Nat)) (k n : Nat) (g : pq_g) (ws : va_W) (vs : List Value) (r : Int32) (ws' : va_W) : Prop :=
  ∀ sz : Nat, vx_Met l y (Cond.codeWith y cc nL (some .int) hh :: pq_G) (pq_rm k n (6 * n)) (va_Pc vs (fun U => U.heap.size = sz ∧ va_P g.1 pq_cl ws U.heap ∧ pq_K g U ∧ va_D (fun _ => True) ws ∧ pq_T (va_A ws sz) U U.heap ∧ pq_L U)) (pq_QC g (.inr (some (.int r))) ws' (va_A ws sz)) (fun _ _ _ => False) n (6 * n) (va_A ws sz)
theorem pq_H.of {l : Launch} {y : MethodName} {cc : ByteArray} {nL : Nat} {hh : List (Nat × Nat × Nat × Nat)} {k n : Nat} {g : pq_g} {ws ws' : va_W} {vs : List Value} {r : Int32} {lv : List (Nat × Value)} (hy : plainName y.cls = true) (ho : y.cls = RL) (hn : (lg_sl vs).length ≤ nL) (hlv : lv_args 0 vs = lv)
    (body : ∀ (p : Program) (e : Env) (s : State) (m : MethodId) (below : List Frame) (meth : Method) (c : Code) (ls : Array Slot) (Q : State → Prop) (A : Nat → Prop), CallFix p m c cc nL s vs.toArray pq_G RL → c.exceptionTable.toList = tableOf hh → va_P g.1 pq_cl ws s.heap → pq_K g s → va_D A ws → va_S A s.heap s.heap [] → (∀ q : Nat, s.heap.size ≤ q → A q) → pq_T A s s.heap → pq_L s → lv_has ls nL lv →
      (∀ (pc : Nat) (ls : Array Slot) (v : Int32) (H : Heap) (locs : List Loc) (cells slots : Nat), decode cc pc = .ok (.ireturn, 1) → v = r → va_P g.1 pq_cl ws' H → va_S A s.heap H locs → cells ≤ n → slots ≤ 6 * n → W p l e (pq_rm k n (6 * n)) s m vs.toArray below meth c H locs cells slots Q (F0 m pc ls [.int v])) →
      W p l e (pq_rm k n (6 * n)) s m vs.toArray below meth c s.heap [] 0 0 Q (F0 m 0 ls [])) : pq_H l y cc nL hh k n g ws vs r ws' := by
  intro sz
  refine vx_ofWH (cc := cc) (maxL := nL) (ret := some .int) (hh := hh) hy rfl ?_
  intro p e s m args below meth c s₁ B hml hv
  obtain ⟨rfl, hsz, hP, hK, hD0, hT, hL⟩ := hv
  subst hsz
  have hts := atoms_spec (ws := Cond.codeWith y cc nL (some .int) hh :: pq_G) B.pre
  have hown : s.vm.findClass RL = some m.cls := by rw [← ho]; exact findClass_of_methodNamed B.named
  have htab := vx_table (x := y) B (hts _ List.mem_cons_self)
  have hl := lv_entry vs hn
  rw [lg_entry_eq]
  generalize (lg_sl vs ++ List.replicate (nL - (lg_sl vs).length) Slot.unset).toArray = ls at hl ⊢
  rw [hlv] at hl
  refine body p e s m below meth c ls _ (va_A ws s.heap.size) ⟨B.exec, B.bytes, hml, hown, fun w h => hts w (List.mem_cons_of_mem _ h)⟩ htab hP hK hD0.self va_S.rf (fun q h => Or.inr h) hT hL hl ?_
  intro pc ls v H locs cells slots hdg hvr hP1 hS hc hs
  refine W.widen hc hs (vx_ret ?_)
  subst hvr
  exact W.zret B.exec B.bytes B.returns rfl (fun t ht hW => ⟨⟨_, rfl, rfl, by rw [ht]; exact hP1⟩, hS.F ht⟩) hS.2.2 hdg B.notSynchronized
theorem pq_blindH {g : pq_g} {ws : va_W} {vs : List Value} {sz : Nat} : FrameBlind (va_Pc vs (fun U => U.heap.size = sz ∧ va_P g.1 pq_cl ws U.heap ∧ pq_K g U ∧ va_D (fun _ => True) ws ∧ pq_T (va_A ws sz) U U.heap ∧ pq_L U)) := fun _ _ _ _ q => ⟨q.1, q.2.1, q.2.2.1, q.2.2.2.1.call, q.2.2.2.2.1, q.2.2.2.2.2.1.call, q.2.2.2.2.2.2.call⟩
/-- what the tables say of a helper's call -/
def pq_Hw (own : String) (idx : Nat) (y : MethodName) (cc : ByteArray) (nL : Nat) (hh : List (Nat × Nat × Nat × Nat)) (n : Nat) : Prop :=
  (Cond.methodLink own idx y ∈ pq_G ∧ Cond.static y ∈ pq_G ∧ Cond.initialized y.cls ∈ pq_G ∧ Cond.codeWith y cc nL (some .int) hh ∈ pq_G) ∧ y.cls ≠ "java/lang/invoke/MethodHandle" ∧ y.cls ≠ "java/lang/invoke/VarHandle" ∧ (parseMethodDescriptor y.desc).map (fun d => d.parameters.length) = some n
section PQH7
variable {p : Program} {l : Launch} {e : Env} {s : State} {m : MethodId} {args : Array Value} {below : List Frame} {meth : Method} {c : Code} {H H0 : Heap} {locs : List Loc} {cells slots : Nat} {Q : State → Prop} {A : Nat → Prop}
variable {cc bytes : ByteArray} {own : String} {idx nL maxL n k K mc ms n9 : Nat} {hh : List (Nat × Nat × Nat × Nat)} {y : MethodName} {g : pq_g} {ws ws' : va_W} {As rest : List Value} {r : Int32} {pc : Nat} {ls : Array Slot} {st : List Value} {R : Room}
theorem pq_cH (S : CallFix p m c cc nL s args pq_G own) (hM : pq_H l y bytes maxL hh k n9 g ws As r ws') (w : pq_Hw own idx y bytes maxL hh n) (hK : pq_K g s) (hT : pq_T A s s.heap) (hL9 : pq_L s) (hP : va_P g.1 pq_cl ws H) (hD : va_D A ws) (hS : va_S A s.heap H locs) (hA : ∀ q : Nat, s.heap.size ≤ q → A q) (hst : st = As.reverse ++ rest) (hn : As.length = n) (hls : ls.size = nL) (hr : (rest.map fun v => v.category).sum ≤ 8) (hdg : decode cc pc = .ok (.invokestatic idx, 3)) (hR : k + 1 ≤ R.frames ∧ 8 + (maxL + 11) + 64 * k ≤ R.locals) (hf : cells + n9 ≤ R.cells ∧ slots + 6 * n9 ≤ R.slots)
    (kk : ∀ (H1 : Heap) (locs1 : List Loc), (∀ q : Nat, q < H.size → ¬ va_A ws H.size q → H1[q]? = H[q]?) → va_P g.1 pq_cl ws' H1 → va_S A s.heap H1 locs1 → W p l e R s m args below meth c H1 locs1 (cells + n9) (slots + 6 * n9) Q (F0 m (pc + 3) ls (.int r :: rest))) : W p l e R s m args below meth c H locs cells slots Q (F0 m pc ls st) := by
  obtain ⟨⟨h1, h2, h4, h5⟩, hd⟩ := w
  have ht := S.2.2.2.2
  have hG : GoodIn pq_G (Cond.codeWith y bytes maxL (some .int) hh :: pq_G) := pq_goodIn h5
  have cw : vx_CSW R s args own idx y bytes maxL (some .int) hh (Cond.codeWith y bytes maxL (some .int) hh :: pq_G) (pq_rm k n9 (6 * n9)) n9 (6 * n9) n := by
    refine ⟨⟨rfl, rfl, hR.1, hR.2, pay_in ht hG, List.mem_cons_self⟩, ht _ h5, ht _ h4, ⟨hd.1, hd.2.1⟩, fun sig h => ?_, ht _ h1, ht _ h2⟩
    have h3 := hd.2.2
    rw [h] at h3
    exact (Option.some.inj h3).symm
  have hr9 := vx_runSX (l := l) (e := e) (below := below) (meth := meth) (locs := locs) (cells := cells) (slots := slots) (g := F0 m pc ls st) (rest := rest) S (hM H.size) cw ⟨pq_blindH, fun U hU hW => ⟨rfl, by rw [hU], by rw [hU]; exact hP, hK.warm hW, hD.weaken (fun _ _ _ _ => trivial), by rw [hU]; exact hT.go hS.2.1 hW (pq_Afree hD hS hA), hL9.go hW⟩⟩ rfl hn hls hst (lv_room hr) hdg hf
  intro T hT9 X
  rcases hr9 T hT9 X with ⟨v, st₀, t, T', L, h0, X', hL, e1, e2, ⟨⟨v2, h1, h2, h3⟩, hF⟩, st9⟩ | ⟨q, st₀, t, T', L, E, ce, h0, X', hL, e1, e2, hF, _⟩
  · cases h2
    cases h1
    obtain ⟨k1, k2, k3⟩ := vx_keep h0 e1 hS (fun q _ h => pq_Afree hD hS hA q h) (pq_Afree hD hS hA) hL hF
    obtain ⟨t2, a1, b1⟩ := kk T'.heap (locs ++ L) k2 (by rw [e1]; exact h3) k3 T' rfl X'
    exact ⟨t2, st9 t2 a1, b1⟩
  · exact hF.elim
/-- thrown: caught by the row that names the class, the rows ahead name others -/
theorem pq_catch (S : CallFix p m c cc nL s args pq_G RL) (hT : pq_T A s s.heap) (hL : pq_L s) {E : String} {ce : Cell} {q9 : Addr} (pre : List ((Nat × Nat × Nat × Nat) × String)) (x : Nat × Nat × Nat × Nat) (suf : List (Nat × Nat × Nat × Nat)) (htab : c.exceptionTable.toList = tableOf (pre.map (fun z => z.1) ++ x :: suf)) (hE : E ∈ pq_EX)
    (hpre : ∀ z ∈ pre, z.1.2.2.2 ≠ 0 ∧ Cond.classLink RL z.1.2.2.2 z.2 ∈ pq_G ∧ z.2 ∈ pq_CX ∧ E ≠ z.2) (hx : covers { startPc := x.1, endPc := x.2.1, handlerPc := x.2.2.1, catchType := x.2.2.2 } pc = true) (h0 : x.2.2.2 ≠ 0) (hl : Cond.classLink RL x.2.2.2 E ∈ pq_G) (hce : H[q9]? = some ce) (hcv : ce.vm = .none) (hcl : s.vm.findClass E = some ce.cls)
    (kk : W p l e R s m args below meth c H locs cells slots Q (F0 m x.2.2.1 ls [.ref q9])) : vx_W p l e R s m args below meth c H locs cells slots Q (F0 m pc ls rest) q9 := by
  refine vx_catch S.2.2.2.1 (tableOf (pre.map (fun z => z.1))) { startPc := x.1, endPc := x.2.1, handlerPc := x.2.2.1, catchType := x.2.2.2 } (tableOf suf) (htab.trans (by simp [tableOf])) (fun z hz => ?_) hx h0 (S.2.2.2.2 _ hl) ((hT.1.1 _ hE).use rfl) hce hcv hcl kk
  simp only [tableOf, List.map_map, List.mem_map] at hz
  obtain ⟨y9, hy9, rfl⟩ := hz
  obtain ⟨g1, g2, g3, g4⟩ := hpre y9 hy9
  exact Or.inr ⟨g1, y9.2, S.2.2.2.2 _ g2, hL _ hE _ g3 g4⟩
end PQH7
