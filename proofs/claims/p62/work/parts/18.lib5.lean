/-! ===== my own layer, 5: writers that answer a long, a double, a float ===== -/
def pq_Ml (l : Launch) (y : MethodName) (cc : ByteArray) (nL : Nat) (k : Nat) (g : pq_g) (ws : va_W) (vs : List Value) (r : Int64) (ws' : va_W) : Prop :=
  ∀ sz : Nat, Met l y (Cond.code y cc nL (some .long) :: pq_G) (pq_rm k 0 0) (va_Pc vs (fun U => U.heap.size = sz ∧ va_P g.1 pq_cl ws U.heap ∧ pq_K g U ∧ va_D (fun _ => True) ws)) (va_Ql (fun x (_ : Unit) => x = r) (fun _ t => va_P g.1 pq_cl ws' t.heap) (va_A ws sz)) 0 0 (va_A ws sz)
theorem pq_Ml.of {l : Launch} {y : MethodName} {cc : ByteArray} {nL : Nat} {k : Nat} {g : pq_g} {ws ws' : va_W} {vs : List Value} {r : Int64} {own : String} {lv : List (Nat × Value)} (hy : plainName y.cls = true) (ho : y.cls = own) (hn : (lg_sl vs).length ≤ nL) (hlv : lv_args 0 vs = lv)
    (body : ∀ (p : Program) (e : Env) (s : State) (m : MethodId) (below : List Frame) (meth : Method) (c : Code) (ls : Array Slot) (Q : State → Prop) (A : Nat → Prop), CallFix p m c cc nL s vs.toArray pq_G own → va_P g.1 pq_cl ws s.heap → pq_K g s → va_D A ws → va_S A s.heap s.heap [] → (∀ q : Nat, s.heap.size ≤ q → A q) → lv_has ls nL lv →
      (∀ (pc : Nat) (ls : Array Slot) (v : Int64) (H : Heap) (locs : List Loc), decode cc pc = .ok (.lreturn, 1) → v = r → va_P g.1 pq_cl ws' H → va_S A s.heap H locs → W p l e (pq_rm k 0 0) s m vs.toArray below meth c H locs 0 0 Q (F0 m pc ls [.long v])) →
      W p l e (pq_rm k 0 0) s m vs.toArray below meth c s.heap [] 0 0 Q (F0 m 0 ls [])) : pq_Ml l y cc nL k g ws vs r ws' := by
  intro sz
  refine Met.ofW (cc := cc) (maxL := nL) (ret := some .long) hy rfl ?_
  intro p e s m args below meth c s₁ B hml hv
  obtain ⟨rfl, hsz, hP, hK, hD0⟩ := hv
  subst hsz
  have hts := atoms_spec (ws := Cond.code y cc nL (some .long) :: pq_G) B.pre
  have hown : s.vm.findClass own = some m.cls := by rw [← ho]; exact findClass_of_methodNamed B.named
  have hlocks := B.notSynchronized
  have hl := lv_entry vs hn
  rw [lg_entry_eq]
  generalize (lg_sl vs ++ List.replicate (nL - (lg_sl vs).length) Slot.unset).toArray = ls at hl ⊢
  rw [hlv] at hl
  refine body p e s m below meth c ls _ (va_A ws s.heap.size) ⟨B.exec, B.bytes, hml, hown, fun w h => hts w (List.mem_cons_of_mem _ h)⟩ hP hK hD0.self va_S.rf (fun q h => Or.inr h) hl ?_
  intro pc ls v H locs hdg hvr hP1 hS
  exact W.lret B.exec B.bytes B.returns (fun t ht hW => ⟨⟨v, (), rfl, hvr, by show va_P g.1 pq_cl ws' t.heap; rw [ht]; exact hP1⟩, hS.F ht⟩) hS.2.2 hdg hlocks
def pq_Md (l : Launch) (y : MethodName) (cc : ByteArray) (nL : Nat) (k : Nat) (g : pq_g) (ws : va_W) (vs : List Value) (r : UInt64) (ws' : va_W) : Prop :=
  ∀ sz : Nat, Met l y (Cond.code y cc nL (some .double) :: pq_G) (pq_rm k 0 0) (va_Pc vs (fun U => U.heap.size = sz ∧ va_P g.1 pq_cl ws U.heap ∧ pq_K g U ∧ va_D (fun _ => True) ws)) (va_Qd (fun x (_ : Unit) => x = r) (fun _ t => va_P g.1 pq_cl ws' t.heap) (va_A ws sz)) 0 0 (va_A ws sz)
theorem pq_Md.of {l : Launch} {y : MethodName} {cc : ByteArray} {nL : Nat} {k : Nat} {g : pq_g} {ws ws' : va_W} {vs : List Value} {r : UInt64} {own : String} {lv : List (Nat × Value)} (hy : plainName y.cls = true) (ho : y.cls = own) (hn : (lg_sl vs).length ≤ nL) (hlv : lv_args 0 vs = lv)
    (body : ∀ (p : Program) (e : Env) (s : State) (m : MethodId) (below : List Frame) (meth : Method) (c : Code) (ls : Array Slot) (Q : State → Prop) (A : Nat → Prop), CallFix p m c cc nL s vs.toArray pq_G own → va_P g.1 pq_cl ws s.heap → pq_K g s → va_D A ws → va_S A s.heap s.heap [] → (∀ q : Nat, s.heap.size ≤ q → A q) → lv_has ls nL lv →
      (∀ (pc : Nat) (ls : Array Slot) (v : UInt64) (H : Heap) (locs : List Loc), decode cc pc = .ok (.dreturn, 1) → v = r → va_P g.1 pq_cl ws' H → va_S A s.heap H locs → W p l e (pq_rm k 0 0) s m vs.toArray below meth c H locs 0 0 Q (F0 m pc ls [.double v])) →
      W p l e (pq_rm k 0 0) s m vs.toArray below meth c s.heap [] 0 0 Q (F0 m 0 ls [])) : pq_Md l y cc nL k g ws vs r ws' := by
  intro sz
  refine Met.ofW (cc := cc) (maxL := nL) (ret := some .double) hy rfl ?_
  intro p e s m args below meth c s₁ B hml hv
  obtain ⟨rfl, hsz, hP, hK, hD0⟩ := hv
  subst hsz
  have hts := atoms_spec (ws := Cond.code y cc nL (some .double) :: pq_G) B.pre
  have hown : s.vm.findClass own = some m.cls := by rw [← ho]; exact findClass_of_methodNamed B.named
  have hlocks := B.notSynchronized
  have hl := lv_entry vs hn
  rw [lg_entry_eq]
  generalize (lg_sl vs ++ List.replicate (nL - (lg_sl vs).length) Slot.unset).toArray = ls at hl ⊢
  rw [hlv] at hl
  refine body p e s m below meth c ls _ (va_A ws s.heap.size) ⟨B.exec, B.bytes, hml, hown, fun w h => hts w (List.mem_cons_of_mem _ h)⟩ hP hK hD0.self va_S.rf (fun q h => Or.inr h) hl ?_
  intro pc ls v H locs hdg hvr hP1 hS
  exact W.dret B.exec B.bytes B.returns (fun t ht hW => ⟨⟨v, (), rfl, hvr, by show va_P g.1 pq_cl ws' t.heap; rw [ht]; exact hP1⟩, hS.F ht⟩) hS.2.2 hdg hlocks
def pq_Mf (l : Launch) (y : MethodName) (cc : ByteArray) (nL : Nat) (k : Nat) (g : pq_g) (ws : va_W) (vs : List Value) (r : UInt32) (ws' : va_W) : Prop :=
  ∀ sz : Nat, Met l y (Cond.code y cc nL (some .float) :: pq_G) (pq_rm k 0 0) (va_Pc vs (fun U => U.heap.size = sz ∧ va_P g.1 pq_cl ws U.heap ∧ pq_K g U ∧ va_D (fun _ => True) ws)) (va_Qf (fun x (_ : Unit) => x = r) (fun _ t => va_P g.1 pq_cl ws' t.heap) (va_A ws sz)) 0 0 (va_A ws sz)
theorem pq_Mf.of {l : Launch} {y : MethodName} {cc : ByteArray} {nL : Nat} {k : Nat} {g : pq_g} {ws ws' : va_W} {vs : List Value} {r : UInt32} {own : String} {lv : List (Nat × Value)} (hy : plainName y.cls = true) (ho : y.cls = own) (hn : (lg_sl vs).length ≤ nL) (hlv : lv_args 0 vs = lv)
    (body : ∀ (p : Program) (e : Env) (s : State) (m : MethodId) (below : List Frame) (meth : Method) (c : Code) (ls : Array Slot) (Q : State → Prop) (A : Nat → Prop), CallFix p m c cc nL s vs.toArray pq_G own → va_P g.1 pq_cl ws s.heap → pq_K g s → va_D A ws → va_S A s.heap s.heap [] → (∀ q : Nat, s.heap.size ≤ q → A q) → lv_has ls nL lv →
      (∀ (pc : Nat) (ls : Array Slot) (v : UInt32) (H : Heap) (locs : List Loc), decode cc pc = .ok (.freturn, 1) → v = r → va_P g.1 pq_cl ws' H → va_S A s.heap H locs → W p l e (pq_rm k 0 0) s m vs.toArray below meth c H locs 0 0 Q (F0 m pc ls [.float v])) →
      W p l e (pq_rm k 0 0) s m vs.toArray below meth c s.heap [] 0 0 Q (F0 m 0 ls [])) : pq_Mf l y cc nL k g ws vs r ws' := by
  intro sz
  refine Met.ofW (cc := cc) (maxL := nL) (ret := some .float) hy rfl ?_
  intro p e s m args below meth c s₁ B hml hv
  obtain ⟨rfl, hsz, hP, hK, hD0⟩ := hv
  subst hsz
  have hts := atoms_spec (ws := Cond.code y cc nL (some .float) :: pq_G) B.pre
  have hown : s.vm.findClass own = some m.cls := by rw [← ho]; exact findClass_of_methodNamed B.named
  have hlocks := B.notSynchronized
  have hl := lv_entry vs hn
  rw [lg_entry_eq]
  generalize (lg_sl vs ++ List.replicate (nL - (lg_sl vs).length) Slot.unset).toArray = ls at hl ⊢
  rw [hlv] at hl
  refine body p e s m below meth c ls _ (va_A ws s.heap.size) ⟨B.exec, B.bytes, hml, hown, fun w h => hts w (List.mem_cons_of_mem _ h)⟩ hP hK hD0.self va_S.rf (fun q h => Or.inr h) hl ?_
  intro pc ls v H locs hdg hvr hP1 hS
  exact W.fret B.exec B.bytes B.returns (fun t ht hW => ⟨⟨v, (), rfl, hvr, by show va_P g.1 pq_cl ws' t.heap; rw [ht]; exact hP1⟩, hS.F ht⟩) hS.2.2 hdg hlocks
theorem pq_nch {v : Int32} (h : vp_nar .char v = v) : narrow .char (.int v) = .int v := by
  have e : narrow .char (.int v) = .int (vp_nar .char v) := rfl
  rw [e, h]
