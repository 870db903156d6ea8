/-! ===== strings: texts that stay, builders, contracts of the JDK's own methods ===== -/
/-- a String of the letters t at b, its bytes at v -/
def tx_O (t : List Nat) (b v : Nat) (A : Nat → Prop) (U : State) (H : Heap) : Prop := va_O "java/lang/String" b A U H ∧ va_OF "java/lang/String" "coder" "B" (.int 0) b A U H ∧ va_OF "java/lang/String" "value" "[B" (.ref v) b A U H ∧ va_T .byte v t.length (fun j => .int (nI (t.getD j 0))) A U H
theorem tx_O.go {t : List Nat} {b v : Nat} {A B : Nat → Prop} {s U : State} {H0 H : Heap} (h : tx_O t b v A s H0) (hk : ∀ q : Nat, q < H0.size → ¬ A q → H[q]? = H0[q]?) (hW : s.WarmedH U.vm) (hB : ∀ q, B q → A q) : tx_O t b v B U H :=
  ⟨va_O.moved hW.alike ((h.1.kept hk).narrow hB), va_OF.moved hW.alike ((h.2.1.kept hk).narrow hB), va_OF.moved hW.alike ((h.2.2.1.kept hk).narrow hB), va_T.moved hW.alike ((h.2.2.2.kept hk).narrow hB)⟩
theorem tx_O.call {t : List Nat} {b v : Nat} {A : Nat → Prop} {U : State} {f : JFrame} {mk : MethodId} {a : Array Value} (h : tx_O t b v A U U.heap) : tx_O t b v A (U.calling f mk a) (U.calling f mk a).heap :=
  ⟨va_O.moved (u := U) (U := U.calling f mk a) (Vm.Alike.refl U.vm) h.1, va_OF.moved (u := U) (U := U.calling f mk a) (Vm.Alike.refl U.vm) h.2.1, va_OF.moved (u := U) (U := U.calling f mk a) (Vm.Alike.refl U.vm) h.2.2.1, va_T.moved (u := U) (U := U.calling f mk a) (Vm.Alike.refl U.vm) h.2.2.2⟩
theorem tx_O.kept {t : List Nat} {b v : Nat} {A : Nat → Prop} {U : State} {H0 H : Heap} (h : tx_O t b v A U H0) (hk : ∀ q : Nat, q < H0.size → ¬ A q → H[q]? = H0[q]?) : tx_O t b v A U H := ⟨h.1.kept hk, h.2.1.kept hk, h.2.2.1.kept hk, h.2.2.2.kept hk⟩
abbrev tx_L : Type := List (List Nat × Nat × Nat)
/-- private methods of a builder's superclass that the walk calls -/
abbrev pz_PM : List MethodName := [yJ5_ensureCapacityInternal_d00df, yJ5_newCapacity_0f7a4, yJ5_putStringAt_47b60, yJ5_inflateIfNeededFor_a7421]
theorem pz_warmP {x : MethodName} {s U : State} (hW : s.WarmedH U.vm) (hZ : va_Nw (.privateMethod x) s) : va_Nw (.privateMethod x) U := va_tabs rfl (rfl : (s.setVm U.vm).vm = U.vm) (by rw [Cond.privateMethod_setVm hW.alike]; exact hZ)
def sI (ad av : Nat → Nat) (TX : tx_L) (A : Nat → Prop) (U : State) (H : Heap) : Prop := pq_SX ad av A U H ∧ (∀ q ∈ TX, tx_O q.1 q.2.1 q.2.2 A U H) ∧ ∀ y ∈ pz_PM, va_Nw (.privateMethod y) U
theorem sI.go {ad av : Nat → Nat} {TX : tx_L} {A B : Nat → Prop} {s U : State} {H : Heap} (h : sI ad av TX A s s.heap) (hk : ∀ q : Nat, q < s.heap.size → ¬ A q → H[q]? = s.heap[q]?) (hW : s.WarmedH U.vm) (hB : ∀ q, B q → A q) : sI ad av TX B U H := ⟨h.1.go hk hW hB, fun q hq => (h.2.1 q hq).go hk hW hB, fun y hy => pz_warmP hW (h.2.2 y hy)⟩
theorem sI.call {ad av : Nat → Nat} {TX : tx_L} {A : Nat → Prop} {U : State} {f : JFrame} {mk : MethodId} {a : Array Value} (h : sI ad av TX A U U.heap) : sI ad av TX A (U.calling f mk a) (U.calling f mk a).heap := ⟨h.1.call, fun q hq => (h.2.1 q hq).call, fun y hy => (h.2.2 y hy).same rfl rfl⟩
theorem sI.sub {ad av : Nat → Nat} {TX TY : tx_L} {A : Nat → Prop} {U : State} {H : Heap} (h : sI ad av TX A U H) (hs : ∀ q ∈ TY, q ∈ TX) : sI ad av TY A U H := ⟨h.1, fun q hq => h.2.1 q (hs q hq), h.2.2⟩
theorem sI.pm {ad av : Nat → Nat} {TX : tx_L} {A : Nat → Prop} {U : State} {H : Heap} (h : sI ad av TX A U H) {y : MethodName} (hy : y ∈ pz_PM) {args : Array Value} : (Cond.privateMethod y).before args U = true := (h.2.2 y hy).use rfl
/-- the five texts of the law as texts -/
abbrev pz_t : List (List Nat) := [[], [40], [58], [41], [44]]
theorem pq_SX.text0 {ad av : Nat → Nat} {A : Nat → Prop} {U : State} {H : Heap} (h : pq_SX ad av A U H) : tx_O [] (ad 0) (av 0) A U H := by
  obtain ⟨h1, h2, h3, h4⟩ := (h.1 0 (by decide)).1 0 (by decide)
  obtain ⟨c, g1, g2, g3, g4, g5, g6, g7⟩ := h4
  exact ⟨h1, h2, h3, c, g1, g2, g3, g4, g5, fun j hj => absurd hj (Nat.not_lt_zero j), g7⟩
theorem pq_SX.text1 {ad av : Nat → Nat} {A : Nat → Prop} {U : State} {H : Heap} (h : pq_SX ad av A U H) (i x : Nat) (hi : i < 5) (h0 : pz_le.getD i 0 = 1) (hx : (pz_by.getD i []).getD 0 0 = nI x) : tx_O [x] (ad i) (av i) A U H := by
  obtain ⟨h1, h2, h3, h4⟩ := (h.1 i hi).1 0 (by decide)
  obtain ⟨c, g1, g2, g3, g4, g5, g6, g7⟩ := h4
  have e1 : ([pz_le.getD i 0] : List Nat).getD 0 0 = 1 := h0
  rw [e1] at g4 g5
  refine ⟨h1, h2, h3, c, g1, g2, g3, g4, g5, fun j hj => ?_, g7⟩
  obtain rfl : j = 0 := Nat.lt_one_iff.mp hj
  have := g6 0 (by rw [e1]; decide)
  rw [this]
  exact congrArg (fun z => some (Value.int z)) hx
theorem pq_SX.text {ad av : Nat → Nat} {A : Nat → Prop} {U : State} {H : Heap} (h : pq_SX ad av A U H) (i : Nat) (hi : i < 5) : tx_O (pz_t.getD i []) (ad i) (av i) A U H := by
  have h9 : i = 0 ∨ i = 1 ∨ i = 2 ∨ i = 3 ∨ i = 4 := by omega
  rcases h9 with rfl | rfl | rfl | rfl | rfl
  · exact h.text0
  · exact h.text1 1 40 hi rfl rfl
  · exact h.text1 2 58 hi rfl rfl
  · exact h.text1 3 41 hi rfl rfl
  · exact h.text1 4 44 hi rfl rfl
/-- a method of the JDK's: what it answers, and what its world is then, in one word 'post answer (the heap's size at its start) (the heap at its end)' -/
def sM (l : Launch) (y : MethodName) (cc : ByteArray) (nL : Nat) (ret : Option FieldType) (k mc ms : Nat) (g : pq_g) (ad av : Nat → Nat) (TX : tx_L) (ws : va_W) (vs : List Value) (post : Option Value → Nat → Heap → Prop) : Prop :=
  ∀ sz : Nat, Met l y (Cond.code y cc nL ret :: pq_G) (pq_rm k mc ms) (va_Pc vs (fun U => U.heap.size = sz ∧ va_P g.1 pq_cl ws U.heap ∧ pq_K g U ∧ va_D (fun _ => True) ws ∧ sI ad av TX (va_A ws sz) U U.heap)) (fun _ st oc t => (∃ v, oc = .returned v ∧ post v sz t.heap) ∧ va_F (va_A ws sz) st t) mc ms (va_A ws sz)
def sRet (cc : ByteArray) (pc : Nat) (ret : Option FieldType) (st : List Value) (v : Option Value) : Prop :=
  (∃ x ty, ret = some ty ∧ narrow ty (.int x) = .int x ∧ decode cc pc = .ok (.ireturn, 1) ∧ st = [.int x] ∧ v = some (.int x)) ∨ (ret = none ∧ decode cc pc = .ok (.return_, 1) ∧ st = [] ∧ v = none) ∨ (∃ a ty, ret = some ty ∧ ((∃ n, ty = .object n) ∨ ∃ t, ty = .array t) ∧ decode cc pc = .ok (.areturn, 1) ∧ st = [.ref a] ∧ v = some (.ref a))
theorem sRet.i {cc : ByteArray} {pc : Nat} {ty : FieldType} {x : Int32} (hn : narrow ty (.int x) = .int x) (hd : decode cc pc = .ok (.ireturn, 1)) : sRet cc pc (some ty) [.int x] (some (.int x)) := Or.inl ⟨x, ty, rfl, hn, hd, rfl, rfl⟩
theorem sRet.v {cc : ByteArray} {pc : Nat} (hd : decode cc pc = .ok (.return_, 1)) : sRet cc pc none [] none := Or.inr (Or.inl ⟨rfl, hd, rfl, rfl⟩)
theorem sRet.o {cc : ByteArray} {pc a : Nat} {n : String} (hd : decode cc pc = .ok (.areturn, 1)) : sRet cc pc (some (.object n)) [.ref a] (some (.ref a)) := Or.inr (Or.inr ⟨a, _, rfl, Or.inl ⟨n, rfl⟩, hd, rfl, rfl⟩)
theorem sRet.a {cc : ByteArray} {pc a : Nat} {t : FieldType} (hd : decode cc pc = .ok (.areturn, 1)) : sRet cc pc (some (.array t)) [.ref a] (some (.ref a)) := Or.inr (Or.inr ⟨a, _, rfl, Or.inr ⟨t, rfl⟩, hd, rfl, rfl⟩)
theorem sM.of {l : Launch} {y : MethodName} {cc : ByteArray} {nL : Nat} {ret : Option FieldType} {k mc ms : Nat} {g : pq_g} {ad av : Nat → Nat} {TX : tx_L} {ws : va_W} {vs : List Value} {post : Option Value → Nat → Heap → Prop} {own : String} {lv : List (Nat × Value)} (hy : plainName y.cls = true) (ho : y.cls = own) (hn : (lg_sl vs).length ≤ nL) (hlv : lv_args 0 vs = lv)
    (body : ∀ (p : Program) (e : Env) (s : State) (m : MethodId) (below : List Frame) (meth : Method) (c : Code) (ls : Array Slot) (Q : State → Prop) (A : Nat → Prop), CallFix p m c cc nL s vs.toArray pq_G own → meth.name = y.name → va_P g.1 pq_cl ws s.heap → pq_K g s → va_D A ws → va_S A s.heap s.heap [] → (∀ q : Nat, s.heap.size ≤ q → A q) → (∀ q : Nat, A q → va_A ws s.heap.size q) → sI ad av TX A s s.heap → lv_has ls nL lv →
      (∀ (pc : Nat) (ls : Array Slot) (st : List Value) (v : Option Value) (H : Heap) (locs : List Loc) (cells slots : Nat), sRet cc pc ret st v → post v s.heap.size H → va_S A s.heap H locs → cells ≤ mc → slots ≤ ms → W p l e (pq_rm k mc ms) s m vs.toArray below meth c H locs cells slots Q (F0 m pc ls st)) →
      W p l e (pq_rm k mc ms) s m vs.toArray below meth c s.heap [] 0 0 Q (F0 m 0 ls [])) : sM l y cc nL ret k mc ms g ad av TX ws vs post := by
  intro sz
  refine Met.ofW (cc := cc) (maxL := nL) (ret := ret) hy rfl ?_
  intro p e s m args below meth c s₁ B hml hv
  obtain ⟨rfl, hsz, hP, hK, hD0, hI⟩ := hv
  subst hsz
  have hts := atoms_spec (ws := Cond.code y cc nL ret :: pq_G) B.pre
  have hown : s.vm.findClass own = some m.cls := by rw [← ho]; exact findClass_of_methodNamed B.named
  have hin : meth.name = y.name := (name_of_methodNamed B.named B.method).1
  have hlocks := B.notSynchronized
  have hl := lv_entry vs hn
  rw [lg_entry_eq]
  generalize (lg_sl vs ++ List.replicate (nL - (lg_sl vs).length) Slot.unset).toArray = ls at hl ⊢
  rw [hlv] at hl
  refine body p e s m below meth c ls _ (va_A ws s.heap.size) ⟨B.exec, B.bytes, hml, hown, fun w h => hts w (List.mem_cons_of_mem _ h)⟩ hin hP hK hD0.self va_S.rf (fun q h => Or.inr h) (fun q h => h) hI hl ?_
  intro pc ls st v H locs cells slots hret hpost hS hc hs
  refine W.widen hc hs ?_
  have hq : ∀ t : State, t.heap = H → s.WarmedH t.vm → (∃ v', Outcome.returned v = .returned v' ∧ post v' s.heap.size t.heap) ∧ va_F (va_A ws s.heap.size) s t := fun t ht hW => ⟨⟨v, rfl, by rw [ht]; exact hpost⟩, hS.F ht⟩
  rcases hret with ⟨x, ty, h1, h2, h3, rfl, rfl⟩ | ⟨h1, h3, rfl, rfl⟩ | ⟨a, ty, h1, h2, h3, rfl, rfl⟩
  · exact W.zret B.exec B.bytes (B.returns.trans h1) h2 hq hS.2.2 h3 hlocks
  · exact W.vret B.exec B.bytes (B.returns.trans h1) hq hS.2.2 h3 hlocks
  · exact W.aret B.exec B.bytes (B.returns.trans h1) h2 (Or.inr ⟨a, rfl⟩) hq hS.2.2 h3 hlocks
theorem sblind {g : pq_g} {ad av : Nat → Nat} {TX : tx_L} {ws : va_W} {vs : List Value} {sz : Nat} : FrameBlind (va_Pc vs (fun U => U.heap.size = sz ∧ va_P g.1 pq_cl ws U.heap ∧ pq_K g U ∧ va_D (fun _ => True) ws ∧ sI ad av TX (va_A ws sz) U U.heap)) := fun _ _ _ _ q => ⟨q.1, q.2.1, q.2.2.1, q.2.2.2.1.call, q.2.2.2.2.1, q.2.2.2.2.2.call⟩
section SJ
variable {p : Program} {l : Launch} {e : Env} {s : State} {m : MethodId} {args : Array Value} {below : List Frame} {meth : Method} {c : Code} {H H0 : Heap} {locs : List Loc} {cells slots : Nat} {Q : State → Prop} {A : Nat → Prop}
variable {cc bytes : ByteArray} {own C : String} {idx nL maxL n k n1 s1 : Nat} {y : MethodName} {g : pq_g} {ad av : Nat → Nat} {TX : tx_L} {ws WS : va_W} {a b : Nat} {As rest : List Value} {ret : Option FieldType} {pc : Nat} {ls : Array Slot} {st : List Value} {R : Room} {post1 : Option Value → Nat → Heap → Prop}
theorem sCall {A1 free : Nat → Prop} (hr : va_Run p l e R s m args below meth c H locs cells slots n1 s1 (F0 m pc ls st) rest (fun st oc t => (∃ v, oc = .returned v ∧ post1 v H.size t.heap) ∧ va_F A1 st t) free) (hS : va_S A H0 H locs) (hA : ∀ q, q < H.size → A1 q → A q) (hf : ∀ q, free q → A q)
    (kk : ∀ (v : Option Value) (H1 : Heap) (locs1 : List Loc), post1 v H.size H1 → H.size ≤ H1.size → (∀ q : Nat, q < H.size → ¬ A1 q → H1[q]? = H[q]?) → va_S A H0 H1 locs1 → W p l e R s m args below meth c H1 locs1 (cells + n1) (slots + s1) Q (F0 m (pc + 3) ls (v.toList ++ rest))) : W p l e R s m args below meth c H locs cells slots Q (F0 m pc ls st) := by
  intro T hT X
  obtain ⟨v, st₀, t, T', L, h0, X', hL, e1, e2, ⟨⟨v2, h1, h3⟩, hF⟩, st9⟩ := hr T hT X
  cases h1
  obtain ⟨k1, k2, k3⟩ := vx_keep h0 e1 hS hA hf hL hF
  obtain ⟨t2, a1, b1⟩ := kk v T'.heap (locs ++ L) (by rw [e1]; exact h3) k1 k2 k3 T' rfl X'
  exact ⟨t2, st9 t2 a1, b1⟩
theorem pq_cwSR (S : CallFix p m c cc nL s args pq_G own) (w : pq_Sw own idx y bytes maxL ret n) {a b : Nat} (hR : k + 1 ≤ R.frames ∧ 8 + (maxL + 11) + 64 * k ≤ R.locals) : CallB R s args own idx y bytes maxL ret (Cond.code y bytes maxL ret :: pq_G) (pq_rm k a b) a b n ∧ (Cond.static y).before args s = true := by
  obtain ⟨⟨h1, h2, h4, h5⟩, hd⟩ := w
  have ht := S.2.2.2.2
  exact ⟨callB_of n ht (pq_goodIn h5) rfl rfl rfl (ht _ h4) (ht _ h1) hd hR, ht _ h2⟩
/-- virtual -/
theorem sV (S : CallFix p m c cc nL s args pq_G own) (hM : sM l y bytes maxL ret k n1 s1 g ad av TX ws (.ref b :: As) post1) (w : pq_Vw own idx C y bytes maxL ret n) (hK : pq_K g s) (hI : ∀ U : State, U.heap = H → s.WarmedH U.vm → sI ad av TX (va_A ws H.size) U U.heap) (hP : va_P g.1 pq_cl ws H) (hD : va_D A ws) (hS : va_S A H0 H locs) (hA : ∀ q : Nat, H0.size ≤ q → A q) (hb : ∃ cell : Cell, H[b]? = some cell ∧ cell.vm.isStatics = false ∧ s.vm.findClass C = some cell.cls) (hst : st = As.reverse ++ .ref b :: rest) (hn : As.length = n) (hls : ls.size = nL) (hr : (rest.map fun v => v.category).sum ≤ 8) (hdg : decode cc pc = .ok (.invokevirtual idx, 3)) (hR : k + 1 ≤ R.frames ∧ 8 + (maxL + 11) + 64 * k ≤ R.locals) (hf : cells + n1 ≤ R.cells ∧ slots + s1 ≤ R.slots)
    (kk : ∀ (v : Option Value) (H1 : Heap) (locs1 : List Loc), post1 v H.size H1 → H.size ≤ H1.size → (∀ q : Nat, q < H.size → ¬ va_A ws H.size q → H1[q]? = H[q]?) → va_S A H0 H1 locs1 → W p l e R s m args below meth c H1 locs1 (cells + n1) (slots + s1) Q (F0 m (pc + 3) ls (v.toList ++ rest))) : W p l e R s m args below meth c H locs cells slots Q (F0 m pc ls st) :=
  sCall (va_runV S (hM H.size) (pq_cwVR S w hR) ⟨sblind, hb, fun U hU hW => ⟨rfl, by rw [hU], by rw [hU]; exact hP, hK.warm hW, hD.weaken (fun _ _ _ _ => trivial), hI U hU hW⟩⟩ rfl hn hls hst (lv_room hr) hdg hf) hS (fun q _ h => pq_Afree hD hS hA q h) (pq_Afree hD hS hA) kk
/-- static -/
theorem sS (S : CallFix p m c cc nL s args pq_G own) (hM : sM l y bytes maxL ret k n1 s1 g ad av TX ws As post1) (w : pq_Sw own idx y bytes maxL ret n) (hK : pq_K g s) (hI : ∀ U : State, U.heap = H → s.WarmedH U.vm → sI ad av TX (va_A ws H.size) U U.heap) (hP : va_P g.1 pq_cl ws H) (hD : va_D A ws) (hS : va_S A H0 H locs) (hA : ∀ q : Nat, H0.size ≤ q → A q) (hst : st = As.reverse ++ rest) (hn : As.length = n) (hls : ls.size = nL) (hr : (rest.map fun v => v.category).sum ≤ 8) (hdg : decode cc pc = .ok (.invokestatic idx, 3)) (hR : k + 1 ≤ R.frames ∧ 8 + (maxL + 11) + 64 * k ≤ R.locals) (hf : cells + n1 ≤ R.cells ∧ slots + s1 ≤ R.slots)
    (kk : ∀ (v : Option Value) (H1 : Heap) (locs1 : List Loc), post1 v H.size H1 → H.size ≤ H1.size → (∀ q : Nat, q < H.size → ¬ va_A ws H.size q → H1[q]? = H[q]?) → va_S A H0 H1 locs1 → W p l e R s m args below meth c H1 locs1 (cells + n1) (slots + s1) Q (F0 m (pc + 3) ls (v.toList ++ rest))) : W p l e R s m args below meth c H locs cells slots Q (F0 m pc ls st) :=
  sCall (va_runS S (hM H.size) (pq_cwSR S w hR) ⟨sblind, fun U hU hW => ⟨rfl, by rw [hU], by rw [hU]; exact hP, hK.warm hW, hD.weaken (fun _ _ _ _ => trivial), hI U hU hW⟩⟩ rfl hn hls hst (lv_room hr) hdg hf) hS (fun q _ h => pq_Afree hD hS hA q h) (pq_Afree hD hS hA) kk
/-- what the tables say of a call of a private method of AbstractStringBuilder, by a StringBuilder -/
def pz_Pw (own : String) (idx : Nat) (y : MethodName) (cc : ByteArray) (nL : Nat) (ret : Option FieldType) (n : Nat) : Prop :=
  (Cond.methodLink own idx y ∈ pq_G ∧ Cond.instanceMethod y ∈ pq_G ∧ Cond.initialized y.cls ∈ pq_G ∧ Cond.code y cc nL ret ∈ pq_G) ∧ y.cls = RJ5 ∧ (parseMethodDescriptor y.desc).map (fun d => d.parameters.length) = some n
theorem pz_selP {y : MethodName} (hy : y.cls = RJ5) (hsb : (Cond.selects RJ4 yJ5_isLatin1_aae02 yJ5_isLatin1_aae02).before args s = true) (hi0 : (Cond.instanceMethod yJ5_isLatin1_aae02).before args s = true) (hpriv : (Cond.privateMethod y).before args s = true) (hinst : (Cond.instanceMethod y).before args s = true) : (Cond.selects RJ4 y y).before args s = true := by
  obtain ⟨mk, methM, hnamed, hmethM, -, -⟩ := Cond.instanceMethod_spec hinst
  obtain ⟨m0, meth0, hnamed0, -, -, -⟩ := Cond.instanceMethod_spec hi0
  have hyy : y.cls ≠ "java/lang/invoke/MethodHandle" ∧ y.cls ≠ "java/lang/invoke/VarHandle" := by rw [hy]; decide
  have hfound : s.methodFound? y.cls y.name y.desc = some mk := State.methodFound?_of_named hnamed hyy
  have hcls : mk.cls = m0.cls := by
    have h1 := findClass_of_methodNamed hnamed
    have h2 := findClass_of_methodNamed hnamed0
    rw [hy] at h1
    exact Option.some.inj (h1.symm.trans h2)
  simp only [Cond.before, Cond.holds, Cond.value] at hsb ⊢
  cases hc : s.vm.findClass RJ4 with
  | none => simp [hc] at hsb
  | some cS =>
    have hsel : selectMethod {} s.vm cS mk = .method mk := selectMethod_private hmethM (Cond.privateMethod_at hpriv mk methM hnamed hmethM)
    rw [hc, hnamed0] at hsb
    rw [hfound, hnamed]
    cases hf0 : s.methodFound? yJ5_isLatin1_aae02.cls yJ5_isLatin1_aae02.name yJ5_isLatin1_aae02.desc with
    | none => simp [hf0] at hsb
    | some r0 =>
      rw [hf0] at hsb
      cases hs0 : selectMethod {} s.vm cS r0 with
      | method m9 =>
        simp only [hs0] at hsb
        simp only [hsel, hcls]
        simp at hsb ⊢
        exact hsb.2
      | _ => simp [hs0] at hsb
end SJ
theorem tx_O.recv {t : List Nat} {b v : Nat} {A : Nat → Prop} {s : State} {H : Heap} {locs : List Loc} (h : tx_O t b v A s s.heap) (hS : va_S A s.heap H locs) : ∃ cell : Cell, H[b]? = some cell ∧ cell.vm.isStatics = false ∧ s.vm.findClass RJ0 = some cell.cls := by
  obtain ⟨cell, h1, h2, h3, -⟩ := h.1.kept hS.2.1
  exact ⟨cell, h1, h2, h3⟩
/-- a new cell is new -/
theorem pz_new {A : Nat → Prop} {ws : va_W} {sz z : Nat} {e : va_E} (hAw : ∀ q : Nat, A q → va_A ws sz q) (hD : va_D A (ws ++ [(z, e)])) : sz ≤ z := by
  have hz : (ws ++ [(z, e)])[ws.length]? = some (z, e) := by simp
  rcases hAw z (hD.2 ws.length (z, e) hz) with ⟨k, e9, hk⟩ | h
  · have hl := (List.getElem?_eq_some_iff.mp hk).1
    have h1 := hD.1 k ws.length (z, e9) (z, e) (by rw [List.getElem?_append_left hl]; exact hk) hz rfl
    omega
  · exact h
theorem pz_Dn {D : va_G} {cl : List vw_C} {A : Nat → Prop} {ws : va_W} {H0 H : Heap} {locs : List Loc} {z : Nat} {e : va_E} (hP : va_P D cl ws H) (hD : va_D A ws) (hS : va_S A H0 H locs) (hz : H.size ≤ z) (hA : ∀ q : Nat, H0.size ≤ q → A q) : va_D A (ws ++ [(z, e)]) := by
  refine pq_Da hD ⟨fun i j p q hi hj _ => ?_, fun k q hk => ?_⟩ (fun p hp q hq e9 => ?_)
  · have h1 := (List.getElem?_eq_some_iff.mp hi).1
    have h2 := (List.getElem?_eq_some_iff.mp hj).1
    simp at h1 h2
    omega
  · have h9 := List.mem_of_getElem? hk
    rw [List.mem_singleton] at h9
    subst h9
    exact hA _ (Nat.le_trans hS.1 hz)
  · rw [List.mem_singleton] at hq
    subst hq
    obtain ⟨i, hi⟩ := List.getElem?_of_mem hp
    have := (hP i p hi).lt
    have e8 : p.1 = z := e9
    omega
abbrev sbW (g : pq_g) (b w m : Nat) (c : Int32) (f : Nat → Int32) : va_W := [(b, .inr (8, [.ref w, .int 0, .int 0, .int c]))] ++ [(w, .inl (g.2 1, m, .inl f))]
abbrev stW (g : pq_g) (b v n : Nat) (f : Nat → Int32) : va_W := [(b, .inr (7, [.ref v, .int 0, .int 0, .int 0]))] ++ [(v, .inl (g.2 1, n, .inl f))]
section SJ3
variable {p : Program} {l : Launch} {e : Env} {s : State} {m : MethodId} {args : Array Value} {below : List Frame} {meth : Method} {c : Code} {H H0 : Heap} {locs : List Loc} {cells slots : Nat} {Q : State → Prop} {A : Nat → Prop}
variable {cc : ByteArray} {own : String} {idx nL : Nat} {rest : List Value} {pc : Nat} {ls : Array Slot} {R : Room}
/-- a field of a text -/
theorem s_gf (S : CallFix p m c cc nL s args pq_G own) {nm d : String} {v : Value} {q : Nat} (hE : va_OF "java/lang/String" nm d v q A s s.heap) (hS : va_S A s.heap H locs) (hl : Cond.fieldLink own idx "java/lang/String" nm d ∈ pq_G) (hdg : decode cc pc = .ok (.getfield idx, 3))
    (kk : W p l e R s m args below meth c H locs cells slots Q (F0 m (pc + 3) ls (v :: rest))) : W p l e R s m args below meth c H locs cells slots Q (F0 m pc ls (.ref q :: rest)) :=
  vk_getf S.1 S.2.1 hE hS S.2.2.2.1 (S.2.2.2.2 _ hl) (fun _ h => h) hdg kk
theorem s_gs (S : CallFix p m c cc nL s args pq_G own) {C nm d : String} {v : Value} (hZ : va_Z C nm d v A s s.heap) (hS : va_S A s.heap H locs) (hl : Cond.fieldLink own idx C nm d ∈ pq_G) (hdg : decode cc pc = .ok (.getstatic idx, 3))
    (kk : W p l e R s m args below meth c H locs cells slots Q (F0 m (pc + 3) ls (v :: rest))) : W p l e R s m args below meth c H locs cells slots Q (F0 m pc ls rest) :=
  va_gets S.1 S.2.1 hZ hS S.2.2.2.1 (S.2.2.2.2 _ hl) (fun _ h => h) hdg kk
end SJ3
