/-! ===== my own layer: words, contracts of readers and writers, calls ===== -/
def pq_G : List Cond := lw_tbl.filter goodWord
theorem pq_in (i : Nat) {w : Cond} (h : lw_tbl[i]? = some w) (g : goodWord w = true) : w ∈ pq_G := List.mem_filter.mpr ⟨List.mem_of_getElem? h, g⟩
theorem pq_good {w : Cond} (h : w ∈ pq_G) : (w.onTables && w.keeps) = true ∨ ∃ ty, w = .arrayClass ty := good_of_word (List.mem_filter.mp h).2
theorem pq_goodIn {y : Cond} (h : y ∈ pq_G) : GoodIn pq_G (y :: pq_G) := fun w hw => by
  rcases List.mem_cons.mp hw with rfl | h2
  · exact ⟨h, pq_good h⟩
  · exact ⟨h2, pq_good h2⟩
abbrev pq_cl : List vw_C := [(RX0, TX0, 6), (RX1, TX1, 3), (RX2, TX2, 3), (RX3, TX3, 2), (RX4, TX4, 7), (RX5, TX5, 4), (RX6, TX6, 11), (RJ0, TJ0, 4), (RJ4, TJ4, 4)]
abbrev pq_g : Type := va_G × (Nat → ClassId)
abbrev pq_tys (g : pq_g) : List (ClassId × FieldType) := [(g.2 0, .int), (g.2 1, .byte), (g.2 2, .object "PrioritySearchTree$Data")]
abbrev pq_NM : List (String × Nat × MethodName × String) := [(RX6, 11, yX1_init, "PrioritySearchTree"), (RX1, 11, yX4_init, "PrioritySearchTree"), (RX1, 20, yX5_init, "PrioritySearchTree"), (RX2, 17, yX1_init, "PrioritySearchTree"), (RX6, 31, yX0_init, "PrioritySearchTree"), (RX6, 38, yX3_init, "PrioritySearchTree"), (RX4, 38, yX6_at, "PrioritySearchTree"), (RX5, 32, yX6_at, "PrioritySearchTree"), (RX1, 40, yX6_at, "PrioritySearchTree"), (RX3, 23, yX6_put, "PrioritySearchTree"), (RX4, 34, yX6_copyRow, "PrioritySearchTree"), (RX5, 24, yX6_copyRow, "PrioritySearchTree"), (RX4, 42, yX6_put, "PrioritySearchTree"), (RX5, 28, yX6_put, "PrioritySearchTree"), (RX3, 19, yX6_at, "PrioritySearchTree")]
abbrev pq_NF : List (String × Nat × String × String × String × String) := [(RX1, 36, "PrioritySearchTree$Windows", "lows", "[I", "PrioritySearchTree"), (RX1, 44, "PrioritySearchTree$Windows", "highs", "[I", "PrioritySearchTree"), (RX1, 47, "PrioritySearchTree$Windows", "priorities", "[I", "PrioritySearchTree"), (RX6, 101, "PrioritySearchTree$Data", "tree", "LPrioritySearchTree$Tree;", "PrioritySearchTree"), (RX6, 218, "PrioritySearchTree$Data", "windows", "LPrioritySearchTree$Windows;", "PrioritySearchTree"), (RX6, 274, "PrioritySearchTree$Output", "length", "I", "PrioritySearchTree")]
def pq_N (U : State) : Prop := (∀ q ∈ pq_NM, va_Nw (.methodLinkNest q.1 q.2.1 q.2.2.1 q.2.2.2) U) ∧ ∀ q ∈ pq_NF, va_Nw (.fieldLinkNest q.1 q.2.1 q.2.2.1 q.2.2.2.1 q.2.2.2.2.1 q.2.2.2.2.2) U
theorem pq_N.warm {s U : State} (hW : s.WarmedH U.vm) (h : pq_N s) : pq_N U := ⟨fun q hq => (h.1 q hq).warmM hW, fun q hq => (h.2 q hq).warmF hW⟩
theorem pq_N.same {s U : State} (hW : s.vm = U.vm) (h : pq_N s) : pq_N U := ⟨fun q hq => (h.1 q hq).same rfl hW, fun q hq => (h.2 q hq).same rfl hW⟩
def pq_K (g : pq_g) (U : State) : Prop := va_K g.1 pq_cl (pq_tys g) U ∧ pq_N U
theorem pq_K.warm {g : pq_g} {s U : State} (hW : s.WarmedH U.vm) (h : pq_K g s) : pq_K g U := ⟨va_K.moved hW.alike h.1, h.2.warm hW⟩
theorem pq_K.call {g : pq_g} {U : State} {f : JFrame} {mk : MethodId} {a : Array Value} (h : pq_K g U) : pq_K g (U.calling f mk a) := ⟨va_K.moved (u := U) (U := U.calling f mk a) (Vm.Alike.refl U.vm) h.1, h.2.same rfl⟩
abbrev pq_rm (k mc ms : Nat) : Room := { frames := k, cells := mc, slots := ms, locals := 64 * k }
/-! pure pieces -/
def pq_rd (n : Nat) (f : Nat → Int32) (i : Int32) : Int32 := if i < 0 then 0 else if nI n ≤ i then 0 else f i.toNatClampNeg
def pq_wr (n : Nat) (f : Nat → Int32) (i v : Int32) : Nat → Int32 := if i < 0 then f else if nI n ≤ i then f else upd f i.toNatClampNeg v
theorem pq_vp {i : Int32} {n : Nat} (hn : n < 2 ^ 31) (h1 : ¬ i < 0) (h2 : ¬ nI n ≤ i) : vp_in i n := by
  rcases pk_ix i hn with h | h | ⟨j, hj, rfl⟩
  · exact absurd h h1
  · exact absurd h h2
  · exact vp_in_nI hj hn
theorem pq_ifp {α : Type} {c : Prop} [Decidable c] {a b r : α} (hc : c) (hf : (if c then a else b) = r) : a = r := (if_pos hc).symm.trans hf
theorem pq_ifn {α : Type} {c : Prop} [Decidable c] {a b r : α} (hc : ¬ c) (hf : (if c then a else b) = r) : b = r := (if_neg hc).symm.trans hf
theorem pq_bind {α β : Type} {o : Option α} {f : α → Option β} {r : β} (h : o.bind f = some r) : ∃ a, o = some a ∧ f a = some r := Option.bind_eq_some_iff.mp h
/-! a method that only reads: its answer is r, the heap stays -/
def pq_R (l : Launch) (y : MethodName) (cc : ByteArray) (nL : Nat) (ty : FieldType) (k : Nat) (g : pq_g) (ws : va_W) (vs : List Value) (r : Int32) : Prop :=
  Met l y (Cond.code y cc nL (some ty) :: pq_G) (pq_rm k 0 0) (va_Pc vs (fun U => va_P g.1 pq_cl ws U.heap ∧ pq_K g U)) (vp_Si (fun x => x = r)) 0 0 (fun _ => False)
theorem pq_R.of {l : Launch} {y : MethodName} {cc : ByteArray} {nL : Nat} {ty : FieldType} {k : Nat} {g : pq_g} {ws : va_W} {vs : List Value} {r : Int32} {own : String} {lv : List (Nat × Value)} (hy : plainName y.cls = true) (ho : y.cls = own) (hn : (lg_sl vs).length ≤ nL) (hlv : lv_args 0 vs = lv)
    (body : ∀ (p : Program) (e : Env) (s : State) (m : MethodId) (below : List Frame) (meth : Method) (c : Code) (ls : Array Slot) (Q : State → Prop), CallFix p m c cc nL s vs.toArray pq_G own → va_P g.1 pq_cl ws s.heap → pq_K g s → lv_has ls nL lv →
      (∀ (pc : Nat) (ls : Array Slot) (v : Int32), decode cc pc = .ok (.ireturn, 1) → narrow ty (.int v) = .int v → some v = some r → W p l e (pq_rm k 0 0) s m vs.toArray below meth c s.heap [] 0 0 Q (F0 m pc ls [.int v])) →
      W p l e (pq_rm k 0 0) s m vs.toArray below meth c s.heap [] 0 0 Q (F0 m 0 ls [])) : pq_R l y cc nL ty k g ws vs r := by
  refine Met.ofW (cc := cc) (maxL := nL) (ret := some ty) hy rfl ?_
  intro p e s m args below meth c s₁ B hml hv
  obtain ⟨rfl, hP, hK⟩ := hv
  have hts := atoms_spec (ws := Cond.code y cc nL (some ty) :: pq_G) B.pre
  have hown : s.vm.findClass own = some m.cls := by rw [← ho]; exact findClass_of_methodNamed B.named
  have hl := lv_entry vs hn
  rw [lg_entry_eq]
  generalize (lg_sl vs ++ List.replicate (nL - (lg_sl vs).length) Slot.unset).toArray = ls at hl ⊢
  rw [hlv] at hl
  refine body p e s m below meth c ls _ ⟨B.exec, B.bytes, hml, hown, fun w h => hts w (List.mem_cons_of_mem _ h)⟩ hP hK hl ?_
  intro pc ls v hdg hnar hvr
  exact W.zret B.exec B.bytes B.returns hnar (fun t ht hW => ⟨v, rfl, Option.some.inj hvr, ht⟩) (fun q hq => absurd hq List.not_mem_nil) hdg B.notSynchronized
/-- what the tables say of a call -/
def pq_Vw (own : String) (idx : Nat) (C : String) (y : MethodName) (cc : ByteArray) (nL : Nat) (ret : Option FieldType) (n : Nat) : Prop :=
  (Cond.methodLink own idx y ∈ pq_G ∧ Cond.instanceMethod y ∈ pq_G ∧ Cond.selects C y y ∈ pq_G ∧ Cond.initialized y.cls ∈ pq_G ∧ Cond.code y cc nL ret ∈ pq_G) ∧ y.cls ≠ "java/lang/invoke/MethodHandle" ∧ y.cls ≠ "java/lang/invoke/VarHandle" ∧ (parseMethodDescriptor y.desc).map (fun d => d.parameters.length) = some n
def pq_Sw (own : String) (idx : Nat) (y : MethodName) (cc : ByteArray) (nL : Nat) (ret : Option FieldType) (n : Nat) : Prop :=
  (Cond.methodLink own idx y ∈ pq_G ∧ Cond.static y ∈ pq_G ∧ Cond.initialized y.cls ∈ pq_G ∧ Cond.code y cc nL ret ∈ pq_G) ∧ y.cls ≠ "java/lang/invoke/MethodHandle" ∧ y.cls ≠ "java/lang/invoke/VarHandle" ∧ (parseMethodDescriptor y.desc).map (fun d => d.parameters.length) = some n
def pq_Nw (own : String) (idx : Nat) (y : MethodName) (host : String) (cc : ByteArray) (nL : Nat) (ret : Option FieldType) (n : Nat) : Prop :=
  ((own, idx, y, host) ∈ pq_NM ∧ Cond.static y ∈ pq_G ∧ Cond.initialized y.cls ∈ pq_G ∧ Cond.code y cc nL ret ∈ pq_G) ∧ y.cls ≠ "java/lang/invoke/MethodHandle" ∧ y.cls ≠ "java/lang/invoke/VarHandle" ∧ (parseMethodDescriptor y.desc).map (fun d => d.parameters.length) = some n
section PQC
variable {p : Program} {l : Launch} {e : Env} {s : State} {m : MethodId} {args : Array Value} {below : List Frame} {meth : Method} {c : Code} {H : Heap} {locs : List Loc} {cells slots : Nat} {Q : State → Prop}
variable {cc bytes : ByteArray} {own host C : String} {idx nL maxL n k K mc ms : Nat} {y : MethodName} {g : pq_g} {ws WS : va_W} {b : Nat} {As rest : List Value} {r : Int32} {ty : FieldType} {ret : Option FieldType} {pc : Nat} {ls : Array Slot} {st : List Value}
theorem pq_cwV (S : CallFix p m c cc nL s args pq_G own) (w : pq_Vw own idx C y bytes maxL ret n) {a b : Nat} (hk : k < K) (hL : maxL ≤ 45) : CallW (pq_rm K mc ms) s args own C idx y bytes maxL ret (Cond.code y bytes maxL ret :: pq_G) (pq_rm k a b) a b n := by
  obtain ⟨⟨h1, h2, h3, h4, h5⟩, hd⟩ := w
  have ht := S.2.2.2.2
  refine ⟨callB_of n ht (pq_goodIn h5) rfl rfl rfl (ht _ h4) (ht _ h1) hd ⟨by show k + 1 ≤ K; omega, by show 8 + (maxL + 11) + 64 * k ≤ 64 * K; omega⟩, ht _ h2, ht _ h3⟩
theorem pq_cwS (S : CallFix p m c cc nL s args pq_G own) (w : pq_Sw own idx y bytes maxL ret n) {a b : Nat} (hk : k < K) (hL : maxL ≤ 45) : CallB (pq_rm K mc ms) s args own idx y bytes maxL ret (Cond.code y bytes maxL ret :: pq_G) (pq_rm k a b) a b n ∧ (Cond.static y).before args s = true := by
  obtain ⟨⟨h1, h2, h4, h5⟩, hd⟩ := w
  have ht := S.2.2.2.2
  exact ⟨callB_of n ht (pq_goodIn h5) rfl rfl rfl (ht _ h4) (ht _ h1) hd ⟨by show k + 1 ≤ K; omega, by show 8 + (maxL + 11) + 64 * k ≤ 64 * K; omega⟩, ht _ h2⟩
theorem pq_cwN (S : CallFix p m c cc nL s args pq_G own) (w : pq_Nw own idx y host bytes maxL ret n) (hK : pq_K g s) {a b : Nat} (hk : k < K) (hL : maxL ≤ 45) : va_CN (pq_rm K mc ms) s args own idx y host bytes maxL ret (Cond.code y bytes maxL ret :: pq_G) (pq_rm k a b) a b n ∧ (Cond.static y).before args s = true ∧ True := by
  obtain ⟨⟨h1, h2, h4, h5⟩, hd⟩ := w
  have ht := S.2.2.2.2
  exact ⟨va_cnB n ht (pq_goodIn h5) rfl rfl rfl (hK.2.1 _ h1) (ht _ h4) hd ⟨by show k + 1 ≤ K; omega, by show 8 + (maxL + 11) + 64 * k ≤ 64 * K; omega⟩, ht _ h2, trivial⟩
theorem pq_runCall {mc ms : Nat} {R : Room} {gf : JFrame} {Qa : State → Outcome → State → Prop} {free : Addr → Prop} (h : va_Run p l e R s m args below meth c H locs cells slots mc ms gf rest Qa free) : CallRun p l e R s m args below meth c H locs cells slots mc ms gf rest Qa free := by
  intro T hT X
  obtain ⟨v, st₀, t, T', L, h0, X', hL, e1, e2, hq, st⟩ := h T hT X
  exact ⟨v, st₀, t, T', L, h0, X', hL, e1, hq, st⟩
theorem pq_blindR {vs : List Value} : FrameBlind (va_Pc vs (fun U => va_P g.1 pq_cl ws U.heap ∧ pq_K g U)) := fun _ _ _ _ q => ⟨q.1, q.2.1, q.2.2.call⟩
/-- a reader called: virtual (or private, of this class) -/
theorem pq_cV (S : CallFix p m c cc nL s args pq_G own) (hM : pq_R l y bytes maxL ty k g ws (.ref b :: As) r) (w : pq_Vw own idx C y bytes maxL (some ty) n) (hK : pq_K g s) (hP : va_P g.1 pq_cl ws H) {ci : Nat} {fs : List Value} {q : vw_C} (hb : ws[0]? = some (b, .inr (ci, fs))) (hc : pq_cl[ci]? = some q) (hC : q.1 = C) (hst : st = As.reverse ++ .ref b :: rest) (hn : As.length = n) (hls : ls.size = nL) (hr : (rest.map fun v => v.category).sum ≤ 8) (hdg : decode cc pc = .ok (.invokevirtual idx, 3)) (hk : k < K) (hL : maxL ≤ 45) (hf : cells ≤ mc ∧ slots ≤ ms)
    (kk : W p l e (pq_rm K mc ms) s m args below meth c H locs cells slots Q (F0 m (pc + 3) ls (.int r :: rest))) : W p l e (pq_rm K mc ms) s m args below meth c H locs cells slots Q (F0 m pc ls st) := by
  subst hC
  refine vp_callSi (post := fun x => x = r) (pq_runCall (va_runV S hM (pq_cwV S w hk hL) ⟨pq_blindR, va_recv hK.1 hP hc hb, fun U hU hW => ⟨rfl, by rw [hU]; exact hP, hK.warm hW⟩⟩ rfl hn hls hst (lv_room hr) hdg hf)) ?_
  rintro _ rfl
  exact kk
/-- .. static, of this class -/
theorem pq_cS (S : CallFix p m c cc nL s args pq_G own) (hM : pq_R l y bytes maxL ty k g ws As r) (w : pq_Sw own idx y bytes maxL (some ty) n) (hK : pq_K g s) (hP : va_P g.1 pq_cl ws H) (hst : st = As.reverse ++ rest) (hn : As.length = n) (hls : ls.size = nL) (hr : (rest.map fun v => v.category).sum ≤ 8) (hdg : decode cc pc = .ok (.invokestatic idx, 3)) (hk : k < K) (hL : maxL ≤ 45) (hf : cells ≤ mc ∧ slots ≤ ms)
    (kk : W p l e (pq_rm K mc ms) s m args below meth c H locs cells slots Q (F0 m (pc + 3) ls (.int r :: rest))) : W p l e (pq_rm K mc ms) s m args below meth c H locs cells slots Q (F0 m pc ls st) := by
  refine vp_callSi (post := fun x => x = r) (pq_runCall (va_runS S hM (pq_cwS S w hk hL) ⟨pq_blindR, fun U hU hW => ⟨rfl, by rw [hU]; exact hP, hK.warm hW⟩⟩ rfl hn hls hst (lv_room hr) hdg hf)) ?_
  rintro _ rfl
  exact kk
/-- .. static and private, of a nest mate -/
theorem pq_cN (S : CallFix p m c cc nL s args pq_G own) (hM : pq_R l y bytes maxL ty k g ws As r) (w : pq_Nw own idx y host bytes maxL (some ty) n) (hK : pq_K g s) (hP : va_P g.1 pq_cl ws H) (hst : st = As.reverse ++ rest) (hn : As.length = n) (hls : ls.size = nL) (hr : (rest.map fun v => v.category).sum ≤ 8) (hdg : decode cc pc = .ok (.invokestatic idx, 3)) (hk : k < K) (hL : maxL ≤ 45) (hf : cells ≤ mc ∧ slots ≤ ms)
    (kk : W p l e (pq_rm K mc ms) s m args below meth c H locs cells slots Q (F0 m (pc + 3) ls (.int r :: rest))) : W p l e (pq_rm K mc ms) s m args below meth c H locs cells slots Q (F0 m pc ls st) := by
  refine vp_callSi (post := fun x => x = r) (pq_runCall (va_runSN S hM (pq_cwN S w hK hk hL) ⟨pq_blindR, fun U hU hW => ⟨rfl, by rw [hU]; exact hP, hK.warm hW⟩⟩ rfl hn hls hst (lv_room hr) hdg hf)) ?_
  rintro _ rfl
  exact kk
end PQC
set_option maxHeartbeats 4000000 in
set_option maxRecDepth 100000 in
/-- at(row, index) -/
theorem pq_at_ok (l : Launch) (g : pq_g) (a n : Nat) (f : Nat → Int32) (i : Int32) (hn : n < 2 ^ 31) : pq_R l yX6_at cX6_at 2 .int 1 g [(a, .inl (g.2 0, n, .inl f))] [.ref a, .int i] (pq_rd n f i) := by
  refine pq_R.of (own := RX6) (by decide) rfl (Nat.le_of_ble_eq_true rfl) rfl ?_
  intro p e s m below meth c ls Q S hP hK hl hend
  obtain ⟨hx, hb, hml, hown, hts⟩ := id S
  refine lv_aload_n hx hb dX6_at_0 rfl (lv_at hl 0 rfl) ?_
  refine lv_ifnull hx hb dX6_at_1 ?_
  refine lv_iload_n hx hb dX6_at_4 rfl (lv_at hl 1 rfl) ?_
  refine lv_if_lt (tgt := 20) hx hb dX6_at_5 (by decide) (fun h1 => ?_) (fun h1 => ?_)
  · refine lv_iconst (v := 0) hx hb dX6_at_20 (by decide) ?_
    exact hend _ _ _ dX6_at_21 rfl (by rw [pq_rd, if_pos h1])
  · refine lv_iload_n hx hb dX6_at_8 rfl (lv_at hl 1 rfl) ?_
    refine lv_aload_n hx hb dX6_at_9 rfl (lv_at hl 0 rfl) ?_
    refine va_alen (v := nI n) hx hb hK.1 hP 0 0 rfl rfl rfl dX6_at_10 ?_
    refine lv_icmp_ge (tgt := 20) hx hb dX6_at_11 (by decide) (fun h2 => ?_) (fun h2 => ?_)
    · refine lv_iconst (v := 0) hx hb dX6_at_20 (by decide) ?_
      exact hend _ _ _ dX6_at_21 rfl (by rw [pq_rd, if_neg h1, if_pos h2])
    · refine lv_aload_n hx hb dX6_at_14 rfl (lv_at hl 0 rfl) ?_
      refine lv_iload_n hx hb dX6_at_15 rfl (lv_at hl 1 rfl) ?_
      refine va_iald hx hb hK.1 hP 0 0 rfl rfl (pq_vp hn h1 h2) dX6_at_16 ?_
      refine lv_goto (tgt := 21) hx hb dX6_at_17 (by decide) ?_
      exact hend _ _ _ dX6_at_21 rfl (by rw [pq_rd, if_neg h1, if_neg h2])
