/-! ===== my own layer, 9: making things ===== -/
theorem pq_joinN {A0 : Nat → Prop} {D : va_G} {cl : List vw_C} {X w1 : va_W} {q : Nat} {o : va_E} {H H1 : Heap} (hP : va_P D cl (X ++ [(q, o)]) H) (hD : va_D A0 (X ++ [(q, o)])) (hk : ∀ z : Nat, z < H.size → ¬ va_A [(q, o)] H.size z → H1[z]? = H[z]?) (hF : ∀ z, va_A [(q, o)] H.size z → A0 z) (hP1 : va_P D cl w1 H1) (hD1 : va_D (va_A [(q, o)] H.size) w1) : va_P D cl (X ++ w1) H1 ∧ va_D A0 (X ++ w1) := by
  refine ⟨va_P.app (pq_kp (pq_P1 hP) (pq_Dx hD) hk) hP1, pq_Da (pq_D1 hD) (hD1.weaken (fun k x _ h => hF x.1 h)) ?_⟩
  intro x hx y hy e
  obtain ⟨i, hi⟩ := List.getElem?_of_mem hx
  obtain ⟨j, hj⟩ := List.getElem?_of_mem hy
  have hl := (pq_P1 hP i x hi).lt
  rcases hD1.2 j y hj with ⟨k, e9, h⟩ | h
  · have hm := List.mem_of_getElem? h
    rw [List.mem_singleton] at hm
    exact pq_Dx hD x hx (q, o) (List.mem_singleton.mpr rfl) (e.trans (congrArg (fun z => z.1) hm))
  · omega
section PQN
variable {p : Program} {l : Launch} {e : Env} {R : Room} {s : State} {m : MethodId} {args : Array Value} {below : List Frame} {meth : Method} {c : Code} {H H0 : Heap} {locs : List Loc} {cells slots : Nat} {Q : State → Prop} {A : Nat → Prop}
variable {cc bytes : ByteArray} {own host C : String} {idx nL n k K mc ms mc1 ms1 : Nat} {y : MethodName} {g : pq_g} {ws : va_W} {rest : List Value} {pc : Nat} {ls : Array Slot}
/-- a new array of a basic type -/
theorem pq_newa (S : CallFix p m c cc nL s args pq_G own) (t : Nat) {atype : ArrayType} (harr : Cond.arrayClass (newarray.typeOf atype) ∈ pq_G) {ty : FieldType} (hty : newarray.typeOf atype = ty) (hK : pq_K g s) (hP : va_P g.1 pq_cl ws H) (hD : va_D A ws) (hS : va_S A H0 H locs) (hA : ∀ q : Nat, H0.size ≤ q → A q) {cA : ClassId} (hcA : (pq_tys g)[t]? = some (cA, ty))
    {i : Int32} {N' : Nat} {a0 : vp_A} (ha : ∀ cA : ClassId, vp_cell cA a0 = arrV cA N' (fun _ => defaultValue ty)) (hn : ¬ i < 0) (hN : i.toNatClampNeg = N') (hbytes : N' * componentBytes ty ≤ 536870912) (hcells : cells + 1 ≤ R.cells) (hslots : slots + N' ≤ R.slots) (hdg : decode cc pc = .ok (.newarray atype, 2))
    (kk : ∀ (q : Nat) (H1 : Heap), va_P g.1 pq_cl (ws ++ [(q, .inl (cA, a0))]) H1 → va_D A (ws ++ [(q, .inl (cA, a0))]) → va_S A H0 H1 locs →
      W p l e R s m args below meth c H1 locs (cells + 1) (slots + N') Q (F0 m (pc + 2) ls (.ref q :: rest))) : W p l e R s m args below meth c H locs cells slots Q (F0 m pc ls (.int i :: rest)) := by
  refine va_newa S.1 S.2.1 (S.2.2.2.2 _ harr) hty hK.1 hP hD hS hA ha hn hN hbytes hcells hslots hdg (fun q cB H1 hK1 hP1 hD1 hS1 => ?_)
  have h1 := (hK1.2 (pq_tys g).length (cB, ty) (by simp)).2
  have h2 := (hK.1.2 t _ hcA).2
  have e9 : cB = cA := by
    subst hty
    cases atype <;> exact Option.some.inj (h1.symm.trans h2)
  subst e9
  exact kk q H1 hP1 hD1 hS1
/-- a new array of references -/
theorem pq_newq (S : CallFix p m c cc nL s args pq_G own) (t : Nat) (hl : Cond.classLink own idx C ∈ pq_G) (hover : va_AO C s) (hK : pq_K g s) (hP : va_P g.1 pq_cl ws H) (hD : va_D A ws) (hS : va_S A H0 H locs) (hA : ∀ q : Nat, H0.size ≤ q → A q) {cA : ClassId} (hcA : (pq_tys g)[t]? = some (cA, .object C))
    {i : Int32} {N' : Nat} (hn : ¬ i < 0) (hN : i.toNatClampNeg = N') (hbytes : N' * 4 ≤ 536870912) (hcells : cells + 1 ≤ R.cells) (hslots : slots + N' ≤ R.slots) (hdg : decode cc pc = .ok (.anewarray idx, 3))
    (kk : ∀ (q : Nat) (H1 : Heap), va_P g.1 pq_cl (ws ++ [(q, .inl (cA, N', .inr (.inr (.inr (.inr (fun _ => none))))))]) H1 → va_D A (ws ++ [(q, .inl (cA, N', .inr (.inr (.inr (.inr (fun _ => none))))))]) → va_S A H0 H1 locs →
      W p l e R s m args below meth c H1 locs (cells + 1) (slots + N') Q (F0 m (pc + 3) ls (.ref q :: rest))) : W p l e R s m args below meth c H locs cells slots Q (F0 m pc ls (.int i :: rest)) := by
  refine va_newq S.1 S.2.1 S.2.2.2.1 (S.2.2.2.2 _ hl) hover hK.1 hP hD hS hA hn hN hbytes hcells hslots hdg (fun q cB H1 hK1 hP1 hD1 hS1 => ?_)
  obtain ⟨_, _, _, _, _, h1⟩ := (hK1.2 (pq_tys g).length (cB, .object C) (by simp)).2
  obtain ⟨_, _, _, _, _, h2⟩ := (hK.1.2 t _ hcA).2
  have e9 : cB = cA := Option.some.inj (h1.symm.trans h2)
  subst e9
  exact kk q H1 hP1 hD1 hS1
/-- new -/
theorem pq_new (S : CallFix p m c cc nL s args pq_G own) {T : u_T} {N ci : Nat} (hin : ∀ w ∈ u_ws C T N, w ∈ pq_G) (ty : Nat → FieldType) (hty : ∀ k, k < N → parseFieldDescriptor (T k).2.2.1 = some (ty k)) (h1 : Cond.classLink own idx C ∈ pq_G) (h2 : Cond.instantiable C N ∈ pq_G) (h3 : Cond.initialized C ∈ pq_G)
    (hK : pq_K g s) (hP : va_P g.1 pq_cl ws H) (hD : va_D A ws) (hS : va_S A H0 H locs) (hA : ∀ q : Nat, H0.size ≤ q → A q) (hc : pq_cl[ci]? = some (C, T, N)) {fs : List Value} (hfs : ∀ j, j < N → defaultValue (ty j) = vp_V fs j) (hcells : cells + 1 ≤ R.cells) (hslots : slots + N ≤ R.slots) (hdg : decode cc pc = .ok (.new idx, 3))
    (kk : ∀ (q : Nat) (H1 : Heap), va_P g.1 pq_cl (ws ++ [(q, .inr (ci, fs))]) H1 → va_D A (ws ++ [(q, .inr (ci, fs))]) → va_S A H0 H1 locs →
      W p l e R s m args below meth c H1 locs (cells + 1) (slots + N) Q (F0 m (pc + 3) ls (.ref q :: rest))) : W p l e R s m args below meth c H locs cells slots Q (F0 m pc ls rest) :=
  va_new S.1 S.2.1 S.2.2.2.2 hin ty hty S.2.2.2.1 (S.2.2.2.2 _ h1) (S.2.2.2.2 _ h2) (S.2.2.2.2 _ h3) hK.1 hP hD hS hA hc hfs hcells hslots hdg kk
/-- a final field in its constructor -/
theorem pq_putF (S : CallFix p m c cc nL s args pq_G own) (hin2 : meth.name = "<init>") (hK : pq_K g s) (hP : va_P g.1 pq_cl ws H) (hD : va_D A ws) (hS : va_S A H0 H locs) {T : u_T} {N ci : Nat} (hin : ∀ w ∈ u_ws own T N, w ∈ pq_G) {ty0 : Nat → FieldType} (hty : ∀ k, k < N → parseFieldDescriptor (T k).2.2.1 = some (ty0 k)) (hnm : ∀ a, a < N → ∀ b, b < N → a ≠ b → (T a).2.1 ≠ (T b).2.1) (q0 : Nat) {a : Nat} {fs : List Value} (he : ws[q0]? = some (a, .inr (ci, fs))) (hc : pq_cl[ci]? = some (own, T, N)) (k : Nat) (hk : k < N) (hl : Cond.fieldLink own idx own (T k).2.1 (T k).2.2.1 ∈ pq_G) (hs : (T k).1 = own) (hfin : (T k).2.2.2 = true) {v : Value} {ty : FieldType} (hd : ty0 k = ty) (hn : narrow ty v = v) (hfit : fits ty v = true) (hlen : k < fs.length) (hdg : decode cc pc = .ok (.putfield idx, 3))
    (kk : ∀ (H1 : Heap) (locs1 : List Loc), va_P g.1 pq_cl (ws.set q0 (a, .inr (ci, fs.set k v))) H1 → va_D A (ws.set q0 (a, .inr (ci, fs.set k v))) → va_S A H0 H1 locs1 → W p l e R s m args below meth c H1 locs1 cells slots Q (F0 m (pc + 3) ls rest)) : W p l e R s m args below meth c H locs cells slots Q (F0 m pc ls (v :: .ref a :: rest)) :=
  va_putF S.1 S.2.1 S.2.2.2.2 hin ty0 hty hnm S.2.2.2.1 hK.1 hP hD hS q0 he hc k hk (S.2.2.2.2 _ hl) (fun x h => by rw [hs] at h; exact h) hfin hin2 hs (by rw [hty k hk, hd]) hn hfit hlen hdg kk
/-- Object's constructor -/
theorem pq_obj (S : CallFix p m c cc nL s args pq_G own) (h1 : Cond.methodLink own idx Lib.objectInit ∈ pq_G) (h2 : Cond.instanceMethod Lib.objectInit ∈ pq_G) (h3 : Cond.code Lib.objectInit ⟨#[0xb1]⟩ 1 none ∈ pq_G) (hls : ls.size = nL) {a : Nat} (hdg : decode cc pc = .ok (.invokespecial idx, 3)) (hk : 1 ≤ K)
    (kk : W p l e (pq_rm K mc ms) s m args below meth c H locs cells slots Q (F0 m (pc + 3) ls [])) : W p l e (pq_rm K mc ms) s m args below meth c H locs cells slots Q (F0 m pc ls [.ref a]) := by
  refine W.objInit S.1 S.2.1 S.2.2.2.1 (S.2.2.2.2 _ h1) (S.2.2.2.2 _ h2) (S.2.2.2.2 _ h3) rfl (by rw [S.2.2.1]; exact hls) rfl hdg hk ?_ ?_
  · show 2 * 0 + 0 + 12 ≤ 64 * K
    omega
  · exact W.eq (g2 := F0 m (pc + 3) ls []) rfl kk
/-- what a constructor makes of the object b -/
def pq_C (l : Launch) (y : MethodName) (cc : ByteArray) (nL k mc ms : Nat) (g : pq_g) (ci : Nat) (fs : List Value) (V : (Nat → Nat) → va_W) : Prop :=
  ∀ b sz : Nat, Met l y (Cond.code y cc nL none :: pq_G) (pq_rm k mc ms) (va_Pc [.ref b] (fun U => U.heap.size = sz ∧ va_P g.1 pq_cl [(b, .inr (ci, fs))] U.heap ∧ pq_K g U ∧ va_D (fun _ => True) [(b, .inr (ci, fs))] ∧ va_AO "PrioritySearchTree$Data" U)) (va_Qv (fun a : Nat → Nat => a 0 = b) (fun a t => va_P g.1 pq_cl (V a) t.heap ∧ va_D (va_A [(b, .inr (ci, fs))] sz) (V a)) (va_A [(b, .inr (ci, fs))] sz)) mc ms (va_A [(b, .inr (ci, fs))] sz)
theorem pq_C.of {l : Launch} {y : MethodName} {cc : ByteArray} {nL k mc ms : Nat} {g : pq_g} {ci : Nat} {fs : List Value} {V : (Nat → Nat) → va_W} {own : String} (hy : plainName y.cls = true) (hnm : y.name = "<init>") (ho : y.cls = own) (hn : 1 ≤ nL)
    (body : ∀ (p : Program) (e : Env) (s : State) (m : MethodId) (below : List Frame) (meth : Method) (c : Code) (ls : Array Slot) (Q : State → Prop) (A : Nat → Prop) (b : Nat), CallFix p m c cc nL s ([.ref b] : List Value).toArray pq_G own → meth.name = "<init>" → va_AO "PrioritySearchTree$Data" s → va_P g.1 pq_cl [(b, .inr (ci, fs))] s.heap → pq_K g s → va_D A [(b, .inr (ci, fs))] → va_S A s.heap s.heap [] → (∀ q : Nat, s.heap.size ≤ q → A q) → lv_has ls nL [(0, .ref b)] →
      (∀ (pc : Nat) (ls : Array Slot) (H : Heap) (locs : List Loc) (cells slots : Nat) (a : Nat → Nat), decode cc pc = .ok (.return_, 1) → a 0 = b → va_P g.1 pq_cl (V a) H → va_D A (V a) → va_S A s.heap H locs → cells ≤ mc → slots ≤ ms → W p l e (pq_rm k mc ms) s m ([.ref b] : List Value).toArray below meth c H locs cells slots Q (F0 m pc ls [])) →
      W p l e (pq_rm k mc ms) s m ([.ref b] : List Value).toArray below meth c s.heap [] 0 0 Q (F0 m 0 ls [])) : pq_C l y cc nL k mc ms g ci fs V := by
  intro b sz
  refine Met.ofW (cc := cc) (maxL := nL) (ret := none) hy rfl ?_
  intro p e s m args below meth c s₁ B hml hv
  obtain ⟨rfl, hsz, hP, hK, hD0, hO⟩ := hv
  subst hsz
  have hts := atoms_spec (ws := Cond.code y cc nL none :: pq_G) B.pre
  have hown : s.vm.findClass own = some m.cls := by rw [← ho]; exact findClass_of_methodNamed B.named
  have hin : meth.name = "<init>" := (name_of_methodNamed B.named B.method).1.trans hnm
  have hl := lv_entry ([.ref b]) (n := nL) hn
  rw [lg_entry_eq]
  generalize (lg_sl ([.ref b]) ++ List.replicate (nL - (lg_sl ([.ref b])).length) Slot.unset).toArray = ls at hl ⊢
  have hl : lv_has ls nL [(0, .ref b)] := hl
  refine body p e s m below meth c ls _ (va_A [(b, .inr (ci, fs))] s.heap.size) b ⟨B.exec, B.bytes, hml, hown, fun w h => hts w (List.mem_cons_of_mem _ h)⟩ hin hO hP hK hD0.self va_S.rf (fun q h => Or.inr h) hl ?_
  intro pc ls H locs cells slots a hdg ha hP1 hD1 hS hc hs
  refine W.widen hc hs ?_
  exact W.vret B.exec B.bytes B.returns (fun t ht hW => ⟨⟨a, rfl, ha, by rw [ht]; exact hP1, hD1⟩, hS.F ht⟩) hS.2.2 hdg B.notSynchronized
theorem pq_blindC {ci : Nat} {fs : List Value} {b sz : Nat} : FrameBlind (va_Pc [.ref b] (fun U => U.heap.size = sz ∧ va_P g.1 pq_cl [(b, .inr (ci, fs))] U.heap ∧ pq_K g U ∧ va_D (fun _ => True) [(b, .inr (ci, fs))] ∧ va_AO "PrioritySearchTree$Data" U)) := fun _ _ _ _ q => ⟨q.1, q.2.1, q.2.2.1, q.2.2.2.1.call, q.2.2.2.2.1, q.2.2.2.2.2⟩
/-- what the tables say of a constructor's call: of a nest mate's private one, and of a plain one -/
def pq_Iw (own : String) (idx : Nat) (y : MethodName) (host : String) (cc : ByteArray) (nL : Nat) : Prop :=
  ((own, idx, y, host) ∈ pq_NM ∧ Cond.instanceMethod y ∈ pq_G ∧ Cond.initialized y.cls ∈ pq_G ∧ Cond.code y cc nL none ∈ pq_G) ∧ y.name = "<init>" ∧ y.cls ≠ "java/lang/invoke/MethodHandle" ∧ y.cls ≠ "java/lang/invoke/VarHandle" ∧ (parseMethodDescriptor y.desc).map (fun d => d.parameters.length) = some 0
def pq_Iq (own : String) (idx : Nat) (y : MethodName) (cc : ByteArray) (nL : Nat) : Prop :=
  (Cond.methodLink own idx y ∈ pq_G ∧ Cond.instanceMethod y ∈ pq_G ∧ Cond.initialized y.cls ∈ pq_G ∧ Cond.code y cc nL none ∈ pq_G) ∧ y.name = "<init>" ∧ y.cls ≠ "java/lang/invoke/MethodHandle" ∧ y.cls ≠ "java/lang/invoke/VarHandle" ∧ (parseMethodDescriptor y.desc).map (fun d => d.parameters.length) = some 0
theorem pq_goI {Rr : Room} {ci : Nat} {fs : List Value} {V : (Nat → Nat) → va_W} {b : Nat} {X : va_W} {st : List Value} (hr : va_Run p l e Rr s m args below meth c H locs cells slots mc1 ms1 (F0 m pc ls st) rest (va_Qv (fun a : Nat → Nat => a 0 = b) (fun a t => va_P g.1 pq_cl (V a) t.heap ∧ va_D (va_A [(b, .inr (ci, fs))] H.size) (V a)) (va_A [(b, .inr (ci, fs))] H.size) (Value.ref b :: ([] : List Value)).toArray) (va_A [(b, .inr (ci, fs))] H.size)) (hP : va_P g.1 pq_cl (X ++ [(b, .inr (ci, fs))]) H) (hD : va_D A (X ++ [(b, .inr (ci, fs))])) (hS : va_S A H0 H locs) (hA : ∀ q : Nat, H0.size ≤ q → A q)
    (kk : ∀ (a : Nat → Nat) (H1 : Heap) (locs1 : List Loc), a 0 = b → va_P g.1 pq_cl (X ++ V a) H1 → va_D A (X ++ V a) → va_S A H0 H1 locs1 → W p l e Rr s m args below meth c H1 locs1 (cells + mc1) (slots + ms1) Q (F0 m (pc + 3) ls rest)) : W p l e Rr s m args below meth c H locs cells slots Q (F0 m pc ls st) := by
  refine va_callv hr hS (fun q _ h => pq_Afree (pq_D2 hD) hS hA q h) (pq_Afree (pq_D2 hD) hS hA) ?_
  rintro a t H1 locs1 ht - ha ⟨hB, hB2⟩ - hk1 hS1
  obtain ⟨h1, h2⟩ := pq_joinN hP hD hk1 (pq_Afree (pq_D2 hD) hS hA) (by rw [← ht]; exact hB) hB2
  exact kk a H1 locs1 ha h1 h2 hS1
theorem pq_cI (S : CallFix p m c cc nL s args pq_G own) {nL1 : Nat} {ci : Nat} {fs : List Value} {V : (Nat → Nat) → va_W} {b : Nat} {X : va_W} (hM : pq_C l y bytes nL1 k mc1 ms1 g ci fs V) (w : pq_Iw own idx y host bytes nL1) (hO : va_AO "PrioritySearchTree$Data" s) (hK : pq_K g s) (hP : va_P g.1 pq_cl (X ++ [(b, .inr (ci, fs))]) H) (hD : va_D A (X ++ [(b, .inr (ci, fs))])) (hS : va_S A H0 H locs) (hA : ∀ q : Nat, H0.size ≤ q → A q) (hls : ls.size = nL) (hr : (rest.map fun v => v.category).sum ≤ 8) (hdg : decode cc pc = .ok (.invokespecial idx, 3)) (hk : k < K) (hL : nL1 ≤ 45) (hf : cells + mc1 ≤ mc ∧ slots + ms1 ≤ ms)
    (kk : ∀ (a : Nat → Nat) (H1 : Heap) (locs1 : List Loc), a 0 = b → va_P g.1 pq_cl (X ++ V a) H1 → va_D A (X ++ V a) → va_S A H0 H1 locs1 → W p l e (pq_rm K mc ms) s m args below meth c H1 locs1 (cells + mc1) (slots + ms1) Q (F0 m (pc + 3) ls rest)) : W p l e (pq_rm K mc ms) s m args below meth c H locs cells slots Q (F0 m pc ls (.ref b :: rest)) := by
  obtain ⟨⟨h1, h2, h4, h5⟩, hi, hd⟩ := w
  have ht := S.2.2.2.2
  have cw : va_CN (pq_rm K mc ms) s args own idx y host bytes nL1 none (Cond.code y bytes nL1 none :: pq_G) (pq_rm k mc1 ms1) mc1 ms1 0 ∧ y.name = "<init>" ∧ (Cond.instanceMethod y).before args s = true :=
    ⟨va_cnB 0 ht (pq_goodIn h5) rfl rfl rfl (hK.2.1 _ h1) (ht _ h4) hd ⟨by show k + 1 ≤ K; omega, by show 8 + (nL1 + 11) + 64 * k ≤ 64 * K; omega⟩, hi, ht _ h2⟩
  exact pq_goI (va_runIN (As := []) (b := b) (rest := rest) S (hM b H.size) cw ⟨pq_blindC, fun U hU hW => ⟨rfl, by rw [hU], by rw [hU]; exact pq_P2 hP, hK.warm hW, (pq_D2 hD).weaken (fun _ _ _ _ => trivial), hO.moved hW.alike⟩⟩ rfl rfl hls rfl (lv_room hr) hdg hf) hP hD hS hA kk
theorem pq_cIq (S : CallFix p m c cc nL s args pq_G own) {nL1 : Nat} {ci : Nat} {fs : List Value} {V : (Nat → Nat) → va_W} {b : Nat} {X : va_W} (hM : pq_C l y bytes nL1 k mc1 ms1 g ci fs V) (w : pq_Iq own idx y bytes nL1) (hO : va_AO "PrioritySearchTree$Data" s) (hK : pq_K g s) (hP : va_P g.1 pq_cl (X ++ [(b, .inr (ci, fs))]) H) (hD : va_D A (X ++ [(b, .inr (ci, fs))])) (hS : va_S A H0 H locs) (hA : ∀ q : Nat, H0.size ≤ q → A q) (hls : ls.size = nL) (hr : (rest.map fun v => v.category).sum ≤ 8) (hdg : decode cc pc = .ok (.invokespecial idx, 3)) (hR : k + 1 ≤ R.frames ∧ 8 + (nL1 + 11) + 64 * k ≤ R.locals) (hf : cells + mc1 ≤ R.cells ∧ slots + ms1 ≤ R.slots)
    (kk : ∀ (a : Nat → Nat) (H1 : Heap) (locs1 : List Loc), a 0 = b → va_P g.1 pq_cl (X ++ V a) H1 → va_D A (X ++ V a) → va_S A H0 H1 locs1 → W p l e R s m args below meth c H1 locs1 (cells + mc1) (slots + ms1) Q (F0 m (pc + 3) ls rest)) : W p l e R s m args below meth c H locs cells slots Q (F0 m pc ls (.ref b :: rest)) := by
  obtain ⟨⟨h1, h2, h4, h5⟩, hi, hd⟩ := w
  have ht := S.2.2.2.2
  have cw : CallB R s args own idx y bytes nL1 none (Cond.code y bytes nL1 none :: pq_G) (pq_rm k mc1 ms1) mc1 ms1 0 ∧ y.name = "<init>" ∧ (Cond.instanceMethod y).before args s = true :=
    ⟨callB_of 0 ht (pq_goodIn h5) rfl rfl rfl (ht _ h4) (ht _ h1) hd hR, hi, ht _ h2⟩
  exact pq_goI (va_runI (As := []) (b := b) (rest := rest) S (hM b H.size) cw ⟨pq_blindC, fun U hU hW => ⟨rfl, by rw [hU], by rw [hU]; exact pq_P2 hP, hK.warm hW, (pq_D2 hD).weaken (fun _ _ _ _ => trivial), hO.moved hW.alike⟩⟩ rfl rfl hls rfl (lv_room hr) hdg hf) hP hD hS hA kk
end PQN
/-! what new objects hold -/
abbrev treeZ : TreeS := (fun _ => 0, fun _ => 0, fun _ => 0, fun _ => 0, fun _ => 0, fun _ => 0, 0)
abbrev winZ : WinS := (fun _ => 0, fun _ => 0, fun _ => 0, fun _ => 0)
abbrev dataZ : DataS := (treeZ, winZ, 0)
abbrev outZ : OutS := (fun _ => 0, 0)
abbrev cmdZ : CmdS := (fun _ => 0, 0, 0, fun _ => 0, fun _ => 0, 0)
abbrev histZ : HistS := (fun _ => dataZ, 0, 0)
abbrev mainZ : MainS := (dataZ, dataZ, dataZ, 0, histZ, cmdZ, outZ, -1, 0, 0, 0)
