/-! ===== my own layer, 2: writers, fields, rows of ints ===== -/
theorem pq_adr {A : Nat → Prop} {ws ws' : va_W} (hD : va_D A ws) (h : ws'.map (fun q => q.1) = ws.map (fun q => q.1)) : va_D A ws' := by
  have key : ∀ (k : Nat) (q : Nat × va_E), ws'[k]? = some q → ∃ q0, ws[k]? = some q0 ∧ q0.1 = q.1 := by
    intro k q hk
    have h1 : (ws.map (fun q => q.1))[k]? = some q.1 := by rw [← h, List.getElem?_map, hk]; rfl
    rw [List.getElem?_map] at h1
    cases hq : ws[k]? with
    | none => rw [hq] at h1; cases h1
    | some q0 => rw [hq] at h1; exact ⟨q0, rfl, Option.some.inj h1⟩
  refine ⟨fun i j x y hi hj hxy => ?_, fun k q hk => ?_⟩
  · obtain ⟨x0, h1, h2⟩ := key i x hi
    obtain ⟨y0, h3, h4⟩ := key j y hj
    exact hD.1 i j x0 y0 h1 h3 (h2.trans (hxy.trans h4.symm))
  · obtain ⟨q0, h1, h2⟩ := key k q hk
    rw [← h2]
    exact hD.2 k q0 h1
theorem pq_pair {α β : Type} {a c : α} {b d : β} (h : some (a, b) = some (c, d)) : a = c ∧ b = d := Prod.mk.inj (Option.some.inj h)
theorem pq_nb {v : Int32} (h : v = 0 ∨ v = 1) : narrow .boolean (.int v) = .int v := by rcases h with rfl | rfl <;> rfl
abbrev pq_sh (a : Nat → Nat) (o : Nat) : Nat → Nat := fun k => a (k + o)
theorem pq_Asub {ws wc : va_W} {sz : Nat} (is : List Nat) (h : is.map (fun i => ws[i]?) = wc.map some) {q : Nat} (hq : va_A wc sz q) : va_A ws sz q := by
  rcases hq with ⟨k, e, h1⟩ | h1
  · have h2 : (is.map (fun i => ws[i]?))[k]? = some (some (q, e)) := by rw [h, List.getElem?_map, h1]; rfl
    rw [List.getElem?_map] at h2
    cases hi : is[k]? with
    | none => rw [hi] at h2; cases h2
    | some i => rw [hi] at h2; exact Or.inl ⟨i, e, Option.some.inj h2⟩
  · exact Or.inr h1
theorem pq_join {A0 : Nat → Prop} {D : va_G} {cl : List vw_C} {ws wc wr w1 : va_W} {H H1 : Heap} (hP : va_P D cl ws H) (hD : va_D A0 ws) (isC isR : List Nat) (hC : isC.map (fun i => ws[i]?) = wc.map some) (hR : isR.map (fun i => ws[i]?) = wr.map some) (hdis : isR.all (fun i => !(isC.contains i)) = true)
    (hk : ∀ q : Nat, q < H.size → ¬ va_A wc H.size q → H1[q]? = H[q]?) (hP1 : va_P D cl w1 H1) : va_P D cl (wr ++ w1) H1 := by
  have at' : ∀ {is : List Nat} {w : va_W}, is.map (fun i => ws[i]?) = w.map some → ∀ (k : Nat) (q : Nat × va_E), w[k]? = some q → ∃ i, is[k]? = some i ∧ ws[i]? = some q := by
    intro is w hs k q hq
    have h1 : (is.map (fun i => ws[i]?))[k]? = some (some q) := by rw [hs, List.getElem?_map, hq]; rfl
    rw [List.getElem?_map] at h1
    cases hi : is[k]? with
    | none => rw [hi] at h1; cases h1
    | some i => rw [hi] at h1; exact ⟨i, rfl, Option.some.inj h1⟩
  refine va_P.app (fun k q hq => ?_) hP1
  obtain ⟨i, h1, h2⟩ := at' hR k q hq
  have hl := (hP i q h2).lt
  refine (hP i q h2).kept (hk q.1 hl (fun h => ?_))
  rcases h with ⟨k2, e, h⟩ | h
  · obtain ⟨j, h3, h4⟩ := at' hC k2 (q.1, e) h
    have hij := hD.1 i j q (q.1, e) h2 h4 rfl
    subst hij
    have h5 := List.all_eq_true.mp hdis i (List.mem_of_getElem? h1)
    have h6 : isC.contains i = true := List.contains_iff_mem.mpr (List.mem_of_getElem? h3)
    rw [h6] at h5
    cases h5
  · omega
/-! a method that writes its world: its answer is r, its world is ws' then -/
def pq_Mi (l : Launch) (y : MethodName) (cc : ByteArray) (nL : Nat) (ty : FieldType) (k : Nat) (g : pq_g) (ws : va_W) (vs : List Value) (r : Int32) (ws' : va_W) : Prop :=
  ∀ sz : Nat, Met l y (Cond.code y cc nL (some ty) :: pq_G) (pq_rm k 0 0) (va_Pc vs (fun U => U.heap.size = sz ∧ va_P g.1 pq_cl ws U.heap ∧ pq_K g U ∧ va_D (fun _ => True) ws)) (va_Qi (fun x (_ : Unit) => x = r) (fun _ t => va_P g.1 pq_cl ws' t.heap) (va_A ws sz)) 0 0 (va_A ws sz)
def pq_Mv (l : Launch) (y : MethodName) (cc : ByteArray) (nL : Nat) (k : Nat) (g : pq_g) (ws : va_W) (vs : List Value) (ws' : va_W) : Prop :=
  ∀ sz : Nat, Met l y (Cond.code y cc nL none :: pq_G) (pq_rm k 0 0) (va_Pc vs (fun U => U.heap.size = sz ∧ va_P g.1 pq_cl ws U.heap ∧ pq_K g U ∧ va_D (fun _ => True) ws)) (va_Qv (fun (_ : Unit) => True) (fun _ t => va_P g.1 pq_cl ws' t.heap) (va_A ws sz)) 0 0 (va_A ws sz)
theorem pq_Mi.of {l : Launch} {y : MethodName} {cc : ByteArray} {nL : Nat} {ty : FieldType} {k : Nat} {g : pq_g} {ws ws' : va_W} {vs : List Value} {r : Int32} {own : String} {lv : List (Nat × Value)} (hy : plainName y.cls = true) (ho : y.cls = own) (hn : (lg_sl vs).length ≤ nL) (hlv : lv_args 0 vs = lv)
    (body : ∀ (p : Program) (e : Env) (s : State) (m : MethodId) (below : List Frame) (meth : Method) (c : Code) (ls : Array Slot) (Q : State → Prop) (A : Nat → Prop), CallFix p m c cc nL s vs.toArray pq_G own → va_P g.1 pq_cl ws s.heap → pq_K g s → va_D A ws → va_S A s.heap s.heap [] → (∀ q : Nat, s.heap.size ≤ q → A q) → lv_has ls nL lv →
      (∀ (pc : Nat) (ls : Array Slot) (v : Int32) (H : Heap) (locs : List Loc), decode cc pc = .ok (.ireturn, 1) → narrow ty (.int v) = .int v → v = r → va_P g.1 pq_cl ws' H → va_S A s.heap H locs → W p l e (pq_rm k 0 0) s m vs.toArray below meth c H locs 0 0 Q (F0 m pc ls [.int v])) →
      W p l e (pq_rm k 0 0) s m vs.toArray below meth c s.heap [] 0 0 Q (F0 m 0 ls [])) : pq_Mi l y cc nL ty k g ws vs r ws' := by
  intro sz
  refine Met.ofW (cc := cc) (maxL := nL) (ret := some ty) hy rfl ?_
  intro p e s m args below meth c s₁ B hml hv
  obtain ⟨rfl, hsz, hP, hK, hD0⟩ := hv
  subst hsz
  have hts := atoms_spec (ws := Cond.code y cc nL (some ty) :: pq_G) B.pre
  have hown : s.vm.findClass own = some m.cls := by rw [← ho]; exact findClass_of_methodNamed B.named
  have hl := lv_entry vs hn
  rw [lg_entry_eq]
  generalize (lg_sl vs ++ List.replicate (nL - (lg_sl vs).length) Slot.unset).toArray = ls at hl ⊢
  rw [hlv] at hl
  refine body p e s m below meth c ls _ (va_A ws s.heap.size) ⟨B.exec, B.bytes, hml, hown, fun w h => hts w (List.mem_cons_of_mem _ h)⟩ hP hK hD0.self va_S.rf (fun q h => Or.inr h) hl ?_
  intro pc ls v H locs hdg hnar hvr hP1 hS
  exact W.zret B.exec B.bytes B.returns hnar (fun t ht hW => ⟨⟨v, (), rfl, hvr, by show va_P g.1 pq_cl ws' t.heap; rw [ht]; exact hP1⟩, hS.F ht⟩) hS.2.2 hdg B.notSynchronized
theorem pq_Mv.of {l : Launch} {y : MethodName} {cc : ByteArray} {nL : Nat} {k : Nat} {g : pq_g} {ws ws' : va_W} {vs : List Value} {own : String} {lv : List (Nat × Value)} (hy : plainName y.cls = true) (ho : y.cls = own) (hn : (lg_sl vs).length ≤ nL) (hlv : lv_args 0 vs = lv)
    (body : ∀ (p : Program) (e : Env) (s : State) (m : MethodId) (below : List Frame) (meth : Method) (c : Code) (ls : Array Slot) (Q : State → Prop) (A : Nat → Prop), CallFix p m c cc nL s vs.toArray pq_G own → va_P g.1 pq_cl ws s.heap → pq_K g s → va_D A ws → va_S A s.heap s.heap [] → (∀ q : Nat, s.heap.size ≤ q → A q) → lv_has ls nL lv →
      (∀ (pc : Nat) (ls : Array Slot) (H : Heap) (locs : List Loc), decode cc pc = .ok (.return_, 1) → va_P g.1 pq_cl ws' H → va_S A s.heap H locs → W p l e (pq_rm k 0 0) s m vs.toArray below meth c H locs 0 0 Q (F0 m pc ls [])) →
      W p l e (pq_rm k 0 0) s m vs.toArray below meth c s.heap [] 0 0 Q (F0 m 0 ls [])) : pq_Mv l y cc nL k g ws vs ws' := by
  intro sz
  refine Met.ofW (cc := cc) (maxL := nL) (ret := none) hy rfl ?_
  intro p e s m args below meth c s₁ B hml hv
  obtain ⟨rfl, hsz, hP, hK, hD0⟩ := hv
  subst hsz
  have hts := atoms_spec (ws := Cond.code y cc nL none :: pq_G) B.pre
  have hown : s.vm.findClass own = some m.cls := by rw [← ho]; exact findClass_of_methodNamed B.named
  have hl := lv_entry vs hn
  rw [lg_entry_eq]
  generalize (lg_sl vs ++ List.replicate (nL - (lg_sl vs).length) Slot.unset).toArray = ls at hl ⊢
  rw [hlv] at hl
  refine body p e s m below meth c ls _ (va_A ws s.heap.size) ⟨B.exec, B.bytes, hml, hown, fun w h => hts w (List.mem_cons_of_mem _ h)⟩ hP hK hD0.self va_S.rf (fun q h => Or.inr h) hl ?_
  intro pc ls H locs hdg hP1 hS
  exact W.vret B.exec B.bytes B.returns (fun t ht hW => ⟨⟨(), rfl, trivial, by show va_P g.1 pq_cl ws' t.heap; rw [ht]; exact hP1⟩, hS.F ht⟩) hS.2.2 hdg B.notSynchronized
theorem pq_blindM {g : pq_g} {ws : va_W} {vs : List Value} {sz : Nat} : FrameBlind (va_Pc vs (fun U => U.heap.size = sz ∧ va_P g.1 pq_cl ws U.heap ∧ pq_K g U ∧ va_D (fun _ => True) ws)) := fun _ _ _ _ q => ⟨q.1, q.2.1, q.2.2.1, q.2.2.2.1.call, q.2.2.2.2⟩
theorem pq_Afree {A : Nat → Prop} {ws : va_W} {H0 H : Heap} {locs : List Loc} (hD : va_D A ws) (hS : va_S A H0 H locs) (hA : ∀ q : Nat, H0.size ≤ q → A q) : ∀ q, va_A ws H.size q → A q := by
  rintro q (⟨k, e, h⟩ | h)
  · exact hD.2 k (q, e) h
  · exact hA q (Nat.le_trans hS.1 h)
section PQM
variable {p : Program} {l : Launch} {e : Env} {s : State} {m : MethodId} {args : Array Value} {below : List Frame} {meth : Method} {c : Code} {H H0 : Heap} {locs : List Loc} {cells slots : Nat} {Q : State → Prop} {A : Nat → Prop}
variable {cc bytes : ByteArray} {own host C : String} {idx nL maxL n k K mc ms : Nat} {y : MethodName} {g : pq_g} {ws ws' WS : va_W} {a b : Nat} {As rest : List Value} {r : Int32} {ty : FieldType} {pc : Nat} {ls : Array Slot} {st : List Value} {R : Room}
theorem pq_cVi (S : CallFix p m c cc nL s args pq_G own) (hM : pq_Mi l y bytes maxL ty k g ws (.ref b :: As) r ws') (w : pq_Vw own idx C y bytes maxL (some ty) n) (hK : pq_K g s) (hP : va_P g.1 pq_cl ws H) (hD : va_D A ws) (hS : va_S A H0 H locs) (hA : ∀ q : Nat, H0.size ≤ q → A q) {ci : Nat} {fs : List Value} {q : vw_C} (hb : ws[0]? = some (b, .inr (ci, fs))) (hc : pq_cl[ci]? = some q) (hC : q.1 = C) (hst : st = As.reverse ++ .ref b :: rest) (hn : As.length = n) (hls : ls.size = nL) (hr : (rest.map fun v => v.category).sum ≤ 8) (hdg : decode cc pc = .ok (.invokevirtual idx, 3)) (hk : k < K) (hL : maxL ≤ 45) (hf : cells ≤ mc ∧ slots ≤ ms)
    (kk : ∀ (H1 : Heap) (locs1 : List Loc), (∀ q : Nat, q < H.size → ¬ va_A ws H.size q → H1[q]? = H[q]?) → va_P g.1 pq_cl ws' H1 → va_S A H0 H1 locs1 → W p l e (pq_rm K mc ms) s m args below meth c H1 locs1 cells slots Q (F0 m (pc + 3) ls (.int r :: rest))) : W p l e (pq_rm K mc ms) s m args below meth c H locs cells slots Q (F0 m pc ls st) := by
  subst hC
  refine va_calli (va_runV S (hM H.size) (pq_cwV S w hk hL) ⟨pq_blindM, va_recv hK.1 hP hc hb, fun U hU hW => ⟨rfl, by rw [hU], by rw [hU]; exact hP, hK.warm hW, hD.weaken (fun _ _ _ _ => trivial)⟩⟩ rfl hn hls hst (lv_room hr) hdg hf) hS (fun q _ h => pq_Afree hD hS hA q h) (pq_Afree hD hS hA) ?_
  rintro _ _ t H1 locs1 ht - rfl hB - hk1 hS1
  exact kk H1 locs1 hk1 (by rw [← ht]; exact hB) hS1
theorem pq_cVv (S : CallFix p m c cc nL s args pq_G own) (hM : pq_Mv l y bytes maxL k g ws (.ref b :: As) ws') (w : pq_Vw own idx C y bytes maxL none n) (hK : pq_K g s) (hP : va_P g.1 pq_cl ws H) (hD : va_D A ws) (hS : va_S A H0 H locs) (hA : ∀ q : Nat, H0.size ≤ q → A q) {ci : Nat} {fs : List Value} {q : vw_C} (hb : ws[0]? = some (b, .inr (ci, fs))) (hc : pq_cl[ci]? = some q) (hC : q.1 = C) (hst : st = As.reverse ++ .ref b :: rest) (hn : As.length = n) (hls : ls.size = nL) (hr : (rest.map fun v => v.category).sum ≤ 8) (hdg : decode cc pc = .ok (.invokevirtual idx, 3)) (hk : k < K) (hL : maxL ≤ 45) (hf : cells ≤ mc ∧ slots ≤ ms)
    (kk : ∀ (H1 : Heap) (locs1 : List Loc), (∀ q : Nat, q < H.size → ¬ va_A ws H.size q → H1[q]? = H[q]?) → va_P g.1 pq_cl ws' H1 → va_S A H0 H1 locs1 → W p l e (pq_rm K mc ms) s m args below meth c H1 locs1 cells slots Q (F0 m (pc + 3) ls rest)) : W p l e (pq_rm K mc ms) s m args below meth c H locs cells slots Q (F0 m pc ls st) := by
  subst hC
  refine va_callv (va_runV S (hM H.size) (pq_cwV S w hk hL) ⟨pq_blindM, va_recv hK.1 hP hc hb, fun U hU hW => ⟨rfl, by rw [hU], by rw [hU]; exact hP, hK.warm hW, hD.weaken (fun _ _ _ _ => trivial)⟩⟩ rfl hn hls hst (lv_room hr) hdg hf) hS (fun q _ h => pq_Afree hD hS hA q h) (pq_Afree hD hS hA) ?_
  rintro _ t H1 locs1 ht - - hB - hk1 hS1
  exact kk H1 locs1 hk1 (by rw [← ht]; exact hB) hS1
theorem pq_cNv (S : CallFix p m c cc nL s args pq_G own) (hM : pq_Mv l y bytes maxL k g ws As ws') (w : pq_Nw own idx y host bytes maxL none n) (hK : pq_K g s) (hP : va_P g.1 pq_cl ws H) (hD : va_D A ws) (hS : va_S A H0 H locs) (hA : ∀ q : Nat, H0.size ≤ q → A q) (hst : st = As.reverse ++ rest) (hn : As.length = n) (hls : ls.size = nL) (hr : (rest.map fun v => v.category).sum ≤ 8) (hdg : decode cc pc = .ok (.invokestatic idx, 3)) (hk : k < K) (hL : maxL ≤ 45) (hf : cells ≤ mc ∧ slots ≤ ms)
    (kk : ∀ (H1 : Heap) (locs1 : List Loc), (∀ q : Nat, q < H.size → ¬ va_A ws H.size q → H1[q]? = H[q]?) → va_P g.1 pq_cl ws' H1 → va_S A H0 H1 locs1 → W p l e (pq_rm K mc ms) s m args below meth c H1 locs1 cells slots Q (F0 m (pc + 3) ls rest)) : W p l e (pq_rm K mc ms) s m args below meth c H locs cells slots Q (F0 m pc ls st) := by
  refine va_callv (va_runSN S (hM H.size) (pq_cwN S w hK hk hL) ⟨pq_blindM, fun U hU hW => ⟨rfl, by rw [hU], by rw [hU]; exact hP, hK.warm hW, hD.weaken (fun _ _ _ _ => trivial)⟩⟩ rfl hn hls hst (lv_room hr) hdg hf) hS (fun q _ h => pq_Afree hD hS hA q h) (pq_Afree hD hS hA) ?_
  rintro _ t H1 locs1 ht - - hB - hk1 hS1
  exact kk H1 locs1 hk1 (by rw [← ht]; exact hB) hS1
/-- at(row, index) called from a nest mate -/
theorem pq_at (S : CallFix p m c cc nL s args pq_G own) (w : pq_Nw own idx yX6_at "PrioritySearchTree" cX6_at 2 (some .int) 2) (hK : pq_K g s) (hP : va_P g.1 pq_cl WS H) (q0 : Nat) {f : Nat → Int32} {i : Int32} (ha : WS[q0]? = some (a, .inl (g.2 0, n, .inl f))) (hn : n < 2 ^ 31) (hls : ls.size = nL) (hr : (rest.map fun v => v.category).sum ≤ 8) (hdg : decode cc pc = .ok (.invokestatic idx, 3)) (hk : 1 < K) (hf : cells ≤ mc ∧ slots ≤ ms)
    (kk : W p l e (pq_rm K mc ms) s m args below meth c H locs cells slots Q (F0 m (pc + 3) ls (.int (pq_rd n f i) :: rest))) : W p l e (pq_rm K mc ms) s m args below meth c H locs cells slots Q (F0 m pc ls (.int i :: .ref a :: rest)) :=
  pq_cN S (pq_at_ok l g a n f i hn) w hK (hP.sub [q0] (by simp [ha])) rfl rfl hls hr hdg hk (by decide) hf kk
theorem pq_get (S : CallFix p m c cc nL s args pq_G own) (hK : pq_K g s) (hP : va_P g.1 pq_cl WS H) {T : u_T} {N ci : Nat} (hin : ∀ w ∈ u_ws C T N, w ∈ pq_G) (q0 : Nat) {fs : List Value} (he : WS[q0]? = some (a, .inr (ci, fs))) (hc : pq_cl[ci]? = some (C, T, N)) (k : Nat) (hk : k < N) (hl : Cond.fieldLink own idx C (T k).2.1 (T k).2.2.1 ∈ pq_G) (hs : (T k).1 = C) {v : Value} (hv : fs[k]? = some v) (hdg : decode cc pc = .ok (.getfield idx, 3))
    (kk : W p l e R s m args below meth c H locs cells slots Q (F0 m (pc + 3) ls (v :: rest))) : W p l e R s m args below meth c H locs cells slots Q (F0 m pc ls (.ref a :: rest)) :=
  va_get S.1 S.2.1 S.2.2.2.2 hin S.2.2.2.1 hK.1 hP q0 he hc k hk (S.2.2.2.2 _ hl) (fun x h => by rw [hs] at h; exact h) hv hdg kk
theorem pq_getN (S : CallFix p m c cc nL s args pq_G own) (hK : pq_K g s) (hP : va_P g.1 pq_cl WS H) {T : u_T} {N ci : Nat} (hin : ∀ w ∈ u_ws C T N, w ∈ pq_G) (q0 : Nat) {fs : List Value} (he : WS[q0]? = some (a, .inr (ci, fs))) (hc : pq_cl[ci]? = some (C, T, N)) (k : Nat) (hk : k < N) (hl : (own, idx, C, (T k).2.1, (T k).2.2.1, host) ∈ pq_NF) (hs : (T k).1 = C) {v : Value} (hv : fs[k]? = some v) (hdg : decode cc pc = .ok (.getfield idx, 3))
    (kk : W p l e R s m args below meth c H locs cells slots Q (F0 m (pc + 3) ls (v :: rest))) : W p l e R s m args below meth c H locs cells slots Q (F0 m pc ls (.ref a :: rest)) :=
  va_getN S.1 S.2.1 S.2.2.2.2 hin S.2.2.2.1 hK.1 hP q0 he hc k hk ((hK.2.2 _ hl).use rfl) (fun x h => by rw [hs] at h; exact h) hv hdg kk
end PQM
set_option maxHeartbeats 4000000 in
set_option maxRecDepth 100000 in
/-- put(row, index, value) -/
theorem pq_put_ok (l : Launch) (g : pq_g) (a n : Nat) (f : Nat → Int32) (i v : Int32) (hn : n < 2 ^ 31) : pq_Mv l yX6_put cX6_put 3 1 g [(a, .inl (g.2 0, n, .inl f))] [.ref a, .int i, .int v] [(a, .inl (g.2 0, n, .inl (pq_wr n f i v)))] := by
  refine pq_Mv.of (own := RX6) (by decide) rfl (Nat.le_of_ble_eq_true rfl) rfl ?_
  intro p e s m below meth c ls Q A S hP hK hD hS hA hl hend
  obtain ⟨hx, hb, hml, hown, hts⟩ := id S
  refine lv_aload_n hx hb dX6_put_0 rfl (lv_at hl 0 rfl) ?_
  refine lv_ifnull hx hb dX6_put_1 ?_
  refine lv_iload_n hx hb dX6_put_4 rfl (lv_at hl 1 rfl) ?_
  refine lv_if_lt (tgt := 18) hx hb dX6_put_5 (by decide) (fun h1 => ?_) (fun h1 => ?_)
  · exact hend _ _ _ _ dX6_put_18 (by rw [pq_wr, if_pos h1]; exact hP) hS
  · refine lv_iload_n hx hb dX6_put_8 rfl (lv_at hl 1 rfl) ?_
    refine lv_aload_n hx hb dX6_put_9 rfl (lv_at hl 0 rfl) ?_
    refine va_alen (v := nI n) hx hb hK.1 hP 0 0 rfl rfl rfl dX6_put_10 ?_
    refine lv_icmp_ge (tgt := 18) hx hb dX6_put_11 (by decide) (fun h2 => ?_) (fun h2 => ?_)
    · exact hend _ _ _ _ dX6_put_18 (by rw [pq_wr, if_neg h1, if_pos h2]; exact hP) hS
    · refine lv_aload_n hx hb dX6_put_14 rfl (lv_at hl 0 rfl) ?_
      refine lv_iload_n hx hb dX6_put_15 rfl (lv_at hl 1 rfl) ?_
      refine lv_iload_n hx hb dX6_put_16 rfl (lv_at hl 2 rfl) ?_
      refine va_iast hx hb hK.1 hP hD hS 0 0 rfl rfl (pq_vp hn h1 h2) dX6_put_17 (fun H locs hP hD hS => ?_)
      exact hend _ _ _ _ dX6_put_18 (by rw [pq_wr, if_neg h1, if_neg h2]; exact hP) hS
