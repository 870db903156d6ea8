/-! ===== the law's own methods: contracts, calls ===== -/
/-- what stays in the law: what a throw needs, the texts, the script (of L ints xs, at sb) -/
def lI (ad av : Nat → Nat) (TX : tx_L) (sb L : Nat) (xs : Nat → Int32) (A : Nat → Prop) (U : State) (H : Heap) : Prop := (pq_T A U H ∧ pq_L U) ∧ sI ad av TX A U H ∧ va_T .int sb L (fun j => .int (xs j)) A U H
theorem lI.go {ad av : Nat → Nat} {TX : tx_L} {sb L : Nat} {xs : Nat → Int32} {A B : Nat → Prop} {s U : State} {H : Heap} (h : lI ad av TX sb L xs A s s.heap) (hk : ∀ q : Nat, q < s.heap.size → ¬ A q → H[q]? = s.heap[q]?) (hW : s.WarmedH U.vm) (hB : ∀ q, B q → A q) : lI ad av TX sb L xs B U H := ⟨⟨h.1.1.go hk hW hB, h.1.2.go hW⟩, h.2.1.go hk hW hB, va_T.moved hW.alike ((h.2.2.kept hk).narrow hB)⟩
theorem lI.call {ad av : Nat → Nat} {TX : tx_L} {sb L : Nat} {xs : Nat → Int32} {A : Nat → Prop} {U : State} {f : JFrame} {mk : MethodId} {a : Array Value} (h : lI ad av TX sb L xs A U U.heap) : lI ad av TX sb L xs A (U.calling f mk a) (U.calling f mk a).heap := ⟨⟨h.1.1.call, h.1.2.call⟩, h.2.1.call, va_T.moved (u := U) (U := U.calling f mk a) (Vm.Alike.refl U.vm) h.2.2⟩
theorem lI.at {ad av : Nat → Nat} {TX TY : tx_L} {sb L : Nat} {xs : Nat → Int32} {A B : Nat → Prop} {s : State} {H : Heap} {locs : List Loc} (hE : lI ad av TX sb L xs A s s.heap) (hS : va_S A s.heap H locs) (hB : ∀ q, B q → A q) (hs : ∀ q ∈ TY, q ∈ TX) : ∀ U : State, U.heap = H → s.WarmedH U.vm → lI ad av TY sb L xs B U U.heap := fun U hU hW => by
  rw [hU]
  have h := hE.go hS.2.1 hW hB
  exact ⟨h.1, h.2.1.sub hs, h.2.2⟩
/-- a method of the JDK's: what it answers, and what its world is then, in one word 'post answer (the heap's size at its start) (the heap at its end)' -/
def lM (l : Launch) (y : MethodName) (cc : ByteArray) (nL : Nat) (ret : Option FieldType) (k mc ms : Nat) (g : pq_g) (ad av : Nat → Nat) (TX : tx_L) (sb L : Nat) (xs : Nat → Int32) (ws : va_W) (vs : List Value) (post : Option Value → Nat → Heap → Prop) : Prop :=
  ∀ sz : Nat, Met l y (Cond.code y cc nL ret :: pq_G) (pq_rm k mc ms) (va_Pc vs (fun U => U.heap.size = sz ∧ va_P g.1 pq_cl ws U.heap ∧ pq_K g U ∧ va_D (fun _ => True) ws ∧ lI ad av TX sb L xs (va_A ws sz) U U.heap)) (fun _ st oc t => (∃ v, oc = .returned v ∧ post v sz t.heap) ∧ va_F (va_A ws sz) st t) mc ms (va_A ws sz)
theorem lM.of {l : Launch} {y : MethodName} {cc : ByteArray} {nL : Nat} {ret : Option FieldType} {k mc ms : Nat} {g : pq_g} {ad av : Nat → Nat} {TX : tx_L} {sb L : Nat} {xs : Nat → Int32} {ws : va_W} {vs : List Value} {post : Option Value → Nat → Heap → Prop} {own : String} {lv : List (Nat × Value)} (hy : plainName y.cls = true) (ho : y.cls = own) (hn : (lg_sl vs).length ≤ nL) (hlv : lv_args 0 vs = lv)
    (body : ∀ (p : Program) (e : Env) (s : State) (m : MethodId) (below : List Frame) (meth : Method) (c : Code) (ls : Array Slot) (Q : State → Prop) (A : Nat → Prop), CallFix p m c cc nL s vs.toArray pq_G own → meth.name = y.name → va_P g.1 pq_cl ws s.heap → pq_K g s → va_D A ws → va_S A s.heap s.heap [] → (∀ q : Nat, s.heap.size ≤ q → A q) → (∀ q : Nat, A q → va_A ws s.heap.size q) → lI ad av TX sb L xs A s s.heap → lv_has ls nL lv →
      (∀ (pc : Nat) (ls : Array Slot) (st : List Value) (v : Option Value) (H : Heap) (locs : List Loc) (cells slots : Nat), sRet cc pc ret st v → post v s.heap.size H → va_S A s.heap H locs → cells ≤ mc → slots ≤ ms → W p l e (pq_rm k mc ms) s m vs.toArray below meth c H locs cells slots Q (F0 m pc ls st)) →
      W p l e (pq_rm k mc ms) s m vs.toArray below meth c s.heap [] 0 0 Q (F0 m 0 ls [])) : lM l y cc nL ret k mc ms g ad av TX sb L xs ws vs post := by
  intro sz
  refine Met.ofW (cc := cc) (maxL := nL) (ret := ret) hy rfl ?_
  intro p e s m args below meth c s₁ B hml hv
  obtain ⟨rfl, hsz, hP, hK, hD0, hI⟩ := hv
  subst hsz
  have hts := atoms_spec (ws := Cond.code y cc nL ret :: pq_G) B.pre
  have hown : s.vm.findClass own = some m.cls := by rw [← ho]; exact findClass_of_methodNamed B.named
  have hin : meth.name = y.name := (name_of_methodNamed B.named B.method).1
  have hlocks := B.notSynchronized
  have hl := lv_entry vs hn
  rw [lg_entry_eq]
  generalize (lg_sl vs ++ List.replicate (nL - (lg_sl vs).length) Slot.unset).toArray = ls at hl ⊢
  rw [hlv] at hl
  refine body p e s m below meth c ls _ (va_A ws s.heap.size) ⟨B.exec, B.bytes, hml, hown, fun w h => hts w (List.mem_cons_of_mem _ h)⟩ hin hP hK hD0.self va_S.rf (fun q h => Or.inr h) (fun q h => h) hI hl ?_
  intro pc ls st v H locs cells slots hret hpost hS hc hs
  refine W.widen hc hs ?_
  have hq : ∀ t : State, t.heap = H → s.WarmedH t.vm → (∃ v', Outcome.returned v = .returned v' ∧ post v' s.heap.size t.heap) ∧ va_F (va_A ws s.heap.size) s t := fun t ht hW => ⟨⟨v, rfl, by rw [ht]; exact hpost⟩, hS.F ht⟩
  rcases hret with ⟨x, ty, h1, h2, h3, rfl, rfl⟩ | ⟨h1, h3, rfl, rfl⟩ | ⟨a, ty, h1, h2, h3, rfl, rfl⟩
  · exact W.zret B.exec B.bytes (B.returns.trans h1) h2 hq hS.2.2 h3 hlocks
  · exact W.vret B.exec B.bytes (B.returns.trans h1) hq hS.2.2 h3 hlocks
  · exact W.aret B.exec B.bytes (B.returns.trans h1) h2 (Or.inr ⟨a, rfl⟩) hq hS.2.2 h3 hlocks
theorem lblind {g : pq_g} {ad av : Nat → Nat} {TX : tx_L} {sb L : Nat} {xs : Nat → Int32} {ws : va_W} {vs : List Value} {sz : Nat} : FrameBlind (va_Pc vs (fun U => U.heap.size = sz ∧ va_P g.1 pq_cl ws U.heap ∧ pq_K g U ∧ va_D (fun _ => True) ws ∧ lI ad av TX sb L xs (va_A ws sz) U U.heap)) := fun _ _ _ _ q => ⟨q.1, q.2.1, q.2.2.1, q.2.2.2.1.call, q.2.2.2.2.1, q.2.2.2.2.2.call⟩
section LJ
variable {p : Program} {l : Launch} {e : Env} {s : State} {m : MethodId} {args : Array Value} {below : List Frame} {meth : Method} {c : Code} {H H0 : Heap} {locs : List Loc} {cells slots : Nat} {Q : State → Prop} {A : Nat → Prop}
variable {cc bytes : ByteArray} {own C : String} {idx nL maxL n k n1 s1 n9 : Nat} {y : MethodName} {g : pq_g} {ad av : Nat → Nat} {TX : tx_L} {sb L : Nat} {xs : Nat → Int32} {ws ws' E : va_W} {a : Nat → Nat} {b : Nat} {T T1 : MainS} {As rest : List Value} {ret : Option FieldType} {pc : Nat} {ls : Array Slot} {st : List Value} {R : Room} {post1 : Option Value → Nat → Heap → Prop}
/-- a static method of the law -/
theorem lS (S : CallFix p m c cc nL s args pq_G own) (hM : lM l y bytes maxL ret k n1 s1 g ad av TX sb L xs ws As post1) (w : pq_Sw own idx y bytes maxL ret n) (hK : pq_K g s) (hI : ∀ U : State, U.heap = H → s.WarmedH U.vm → lI ad av TX sb L xs (va_A ws H.size) U U.heap) (hP : va_P g.1 pq_cl ws H) (hD : va_D A ws) (hS : va_S A H0 H locs) (hA : ∀ q : Nat, H0.size ≤ q → A q) (hst : st = As.reverse ++ rest) (hn : As.length = n) (hls : ls.size = nL) (hr : (rest.map fun v => v.category).sum ≤ 8) (hdg : decode cc pc = .ok (.invokestatic idx, 3)) (hR : k + 1 ≤ R.frames ∧ 8 + (maxL + 11) + 64 * k ≤ R.locals) (hf : cells + n1 ≤ R.cells ∧ slots + s1 ≤ R.slots)
    (kk : ∀ (v : Option Value) (H1 : Heap) (locs1 : List Loc), post1 v H.size H1 → H.size ≤ H1.size → (∀ q : Nat, q < H.size → ¬ va_A ws H.size q → H1[q]? = H[q]?) → va_S A H0 H1 locs1 → W p l e R s m args below meth c H1 locs1 (cells + n1) (slots + s1) Q (F0 m (pc + 3) ls (v.toList ++ rest))) : W p l e R s m args below meth c H locs cells slots Q (F0 m pc ls st) :=
  sCall (va_runS S (hM H.size) (pq_cwSR S w hR) ⟨lblind, fun U hU hW => ⟨rfl, by rw [hU], by rw [hU]; exact hP, hK.warm hW, hD.weaken (fun _ _ _ _ => trivial), hI U hU hW⟩⟩ rfl hn hls hst (lv_room hr) hdg hf) hS (fun q _ h => pq_Afree hD hS hA q h) (pq_Afree hD hS hA) kk
/-- what a call on the object leaves of the world -/
theorem lw_keep {H1 : Heap} (hP : va_P g.1 pq_cl (mainW g a T ++ E) H) (hD : va_D A (mainW g a T ++ E)) (hk : ∀ q : Nat, q < H.size → ¬ va_A (mainW g a T) H.size q → H1[q]? = H[q]?) (h1 : va_P g.1 pq_cl (mainW g a T1) H1) : va_P g.1 pq_cl (mainW g a T1 ++ E) H1 ∧ va_D A (mainW g a T1 ++ E) :=
  ⟨va_P.app h1 (pq_kp (pq_P2 hP) (pq_aps (pq_Dx hD)) hk), pq_adr hD (ad_app (ad_X6 _ _) rfl)⟩
/-- a call of the object that may throw, and doesn't -/
theorem lX (S : CallFix p m c cc nL s args pq_G own) {v : Option Value} (hM : pq_X l y bytes maxL ret k n9 g (mainW g a T) (.ref (a 0) :: As) (.inr v) (mainW g a T1)) (w : pq_Vw own idx RX6 y bytes maxL ret n) (hK : pq_K g s) (hT : pq_T A s s.heap) (hP : va_P g.1 pq_cl (mainW g a T ++ E) H) (hD : va_D A (mainW g a T ++ E)) (hS : va_S A s.heap H locs) (hA : ∀ q : Nat, s.heap.size ≤ q → A q) (hst : st = As.reverse ++ .ref (a 0) :: rest) (hn : As.length = n) (hls : ls.size = nL) (hr : (rest.map fun v => v.category).sum ≤ 8) (hdg : decode cc pc = .ok (.invokevirtual idx, 3)) (hR : k + 1 ≤ R.frames ∧ 8 + (maxL + 11) + 64 * k ≤ R.locals) (hf : cells + n9 ≤ R.cells ∧ slots + 6 * n9 ≤ R.slots)
    (kk : ∀ (H1 : Heap) (locs1 : List Loc), va_P g.1 pq_cl (mainW g a T1 ++ E) H1 → va_D A (mainW g a T1 ++ E) → H.size ≤ H1.size → va_S A s.heap H1 locs1 → W p l e R s m args below meth c H1 locs1 (cells + n9) (slots + 6 * n9) Q (F0 m (pc + 3) ls (v.toList ++ rest))) : W p l e R s m args below meth c H locs cells slots Q (F0 m pc ls st) := by
  intro T9 hT9 X
  rcases (vx_runV (l := l) (below := below) (meth := meth) (locs := locs) (cells := cells) (slots := slots) (g := F0 m pc ls st) (rest := rest) S (hM H.size) (pq_cwVR S w hR) ⟨pq_blindX, va_recv hK.1 (pq_P1 hP) (ci := 6) rfl (q0 := 0) rfl, fun U hU hW => ⟨rfl, by rw [hU], by rw [hU]; exact pq_P1 hP, hK.warm hW, (pq_D1 hD).weaken (fun _ _ _ _ => trivial), by rw [hU]; exact hT.go hS.2.1 hW (pq_Afree (pq_D1 hD) hS hA)⟩⟩ rfl hn hls hst (lv_room hr) hdg hf) T9 hT9 X with ⟨v9, st₀, t, T', L9, h0, X', hL, e1, e2, ⟨⟨v2, h1, h2, h3⟩, hF⟩, st9⟩ | ⟨q, st₀, t, T', L9, E9, ce, h0, X', hL, e1, e2, ⟨h1, h3, hF⟩, hce, hcv, hcl, st9⟩
  · cases h2
    cases h1
    obtain ⟨k1, k2, k3⟩ := vx_keep h0 e1 hS (fun q _ h => pq_Afree (pq_D1 hD) hS hA q h) (pq_Afree (pq_D1 hD) hS hA) hL hF
    obtain ⟨g1, g2⟩ := lw_keep hP hD k2 (by rw [e1]; exact h3)
    obtain ⟨t2, a1, b1⟩ := kk T'.heap (locs ++ L9) g1 g2 k1 k3 T' rfl X'
    exact ⟨t2, st9 t2 a1, b1⟩
  · cases h1
/-- a helper of the law -/
theorem lH (S : CallFix p m c cc nL s args pq_G own) {hh : List (Nat × Nat × Nat × Nat)} {r : Int32} (hM : pq_H l y bytes maxL hh k n9 g (mainW g a T) As r (mainW g a T1)) (w : pq_Hw own idx y bytes maxL hh n) (hK : pq_K g s) (hT : pq_T A s s.heap) (hL9 : pq_L s) (hP : va_P g.1 pq_cl (mainW g a T ++ E) H) (hD : va_D A (mainW g a T ++ E)) (hS : va_S A s.heap H locs) (hA : ∀ q : Nat, s.heap.size ≤ q → A q) (hst : st = As.reverse ++ rest) (hn : As.length = n) (hls : ls.size = nL) (hr : (rest.map fun v => v.category).sum ≤ 8) (hdg : decode cc pc = .ok (.invokestatic idx, 3)) (hR : k + 1 ≤ R.frames ∧ 8 + (maxL + 11) + 64 * k ≤ R.locals) (hf : cells + n9 ≤ R.cells ∧ slots + 6 * n9 ≤ R.slots)
    (kk : ∀ (H1 : Heap) (locs1 : List Loc), va_P g.1 pq_cl (mainW g a T1 ++ E) H1 → va_D A (mainW g a T1 ++ E) → H.size ≤ H1.size → va_S A s.heap H1 locs1 → W p l e R s m args below meth c H1 locs1 (cells + n9) (slots + 6 * n9) Q (F0 m (pc + 3) ls (.int r :: rest))) : W p l e R s m args below meth c H locs cells slots Q (F0 m pc ls st) := by
  have hz : ∀ H1 : Heap, (∀ q : Nat, q < H.size → ¬ va_A (mainW g a T) H.size q → H1[q]? = H[q]?) → True := fun _ _ => trivial
  obtain ⟨⟨h1, h2, h4, h5⟩, hd⟩ := w
  have ht := S.2.2.2.2
  have hG : GoodIn pq_G (Cond.codeWith y bytes maxL (some .int) hh :: pq_G) := pq_goodIn h5
  have cw : vx_CSW R s args own idx y bytes maxL (some .int) hh (Cond.codeWith y bytes maxL (some .int) hh :: pq_G) (pq_rm k n9 (6 * n9)) n9 (6 * n9) n := by
    refine ⟨⟨rfl, rfl, hR.1, hR.2, pay_in ht hG, List.mem_cons_self⟩, ht _ h5, ht _ h4, ⟨hd.1, hd.2.1⟩, fun sig h => ?_, ht _ h1, ht _ h2⟩
    have h3 := hd.2.2
    rw [h] at h3
    exact (Option.some.inj h3).symm
  have hr9 := vx_runSX (l := l) (e := e) (below := below) (meth := meth) (locs := locs) (cells := cells) (slots := slots) (g := F0 m pc ls st) (rest := rest) S (hM H.size) cw ⟨pq_blindH, fun U hU hW => ⟨rfl, by rw [hU], by rw [hU]; exact pq_P1 hP, hK.warm hW, (pq_D1 hD).weaken (fun _ _ _ _ => trivial), by rw [hU]; exact hT.go hS.2.1 hW (pq_Afree (pq_D1 hD) hS hA), hL9.go hW⟩⟩ rfl hn hls hst (lv_room hr) hdg hf
  intro T9 hT9 X
  rcases hr9 T9 hT9 X with ⟨v, st₀, t, T', L9, h0, X', hL, e1, e2, ⟨⟨v2, h1, h2, h3⟩, hF⟩, st9⟩ | ⟨q, st₀, t, T', L9, E9, ce, h0, X', hL, e1, e2, hF, _⟩
  · cases h2
    cases h1
    obtain ⟨k1, k2, k3⟩ := vx_keep h0 e1 hS (fun q _ h => pq_Afree (pq_D1 hD) hS hA q h) (pq_Afree (pq_D1 hD) hS hA) hL hF
    obtain ⟨g1, g2⟩ := lw_keep hP hD k2 (by rw [e1]; exact h3)
    obtain ⟨t2, a1, b1⟩ := kk T'.heap (locs ++ L9) g1 g2 k1 k3 T' rfl X'
    exact ⟨t2, st9 t2 a1, b1⟩
  · exact hF.elim
/-- a call of the object that reads -/
theorem lR (S : CallFix p m c cc nL s args pq_G own) {r : Int32} {ty : FieldType} (hM : pq_R l y bytes maxL ty k g (mainW g a T) (.ref (a 0) :: As) r) (w : pq_Vw own idx RX6 y bytes maxL (some ty) n) (hK : pq_K g s) (hP : va_P g.1 pq_cl (mainW g a T ++ E) H) (hst : st = As.reverse ++ .ref (a 0) :: rest) (hn : As.length = n) (hls : ls.size = nL) (hr : (rest.map fun v => v.category).sum ≤ 8) (hdg : decode cc pc = .ok (.invokevirtual idx, 3)) (hR : k + 1 ≤ R.frames ∧ 8 + (maxL + 11) + 64 * k ≤ R.locals) (hf : cells ≤ R.cells ∧ slots ≤ R.slots)
    (kk : W p l e R s m args below meth c H locs cells slots Q (F0 m (pc + 3) ls (.int r :: rest))) : W p l e R s m args below meth c H locs cells slots Q (F0 m pc ls st) :=
  pq_lV S hM w hK (pq_P1 hP) (ci := 6) rfl rfl rfl hst hn hls hr hdg hR hf kk
/-- a call of the object that writes, and answers -/
theorem lMi (S : CallFix p m c cc nL s args pq_G own) {r : Int32} {ty : FieldType} (hM : pq_Mi l y bytes maxL ty k g (mainW g a T) (.ref (a 0) :: As) r (mainW g a T1)) (w : pq_Vw own idx RX6 y bytes maxL (some ty) n) (hK : pq_K g s) (hP : va_P g.1 pq_cl (mainW g a T ++ E) H) (hD : va_D A (mainW g a T ++ E)) (hS : va_S A H0 H locs) (hA : ∀ q : Nat, H0.size ≤ q → A q) (hst : st = As.reverse ++ .ref (a 0) :: rest) (hn : As.length = n) (hls : ls.size = nL) (hr : (rest.map fun v => v.category).sum ≤ 8) (hdg : decode cc pc = .ok (.invokevirtual idx, 3)) (hR : k + 1 ≤ R.frames ∧ 8 + (maxL + 11) + 64 * k ≤ R.locals) (hf : cells ≤ R.cells ∧ slots ≤ R.slots)
    (kk : ∀ (H1 : Heap) (locs1 : List Loc), va_P g.1 pq_cl (mainW g a T1 ++ E) H1 → va_D A (mainW g a T1 ++ E) → va_S A H0 H1 locs1 → W p l e R s m args below meth c H1 locs1 cells slots Q (F0 m (pc + 3) ls (.int r :: rest))) : W p l e R s m args below meth c H locs cells slots Q (F0 m pc ls st) :=
  pq_lVi S hM w hK (pq_P1 hP) (pq_D1 hD) hS hA (ci := 6) rfl rfl rfl hst hn hls hr hdg hR hf (fun H1 locs1 hk hP1 hS1 => kk H1 locs1 (lw_keep hP hD hk hP1).1 (lw_keep hP hD hk hP1).2 hS1)
/-- the script -/
theorem lw_len (S : CallFix p m c cc nL s args pq_G own) (hI : lI ad av TX sb L xs A s s.heap) (hS : va_S A s.heap H locs) (hdg : decode cc pc = .ok (.arraylength, 1))
    (kk : W p l e R s m args below meth c H locs cells slots Q (F0 m (pc + 1) ls (.int (nI L) :: rest))) : W p l e R s m args below meth c H locs cells slots Q (F0 m pc ls (.ref sb :: rest)) :=
  va_tlen S.1 S.2.1 hI.2.2 hS rfl hdg kk
end LJ
