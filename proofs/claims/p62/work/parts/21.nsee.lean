/-! ===== 'throw new NoSuchElementException(text)' where the class's own constructor links RuntimeException's by the place 13 (JDK 17): the library's row asks for the place 7. The last steps are the library's. ===== -/
abbrev ns_N : String := "java/util/NoSuchElementException"
abbrev ns_R : String := "java/lang/RuntimeException"
def ns_code : ByteArray := ⟨#[0x2a, 0x2b, 0xb7, 0x00, 0x0d, 0xb1]⟩
theorem ns_0 : decode ns_code 0 = .ok (.aload_n 0, 1) := by decide +kernel
theorem ns_1 : decode ns_code 1 = .ok (.aload_n 1, 1) := by decide +kernel
theorem ns_2 : decode ns_code 2 = .ok (.invokespecial 13, 3) := by decide +kernel
theorem ns_5 : decode ns_code 5 = .ok (.return_, 1) := by decide +kernel
def ns_top : List Cond := Bundle.throwableAtoms ++ Bundle.throwableSAtoms
def ns_chain : List Cond := Bundle.chainSAtoms ns_R ["java/lang/Exception"]
def ns_self : List Cond := Bundle.passSAtoms ns_N ns_R 13 ns_code
def ns_rest (own : String) (ic : Nat) : List Cond :=
  [.methodLink own ic (Bundle.initS ns_N), .instantiable ns_N 6, .castable ns_N ns_N, .selects ns_N Bundle.tFill0 Bundle.tFill0, .selects ns_N Bundle.tFill Bundle.tFill] ++
  ([(Bundle.tN, "cause", "Ljava/lang/Throwable;"), (Bundle.tN, "stackTrace", Bundle.steD), (Bundle.tN, "suppressedExceptions", Bundle.listD), (Bundle.tN, "detailMessage", "Ljava/lang/String;"), (Bundle.tN, "backtrace", "Ljava/lang/Object;")].map fun q => Cond.lays ns_N q.1 q.2.1 q.2.2) ++
  [.isRef (.static Bundle.tN "UNASSIGNED_STACK" Bundle.steD), .isRef (.static Bundle.tN "SUPPRESSED_SENTINEL" Bundle.listD), .fieldLink Bundle.tN 198 Bundle.tN "backtrace" "Ljava/lang/Object;", .lays Bundle.tN Bundle.tN "backtrace" "Ljava/lang/Object;"]
def ns_all (own : String) (ic : Nat) : List Cond := ns_top ++ (ns_chain ++ (ns_self ++ ns_rest own ic))
section NSE
variable {p : Program} {l : Launch} {e : Env} {R : Room} {s : State} {m₀ : MethodId} {args : Array Value} {below : List Frame} {meth : Method} {c : Code} {W : State} {locs : List Loc} {cells slots : Nat}
set_option maxHeartbeats 4000000 in
theorem ns_ctor (X : Stand p l e R s m₀ args below meth c W locs cells slots) (hexec : p.tables.exec = Jvm.exec) (htr : e.platform.stackTraces = false) {own : String} {ic : Nat}
    (hown : s.vm.findClass own = some m₀.cls) (h : ∀ w ∈ ns_all own ic, w.before args s = true)
    (hlocs : ∀ x ∈ locs, ∀ cell, s.heap[x.base]? = some cell → cell.vm.isStatics = false)
    {a : Addr} {cX : ClassId} {kX : Class} (hfX : s.vm.findClass ns_N = some cX) (hkX : s.vm.classes[cX]? = some kX) (hcell : W.heap[a]? = some (freshCell cX kX)) (hnew : s.heap.size ≤ a)
    {msg : Value} (hmsg : msg.isRef = true) {g : JFrame} (hg : g.method = m₀) (hsize : g.locals.size = c.maxLocals) (hlocked : g.locked = none) (hentered : g.entered = []) {rest : List Value} (hstack : g.stack = msg :: .ref a :: .ref a :: rest)
    (hd6 : decode c.code g.pc = .ok (.invokespecial ic, 3)) (hd9 : decode c.code (g.pc + 3) = .ok (.athrow, 1)) (hout : ∀ x ∈ c.exceptionTable.toList, covers x (g.pc + 3) = false)
    (hRf : 5 < R.frames) (hRl : 2 * g.monitorRoom + ((Value.ref a :: rest).map fun v => v.category).sum + 81 ≤ R.locals) (hlocks : meth.locks = false) :
    ∃ U : State, Steps p.tables e below (W.setTop g) U ∧ U.status = .running ∧ Ended U below (.threw a) ∧ s.WarmedH U.vm ∧ s.sameButNew ({ U with vm := s.vm } : State) locs cells slots ∧ ∃ ce, U.heap[a]? = some ce ∧ ce.vm = .none ∧ ce.cls = cX := by
  have howns : e.platform.frameOwnsMonitors = true := by rw [X.admits.platform]
  have hfin : e.platform.finalization = false := by rw [X.admits.platform]
  have hpl : e.platform.magicAccessors = ({} : Platform).magicAccessors := by rw [X.admits.platform]
  have iT : ∀ w ∈ ns_top, w ∈ ns_all own ic := fun w hw => List.mem_append_left _ hw
  have iC : ∀ w ∈ ns_chain, w ∈ ns_all own ic := fun w hw => List.mem_append_right _ (List.mem_append_left _ hw)
  have iN : ∀ w ∈ ns_self, w ∈ ns_all own ic := fun w hw => List.mem_append_right _ (List.mem_append_right _ (List.mem_append_left _ hw))
  have iR : ∀ w ∈ ns_rest own ic, w ∈ ns_all own ic := fun w hw => List.mem_append_right _ (List.mem_append_right _ (List.mem_append_right _ hw))
  have hR : ∀ w ∈ ns_rest own ic, w.holds args s none s [] = true := fun w hw => h w (iR w hw)
  -- the bundle of Throwable, and the chain of the constructors
  obtain ⟨T, Z0, L, -, Y⟩ := ThrowableC.of_atoms (args := args) howns hfin hpl (fun x hx => h x (iT x (List.mem_append_left _ hx)))
  obtain ⟨Z, M, LZ, LM, hnZ⟩ := Init0T.ofS_atoms (args := args) hpl L Y (fun x hx => h x (iT x (List.mem_append_right _ hx)))
  obtain ⟨PR, Ps, hlen, LR, hL, hPRm, hlinkR, hlink⟩ := Bundle.chainS (args := args) hpl hnZ ["java/lang/Exception"] ns_R (by decide) (by decide) (fun x hx => h x (iC x hx))
  obtain ⟨P1, L1, hP1m, hP1s⟩ := PassC.ofS_atoms (args := args) (s := s) hpl (X := ns_N) (Y := ns_R) (by decide) (by decide) ns_0 ns_1 ns_2 ns_5 (fun x hx => h x (iN x hx))
  have hsup : P1.sup = PR.m := Option.some.inj (hP1s.symm.trans hPRm)
  have hfound : s.vm.findClass ns_N = some P1.m.cls := findClass_of_methodNamed hP1m
  have hcx : cX = P1.m.cls := Option.some.inj (hfX.symm.trans hfound)
  subst hcx
  obtain ⟨c1, k1, hc1, hk, hord, -, -, -⟩ := Cond.instantiable_spec (hR (.instantiable ns_N 6) (by simp [ns_rest]))
  cases Option.some.inj (hc1.symm.trans hfound)
  cases Option.some.inj (hkX.symm.trans hk)
  have sel : ∀ {y : MethodName} {my : MethodId}, s.methodNamed? y = some my → y.cls ≠ "java/lang/invoke/MethodHandle" ∧ y.cls ≠ "java/lang/invoke/VarHandle" → (Cond.selects ns_N y y) ∈ ns_rest own ic → selectMethod e.platform s.vm P1.m.cls my = .method my := by
    intro y my hy hno hmem
    obtain ⟨c2, r2, m2, q1, q2, q3, q4, -⟩ := Cond.selects_spec (hR _ hmem)
    cases Option.some.inj (q1.symm.trans hfound)
    cases Option.some.inj (q2.symm.trans (State.methodFound?_of_named hy hno))
    cases Option.some.inj (q3.symm.trans hy)
    rw [Launch.admits_selectMethod X.admits]
    exact q4
  have sel0 := sel Y.fill0 (by decide) (by simp [ns_rest])
  have selF := sel Y.fill (by decide) (by simp [ns_rest])
  obtain ⟨cellS0, hcS0, hiss⟩ := Y.statics
  obtain ⟨u0, hu0⟩ := Cond.staticRefV Y.unassigned L.unassignedStatic L.statics hcS0 hiss (hR (.isRef (.static Bundle.tN "UNASSIGNED_STACK" Bundle.steD)) (by simp [ns_rest]))
  obtain ⟨sen, hsen⟩ := Cond.staticRefV Y.sentinel L.sentinelStatic L.statics hcS0 hiss (hR (.isRef (.static Bundle.tN "SUPPRESSED_SENTINEL" Bundle.listD)) (by simp [ns_rest]))
  obtain ⟨ci198, i198, fB, hk198, hg198, ha198, hsB, -, hnB, htB, hffB⟩ := Cond.ownField (t := .object "java/lang/Object") Y.found L.cls (by decide +kernel) (hR (.fieldLink Bundle.tN 198 Bundle.tN "backtrace" "Ljava/lang/Object;") (by simp [ns_rest])) (hR (.lays Bundle.tN Bundle.tN "backtrace" "Ljava/lang/Object;") (by simp [ns_rest])) e.platform hpl
  obtain ⟨cellS, hcellS, heS, -, hkeep⟩ := X.same.2.2.2.2.2 T.aS cellS0 hcS0
  have hout' : ∀ i, (⟨T.aS, i⟩ : Loc) ∉ locs := fun i hmem => by
    have h9 := hlocs _ hmem cellS0 hcS0
    rw [hiss] at h9
    cases h9
  have hknownS : cellS.vm ≠ .unknown := by
    rw [heS]
    intro hu
    rw [show cellS0.vm = .unknown from hu] at hiss
    cases hiss
  have hneS : T.aS ≠ a := Nat.ne_of_lt (Nat.lt_of_lt_of_le (Array.getElem?_eq_some_iff.mp hcS0).1 hnew)
  obtain ⟨iM, hffM⟩ := Y.msg
  obtain ⟨tyC, dC, hdC, hdnC⟩ := Cond.laysAt hfound hk Y.cause (hR (.lays ns_N Bundle.tN "cause" "Ljava/lang/Throwable;") (by simp [ns_rest]))
  obtain ⟨tyS, dS, hdS, hdnS⟩ := Cond.laysAt hfound hk Y.stack (hR (.lays ns_N Bundle.tN "stackTrace" Bundle.steD) (by simp [ns_rest]))
  obtain ⟨tyP, dP, hdP, hdnP⟩ := Cond.laysAt hfound hk Y.supp (hR (.lays ns_N Bundle.tN "suppressedExceptions" Bundle.listD) (by simp [ns_rest]))
  obtain ⟨tyM, dM, hdM, hdnM⟩ := Cond.laysAt hfound hk hffM (hR (.lays ns_N Bundle.tN "detailMessage" "Ljava/lang/String;") (by simp [ns_rest]))
  obtain ⟨tyB, dB, hdB, hdnB⟩ := Cond.laysAt hfound hk hffB (hR (.lays ns_N Bundle.tN "backtrace" "Ljava/lang/Object;") (by simp [ns_rest]))
  have bC := Cond.laysApart hdB hdC hdnB hdnC (by rw [hnB, Y.causeName]; decide)
  have bS := Cond.laysApart hdB hdS hdnB hdnS (by rw [hnB, Y.stackName]; decide)
  have bP := Cond.laysApart hdB hdP hdnB hdnP (by rw [hnB, Y.suppName]; decide)
  have hskip : SkipFacts T e.platform s (fun u => u) u0 ((preparedCellV T.toThrowableT (freshCell P1.m.cls kX) a u0 sen).withEntry W.cur) := by
    refine ⟨{ ci198 := ci198, i198 := i198, fBack := fB }, ⟨hk198, hg198, ha198, hsB⟩, ?_, fun _ _ => rfl⟩
    have h9 := fresh_default (c := P1.m.cls) tyB
    rw [htB] at h9
    simpa [preparedCellV, Cell.setSlot, Cell.withEntry, Array.getElem?_setIfInBounds, bC, bS, bP, bC.symm, bS.symm, bP.symm, defaultValue] using h9
  -- the call of the constructor
  obtain ⟨tm, methC, cdC, kC, vm₁, hnC, -, -, -, -, -, -, -, hW₁, st1⟩ := Steps.initColdS (tb := p.tables) (e := e) (below := below) (s := s) (U := W) X.here hexec X.warmed hpl hown (t := Bundle.initS ns_N) rfl rfl (by decide)
    (hR (.methodLink own ic (Bundle.initS ns_N)) (by simp [ns_rest])) (h (.instanceMethod (Bundle.initS ns_N)) (iN _ (by simp [ns_self, Bundle.passSAtoms]))) (bytes := ns_code) (maxL := 2) (h (.code (Bundle.initS ns_N) ns_code 2 none) (iN _ (by simp [ns_self, Bundle.passSAtoms])))
    (f := g) hg (a := a) (msg := msg) (rest := .ref a :: rest) hstack hd6
  cases Option.some.inj (hnC.symm.trans hP1m)
  have X₁ := X.noted hW₁
  have hPs : (P1 :: PR :: Ps).length = 3 := by
    rw [List.length_cons, List.length_cons, hlen]
    rfl
  obtain ⟨vm₂, X₂, st2⟩ := X₁.ctorMessageOffV hexec (g := { g with stack := .ref a :: rest }) hg hsize T L Z LZ M LM (P1 :: PR :: Ps)
    (fun P hP => by
      rcases List.mem_cons.mp hP with rfl | hP
      · exact L1
      · rcases List.mem_cons.mp hP with rfl | hP
        · exact LR
        · exact hL P hP) ⟨hsup, hlinkR, hlink⟩ (u0 := u0) (sen := sen) (self := a) hmsg (cell := freshCell P1.m.cls kX) (cellS := cellS)
    hcell (fun _ => by simp) (by simp) rfl rfl sel0 selF hcellS hneS hknownS (by rw [hkeep _ (hout' _)]; exact hu0) (by rw [hkeep _ (hout' _)]; exact hsen)
    (Takes.of_laid hk hord tyC (by rw [Y.causeType]; rfl)) (Takes.of_laid hk hord tyS (by rw [Y.stackType]; exact fits_refV_array _ u0)) (Takes.of_laid hk hord tyP (by rw [Y.suppType]; exact fits_refV_object _ sen))
    (Takes.of_laid hk hord tyM (by rw [Y.msgType]; exact fits_refV_object _ ⟨msg, hmsg⟩)) Y.objLocals hskip htr [] hd6
    (by rw [hPs]; omega) (by rw [hPs]; exact hRl)
  obtain ⟨hwalk, hrun, hended, hWU, hsame⟩ := X₂.athrowLeaves hexec (g := { g with stack := .ref a :: rest, pc := g.pc + 3 }) hg hlocked hentered hout (a := a) (rest := rest) rfl hd9
  have hlt : a < ((W.setVm vm₁).setVm vm₂).heap.size := (Array.getElem?_eq_some_iff.mp hcell).1
  have hU := heapAt_setCell_self (s := (W.setVm vm₁).setVm vm₂) (plainBareV T.toThrowableT (freshCell P1.m.cls kX) a u0 sen msg) hlt
  refine ⟨_, st1 _ (fun acts => ?_), hrun, hended, hWU, hsame.weaken (fun y hy hlt' => ?_) (Nat.le_refl _) (Nat.le_refl _), _, hU, rfl, rfl⟩
  · rw [doInvoke_state]
    exact st2 _ hwalk
  · rcases List.mem_append.mp hy with h1 | h1
    · exact h1
    · exfalso
      have hb : y.base = a := by
        simp only [List.mem_cons, List.not_mem_nil, or_false] at h1
        rcases h1 with rfl | rfl | rfl | rfl | rfl <;> rfl
      rw [hb] at hlt'
      exact Nat.not_lt.mpr hnew hlt'
end NSE
