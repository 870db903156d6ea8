/-! ===== what the start gives ===== -/
theorem lw_mem (i : Nat) {w : Cond} (h : lw_tbl[i]? = some w) : w ∈ lw_tbl := List.mem_of_getElem? h
theorem pq_Gt {w : Cond} (h : w ∈ pq_G) : w ∈ lw_tbl := (List.mem_filter.mp h).1
theorem pq_arr {args : Array Value} {s : State} {ty : FieldType} (h : (Cond.arrayClass ty).before args s = true) (hne : ∀ C, ty ≠ .object C) : ∃ c, ArrOfT s c ty ∧ va_RA s c ty := by
  obtain ⟨c, k, comp, h1, h2, h3⟩ := Cond.arrayClass_spec h
  refine ⟨c, fun n z => ⟨fun k9 h9 => (by cases h9), k, h2, comp, h3⟩, ?_⟩
  cases ty with
  | object C => exact absurd rfl (hne C)
  | _ => exact h1
theorem pq_arrO {args : Array Value} {s : State} {C : String} (h : (Cond.arrayOver (.object C)).before args s = true) : ∃ c, ArrOfT s c (.object C) ∧ va_RA s c (.object C) := by
  obtain ⟨comp, c, k, h1, h2, h3, h4, h5⟩ := Cond.arrayOver_spec h
  exact ⟨c, fun n z => ⟨fun k9 h9 => (by cases h9), k, h3, comp, h4⟩, k, comp, h3, h4, h1, h5⟩
theorem pq_strR {args : Array Value} {s : State} {own tx : String} {k cur : Nat} (hc : s.vm.findClass own = some cur) (h : (Cond.stringRef own k tx).before args s = true) : ∃ sa, vk_R own k tx sa s := by
  obtain ⟨k9, cf, i, a, h1, h2, h3, h4, h5, h6⟩ := Cond.stringRef_spec hc h
  exact ⟨a, vk_R.of h h6⟩
theorem pq_str1 {args : Array Value} {s : State} {tm : Term} {own tx : String} {k n : Nat} {l : List Int32} {A : Nat → Prop} (e : tm = Term.string own k) (hr : (Cond.stringRef own k tx).before args s = true) (hn : n < 2 ^ 31) (h1 : (Cond.exactly tm "java/lang/String").before args s = true) (h2 : (Cond.eq (.field tm "java/lang/String" "coder" "B") (.int 0)).before args s = true) (h3 : (Cond.arrayOf (.field tm "java/lang/String" "value" "[B") .byte).before args s = true) (h4 : (Cond.eq (.length (.field tm "java/lang/String" "value" "[B")) (.int (Int32.ofNat n))).before args s = true) (h5 : ∀ j : Nat, j < n → (Cond.eq (.elem (.field tm "java/lang/String" "value" "[B") (.int (Int32.ofNat j))) (.int (l.getD j 0))).before args s = true) (hA : ∀ a : Nat, a < s.heap.size → ¬ A a) : ∃ ad av : Nat, vk_S 1 [n] [l] (fun _ => ad) (fun _ => av) A s s.heap ∧ vk_R own k tx ad s := by
  obtain ⟨adK, adV, hS, hev⟩ := vk_Sof (args := args) (N := 1) (tm := fun _ => tm) (len := [n]) (byt := [l]) (A := A) (fun i hi => by rw [show i = 0 by omega]; exact hn) (fun i _ => h1) (fun i _ => h2) (fun i _ => h3) (fun i hi => by rw [show i = 0 by omega]; exact h4) (fun i hi j hj => by have e0 : i = 0 := (by omega); subst e0; exact h5 j hj) (fun i j hi hj hne => absurd (show i = j by omega) hne) hA
  refine ⟨adK 0, adV 0, ⟨fun i hi => ?_, fun i j hi hj _ => by omega⟩, vk_R.of hr ?_⟩
  · have e0 : i = 0 := by omega
    subst e0
    exact hS.1 0 hi
  · rw [← e]
    exact hev 0 (by decide)
set_option maxRecDepth 100000 in
theorem pq_startN {args : Array Value} {s : State} (hts : ∀ w ∈ lw_tbl, w.before args s = true) : pq_N s :=
  ⟨List.forall_mem_cons.mpr ⟨va_Nw.of rfl (hts _ (lw_mem 56 (by decide +kernel))), List.forall_mem_cons.mpr ⟨va_Nw.of rfl (hts _ (lw_mem 62 (by decide +kernel))), List.forall_mem_cons.mpr ⟨va_Nw.of rfl (hts _ (lw_mem 91 (by decide +kernel))), List.forall_mem_cons.mpr ⟨va_Nw.of rfl (hts _ (lw_mem 131 (by decide +kernel))), List.forall_mem_cons.mpr ⟨va_Nw.of rfl (hts _ (lw_mem 144 (by decide +kernel))), List.forall_mem_cons.mpr ⟨va_Nw.of rfl (hts _ (lw_mem 166 (by decide +kernel))), List.forall_mem_cons.mpr ⟨va_Nw.of rfl (hts _ (lw_mem 219 (by decide +kernel))), List.forall_mem_cons.mpr ⟨va_Nw.of rfl (hts _ (lw_mem 538 (by decide +kernel))), List.forall_mem_cons.mpr ⟨va_Nw.of rfl (hts _ (lw_mem 556 (by decide +kernel))), List.forall_mem_cons.mpr ⟨va_Nw.of rfl (hts _ (lw_mem 651 (by decide +kernel))), List.forall_mem_cons.mpr ⟨va_Nw.of rfl (hts _ (lw_mem 836 (by decide +kernel))), List.forall_mem_cons.mpr ⟨va_Nw.of rfl (hts _ (lw_mem 843 (by decide +kernel))), List.forall_mem_cons.mpr ⟨va_Nw.of rfl (hts _ (lw_mem 856 (by decide +kernel))), List.forall_mem_cons.mpr ⟨va_Nw.of rfl (hts _ (lw_mem 982 (by decide +kernel))), List.forall_mem_cons.mpr ⟨va_Nw.of rfl (hts _ (lw_mem 1019 (by decide +kernel))), fun _ h => absurd h List.not_mem_nil⟩⟩⟩⟩⟩⟩⟩⟩⟩⟩⟩⟩⟩⟩⟩,
   List.forall_mem_cons.mpr ⟨va_Nw.of rfl (hts _ (lw_mem 96 (by decide +kernel))), List.forall_mem_cons.mpr ⟨va_Nw.of rfl (hts _ (lw_mem 98 (by decide +kernel))), List.forall_mem_cons.mpr ⟨va_Nw.of rfl (hts _ (lw_mem 100 (by decide +kernel))), List.forall_mem_cons.mpr ⟨va_Nw.of rfl (hts _ (lw_mem 112 (by decide +kernel))), List.forall_mem_cons.mpr ⟨va_Nw.of rfl (hts _ (lw_mem 114 (by decide +kernel))), List.forall_mem_cons.mpr ⟨va_Nw.of rfl (hts _ (lw_mem 172 (by decide +kernel))), fun _ h => absurd h List.not_mem_nil⟩⟩⟩⟩⟩⟩⟩
set_option maxRecDepth 100000 in
theorem pq_startE {args : Array Value} {s : State} (hts : ∀ w ∈ lw_tbl, w.before args s = true) : (∀ E ∈ pq_EX, va_Nw (.castable E E) s) ∧ ∀ Y ∈ pq_DY, va_Nw (.declares (Bundle.initS Y)) s :=
  ⟨List.forall_mem_cons.mpr ⟨va_Nw.of rfl (hts _ (lw_mem 446 (by decide +kernel))), List.forall_mem_cons.mpr ⟨va_Nw.of rfl (hts _ (lw_mem 520 (by decide +kernel))), List.forall_mem_cons.mpr ⟨va_Nw.of rfl (hts _ (lw_mem 806 (by decide +kernel))), List.forall_mem_cons.mpr ⟨va_Nw.of rfl (hts _ (lw_mem 240 (by decide +kernel))), List.forall_mem_cons.mpr ⟨va_Nw.of rfl (hts _ (lw_mem 580 (by decide +kernel))), fun _ h => absurd h List.not_mem_nil⟩⟩⟩⟩⟩,
   List.forall_mem_cons.mpr ⟨va_Nw.of rfl (hts _ (lw_mem 242 (by decide +kernel))), List.forall_mem_cons.mpr ⟨va_Nw.of rfl (hts _ (lw_mem 244 (by decide +kernel))), List.forall_mem_cons.mpr ⟨va_Nw.of rfl (hts _ (lw_mem 246 (by decide +kernel))), fun _ h => absurd h List.not_mem_nil⟩⟩⟩⟩
set_option maxRecDepth 100000 in
theorem pq_startR {args : Array Value} {s : State} {cur : Nat} (hts : ∀ w ∈ lw_tbl, w.before args s = true) (hc : s.vm.findClass RX6 = some cur) : ∀ q ∈ pq_SR, ∃ sa, vk_R RX6 q.1 q.2 sa s :=
  List.forall_mem_cons.mpr ⟨pq_strR hc (hts _ (lw_mem 282 (by decide +kernel))), List.forall_mem_cons.mpr ⟨pq_strR hc (hts _ (lw_mem 333 (by decide +kernel))), List.forall_mem_cons.mpr ⟨pq_strR hc (hts _ (lw_mem 453 (by decide +kernel))), List.forall_mem_cons.mpr ⟨pq_strR hc (hts _ (lw_mem 480 (by decide +kernel))), List.forall_mem_cons.mpr ⟨pq_strR hc (hts _ (lw_mem 527 (by decide +kernel))), List.forall_mem_cons.mpr ⟨pq_strR hc (hts _ (lw_mem 547 (by decide +kernel))), List.forall_mem_cons.mpr ⟨pq_strR hc (hts _ (lw_mem 587 (by decide +kernel))), List.forall_mem_cons.mpr ⟨pq_strR hc (hts _ (lw_mem 813 (by decide +kernel))), List.forall_mem_cons.mpr ⟨pq_strR hc (hts _ (lw_mem 885 (by decide +kernel))), List.forall_mem_cons.mpr ⟨pq_strR hc (hts _ (lw_mem 923 (by decide +kernel))), List.forall_mem_cons.mpr ⟨pq_strR hc (hts _ (lw_mem 943 (by decide +kernel))), List.forall_mem_cons.mpr ⟨pq_strR hc (hts _ (lw_mem 972 (by decide +kernel))), List.forall_mem_cons.mpr ⟨pq_strR hc (hts _ (lw_mem 977 (by decide +kernel))), List.forall_mem_cons.mpr ⟨pq_strR hc (hts _ (lw_mem 1014 (by decide +kernel))), fun _ h => absurd h List.not_mem_nil⟩⟩⟩⟩⟩⟩⟩⟩⟩⟩⟩⟩⟩⟩
set_option maxHeartbeats 4000000 in
set_option maxRecDepth 100000 in
theorem pq_startL {args : Array Value} {s : State} (hs : ∀ c ∈ flatC (Jvm.Cond.and given_1 narrow_1), c.before args s = true) : pq_L s := by
  intro E hE X hX hne
  simp only [pq_EX, pq_CX, List.mem_cons, List.not_mem_nil, or_false] at hE hX
  rcases hE with rfl | rfl | rfl | rfl | rfl <;> rcases hX with rfl | rfl | rfl | rfl <;> first | exact absurd rfl hne | exact va_Nc.of (hs _ (by decide +kernel))
theorem pz_ev {args : Array Value} {s : State} {tm : Term} {z : Int32} (h : (Cond.eq tm (.int z)).before args s = true) : tm.eval args s none [] s = some (.int z) := by
  cases hv : tm.eval args s none [] s with
  | none => simp [Cond.before, Cond.holds, Cond.value, hv] at h
  | some w =>
    have hz : (Term.int z).eval args s none [] s = some (.int z) := rfl
    simp only [Cond.before, Cond.holds, Cond.value, hv, hz] at h
    cases w <;> simp_all
set_option maxHeartbeats 4000000 in
set_option maxRecDepth 100000 in
theorem pz_digT0 : ((flatC (Jvm.Cond.and given_1 narrow_1)).drop 117).take 100 = (List.range 100).map (fun j => Cond.eq (.elem (.static "java/lang/Integer" "DigitTens" "[B") (.int (Int32.ofNat j))) (.int (pq_dT j))) := by decide +kernel
theorem pz_digT (j : Nat) (hj : j < 100) : Cond.eq (.elem (.static "java/lang/Integer" "DigitTens" "[B") (.int (Int32.ofNat j))) (.int (pq_dT j)) ∈ flatC (Jvm.Cond.and given_1 narrow_1) := by
  have h : Cond.eq (.elem (.static "java/lang/Integer" "DigitTens" "[B") (.int (Int32.ofNat j))) (.int (pq_dT j)) ∈ ((flatC (Jvm.Cond.and given_1 narrow_1)).drop 117).take 100 := by
    rw [pz_digT0]
    exact List.mem_map.mpr ⟨j, List.mem_range.mpr hj, rfl⟩
  exact List.mem_of_mem_drop (List.mem_of_mem_take h)
set_option maxHeartbeats 4000000 in
set_option maxRecDepth 100000 in
theorem pz_digO0 : ((flatC (Jvm.Cond.and given_1 narrow_1)).drop 14).take 100 = (List.range 100).map (fun j => Cond.eq (.elem (.static "java/lang/Integer" "DigitOnes" "[B") (.int (Int32.ofNat j))) (.int (pq_dO j))) := by decide +kernel
theorem pz_digO (j : Nat) (hj : j < 100) : Cond.eq (.elem (.static "java/lang/Integer" "DigitOnes" "[B") (.int (Int32.ofNat j))) (.int (pq_dO j)) ∈ flatC (Jvm.Cond.and given_1 narrow_1) := by
  have h : Cond.eq (.elem (.static "java/lang/Integer" "DigitOnes" "[B") (.int (Int32.ofNat j))) (.int (pq_dO j)) ∈ ((flatC (Jvm.Cond.and given_1 narrow_1)).drop 14).take 100 := by
    rw [pz_digO0]
    exact List.mem_map.mpr ⟨j, List.mem_range.mpr hj, rfl⟩
  exact List.mem_of_mem_drop (List.mem_of_mem_take h)
set_option maxHeartbeats 4000000 in
set_option maxRecDepth 100000 in
theorem pq_startS {args : Array Value} {s : State} {A : Nat → Prop} (hts : ∀ w ∈ lw_tbl, w.before args s = true) (hs : ∀ c ∈ flatC (Jvm.Cond.and given_1 narrow_1), c.before args s = true) (hA : ∀ a : Nat, a < s.heap.size → ¬ A a) : ∃ ad av, pq_SX ad av A s s.heap := by
  obtain ⟨d0, v0, s0, r0⟩ := pq_str1 (args := args) (s := s) (tm := Term.string RL 138) (own := RL) (tx := "") (k := 138) (n := 0) (l := []) (A := A) rfl (hts _ (lw_mem 1061 (by decide +kernel))) (by decide) (hs _ (by decide +kernel)) (hs _ (by decide +kernel)) (hs _ (by decide +kernel)) (hs _ (by decide +kernel)) (fun j hj => absurd hj (Nat.not_lt_zero j)) hA
  obtain ⟨d1, v1, s1, r1⟩ := pq_str1 (args := args) (s := s) (tm := Term.string RL 143) (own := RL) (tx := "(") (k := 143) (n := 1) (l := [40]) (A := A) rfl (hts _ (lw_mem 1092 (by decide +kernel))) (by decide) (hs _ (by decide +kernel)) (hs _ (by decide +kernel)) (hs _ (by decide +kernel)) (hs _ (by decide +kernel)) (by intro j hj; match j, hj with | 0, _ => exact hs _ (by decide +kernel)) hA
  obtain ⟨d2, v2, s2, r2⟩ := pq_str1 (args := args) (s := s) (tm := Term.string RL 158) (own := RL) (tx := ":") (k := 158) (n := 1) (l := [58]) (A := A) rfl (hts _ (lw_mem 1215 (by decide +kernel))) (by decide) (hs _ (by decide +kernel)) (hs _ (by decide +kernel)) (hs _ (by decide +kernel)) (hs _ (by decide +kernel)) (by intro j hj; match j, hj with | 0, _ => exact hs _ (by decide +kernel)) hA
  obtain ⟨d3, v3, s3, r3⟩ := pq_str1 (args := args) (s := s) (tm := Term.string RL 162) (own := RL) (tx := ")") (k := 162) (n := 1) (l := [41]) (A := A) rfl (hts _ (lw_mem 1216 (by decide +kernel))) (by decide) (hs _ (by decide +kernel)) (hs _ (by decide +kernel)) (hs _ (by decide +kernel)) (hs _ (by decide +kernel)) (by intro j hj; match j, hj with | 0, _ => exact hs _ (by decide +kernel)) hA
  obtain ⟨d4, v4, s4, r4⟩ := pq_str1 (args := args) (s := s) (tm := Term.string RL 274) (own := RL) (tx := ",") (k := 274) (n := 1) (l := [44]) (A := A) rfl (hts _ (lw_mem 1278 (by decide +kernel))) (by decide) (hs _ (by decide +kernel)) (hs _ (by decide +kernel)) (hs _ (by decide +kernel)) (hs _ (by decide +kernel)) (by intro j hj; match j, hj with | 0, _ => exact hs _ (by decide +kernel)) hA
  obtain ⟨tT, eT, fT⟩ := va_Tof (args := args) (s := s) (tm := Term.static "java/lang/Integer" "DigitTens" "[B") (ty := .byte) (N := 100) (f := fun j => .int (pq_dT j)) (A := A) (by decide) (hs _ (by decide +kernel)) (pz_ev (hs _ (by decide +kernel))) (fun j hj => pz_ev (hs _ (pz_digT j hj))) hA
  obtain ⟨tO, eO, fO⟩ := va_Tof (args := args) (s := s) (tm := Term.static "java/lang/Integer" "DigitOnes" "[B") (ty := .byte) (N := 100) (f := fun j => .int (pq_dO j)) (A := A) (by decide) (hs _ (by decide +kernel)) (pz_ev (hs _ (by decide +kernel))) (fun j hj => pz_ev (hs _ (pz_digO j hj))) hA
  refine ⟨fun i => [d0, d1, d2, d3, d4].getD i 0, fun i => [v0, v1, v2, v3, v4, tT, tO].getD i 0, ?_, ?_, ?_, ?_, ⟨?_, fT⟩, ?_, fO, ?_⟩
  · intro i hi
    match i, hi with | 0, _ => exact s0 | 1, _ => exact s1 | 2, _ => exact s2 | 3, _ => exact s3 | 4, _ => exact s4
  · intro i hi
    match i, hi with | 0, _ => exact r0 | 1, _ => exact r1 | 2, _ => exact r2 | 3, _ => exact r3 | 4, _ => exact r4
  · exact va_Zof (hts _ (lw_mem 1009 (by decide +kernel))) (hts _ (lw_mem 34 (by decide +kernel))) (va_eqi (hs _ (by decide +kernel))) hA
  · exact va_Zqof (hts _ (lw_mem 1035 (by decide +kernel))) (hts _ (lw_mem 42 (by decide +kernel))) (hs _ (by decide +kernel)) hA
  · exact va_Zof (hts _ (lw_mem 1206 (by decide +kernel))) (hts _ (lw_mem 45 (by decide +kernel))) eT hA
  · exact va_Zof (hts _ (lw_mem 1204 (by decide +kernel))) (hts _ (lw_mem 45 (by decide +kernel))) eO hA
  · exact va_Nw.of rfl (hts _ (lw_mem 1129 (by decide +kernel)))
set_option maxRecDepth 100000 in
theorem pq_startP {args : Array Value} {s : State} (hts : ∀ w ∈ lw_tbl, w.before args s = true) : ∀ y ∈ pz_PM, va_Nw (.privateMethod y) s :=
  List.forall_mem_cons.mpr ⟨va_Nw.of rfl (hts _ (lw_mem 1105 (by decide +kernel))), List.forall_mem_cons.mpr ⟨va_Nw.of rfl (hts _ (lw_mem 1109 (by decide +kernel))), List.forall_mem_cons.mpr ⟨va_Nw.of rfl (hts _ (lw_mem 1157 (by decide +kernel))), List.forall_mem_cons.mpr ⟨va_Nw.of rfl (hts _ (lw_mem 1161 (by decide +kernel))), fun _ h => absurd h List.not_mem_nil⟩⟩⟩⟩
set_option maxHeartbeats 4000000 in
set_option maxRecDepth 100000 in
theorem pq_startT {args : Array Value} {s : State} {cur : Nat} {A : Nat → Prop} (hts : ∀ w ∈ lw_tbl, w.before args s = true) (hs : ∀ c ∈ flatC (Jvm.Cond.and given_1 narrow_1), c.before args s = true) (hc : s.vm.findClass RX6 = some cur) (hA : ∀ a : Nat, a < s.heap.size → ¬ A a) : pq_T A s s.heap :=
  ⟨pq_startE hts, pq_startR hts hc, vx_Zqof (hts _ (lw_mem 265 (by decide +kernel))) (hts _ (lw_mem 25 (by decide +kernel))) (hs _ (by decide +kernel)) hA, vx_Zqof (hts _ (lw_mem 267 (by decide +kernel))) (hts _ (lw_mem 25 (by decide +kernel))) (hs _ (by decide +kernel)) hA, pq_startS hts hs hA⟩
set_option maxHeartbeats 4000000 in
set_option maxRecDepth 100000 in
theorem pq_startK {args : Array Value} {s : State} (hts : ∀ w ∈ lw_tbl, w.before args s = true) : ∃ g : pq_g, pq_K g s := by
  obtain ⟨c0, i0, k0⟩ := u_known (C := RX0) (T := TX0) (N := 6) (n := 6) hts (fun w h => pq_Gt (inX0 w h)) (hts (.instantiable RX0 6) (lw_mem 143 (by decide +kernel)))
  obtain ⟨c1, i1, k1⟩ := u_known (C := RX1) (T := TX1) (N := 3) (n := 3) hts (fun w h => pq_Gt (inX1 w h)) (hts (.instantiable RX1 3) (lw_mem 55 (by decide +kernel)))
  obtain ⟨c2, i2, k2⟩ := u_known (C := RX2) (T := TX2) (N := 3) (n := 3) hts (fun w h => pq_Gt (inX2 w h)) (hts (.instantiable RX2 3) (lw_mem 124 (by decide +kernel)))
  obtain ⟨c3, i3, k3⟩ := u_known (C := RX3) (T := TX3) (N := 2) (n := 2) hts (fun w h => pq_Gt (inX3 w h)) (hts (.instantiable RX3 2) (lw_mem 165 (by decide +kernel)))
  obtain ⟨c4, i4, k4⟩ := u_known (C := RX4) (T := TX4) (N := 7) (n := 7) hts (fun w h => pq_Gt (inX4 w h)) (hts (.instantiable RX4 7) (lw_mem 61 (by decide +kernel)))
  obtain ⟨c5, i5, k5⟩ := u_known (C := RX5) (T := TX5) (N := 4) (n := 4) hts (fun w h => pq_Gt (inX5 w h)) (hts (.instantiable RX5 4) (lw_mem 90 (by decide +kernel)))
  obtain ⟨c6, i6, k6⟩ := u_known (C := RX6) (T := TX6) (N := 11) (n := 11) hts (fun w h => pq_Gt (inX6 w h)) (hts (.instantiable RX6 11) (lw_mem 47 (by decide +kernel)))
  obtain ⟨c7, i7, k7⟩ := u_known (C := RJ0) (T := TJ0) (N := 4) (n := 4) hts (fun w h => pq_Gt (inJ0 w h)) (hts (.instantiable RJ0 4) (lw_mem 688 (by decide +kernel)))
  obtain ⟨c8, i8, k8⟩ := u_known (C := RJ4) (T := TJ4) (N := 4) (n := 4) hts (fun w h => pq_Gt (inJ4 w h)) (hts (.instantiable RJ4 4) (lw_mem 1063 (by decide +kernel)))
  obtain ⟨a0, h0, g0⟩ := pq_arr (hts (.arrayClass .int) (lw_mem 88 (by decide +kernel))) (fun C h => by cases h)
  obtain ⟨a1, h1, g1⟩ := pq_arr (hts (.arrayClass .byte) (lw_mem 308 (by decide +kernel))) (fun C h => by cases h)
  obtain ⟨a2, h2, g2⟩ := pq_arrO (hts (.arrayOver (.object "PrioritySearchTree$Data")) (lw_mem 130 (by decide +kernel)))
  refine ⟨((fun k => [c0, c1, c2, c3, c4, c5, c6, c7, c8].getD k 0, fun k => [i0, i1, i2, i3, i4, i5, i6, i7, i8].getD k (fun _ => 0)), fun k => [a0, a1, a2].getD k 0), ⟨?_, ?_⟩, pq_startN hts⟩
  · intro k q hq
    match k, hq with | 0, hq => cases hq; exact k0 | 1, hq => cases hq; exact k1 | 2, hq => cases hq; exact k2 | 3, hq => cases hq; exact k3 | 4, hq => cases hq; exact k4 | 5, hq => cases hq; exact k5 | 6, hq => cases hq; exact k6 | 7, hq => cases hq; exact k7 | 8, hq => cases hq; exact k8 | k + 9, hq => simp [pq_cl] at hq
  · intro k q hq
    match k, hq with | 0, hq => cases hq; exact ⟨h0, g0⟩ | 1, hq => cases hq; exact ⟨h1, g1⟩ | 2, hq => cases hq; exact ⟨h2, g2⟩ | k + 3, hq => simp [pq_tys] at hq
