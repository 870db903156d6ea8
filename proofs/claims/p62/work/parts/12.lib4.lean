/-! ===== my own layer, 4: addresses, long readers, rows copied, switches, Math ===== -/
theorem ad_app {X Y X' Y' : va_W} (h1 : X'.map (fun q => q.1) = X.map (fun q => q.1)) (h2 : Y'.map (fun q => q.1) = Y.map (fun q => q.1)) : (X' ++ Y').map (fun q => q.1) = (X ++ Y).map (fun q => q.1) := by rw [List.map_append, List.map_append, h1, h2]
theorem ad_fam {F G : Nat → va_W} (h : ∀ k, (G k).map (fun q => q.1) = (F k).map (fun q => q.1)) : ∀ n, (pq_fam G n).map (fun q => q.1) = (pq_fam F n).map (fun q => q.1)
  | 0 => rfl
  | n + 1 => ad_app (ad_fam h n) (h n)
theorem ad_X4 {g : pq_g} {a : Nat → Nat} (T T' : TreeS) : (treeW g a T').map (fun q => q.1) = (treeW g a T).map (fun q => q.1) := rfl
theorem ad_X5 {g : pq_g} {a : Nat → Nat} (T T' : WinS) : (winW g a T').map (fun q => q.1) = (winW g a T).map (fun q => q.1) := rfl
theorem ad_X1 {g : pq_g} {a : Nat → Nat} (T T' : DataS) : (dataW g a T').map (fun q => q.1) = (dataW g a T).map (fun q => q.1) := rfl
theorem ad_X3 {g : pq_g} {a : Nat → Nat} (T T' : OutS) : (outW g a T').map (fun q => q.1) = (outW g a T).map (fun q => q.1) := rfl
theorem ad_X0 {g : pq_g} {a : Nat → Nat} (T T' : CmdS) : (cmdW g a T').map (fun q => q.1) = (cmdW g a T).map (fun q => q.1) := rfl
theorem ad_X2 {g : pq_g} {a : Nat → Nat} (T T' : HistS) : (histW g a T').map (fun q => q.1) = (histW g a T).map (fun q => q.1) := ad_app rfl (ad_app rfl (ad_fam (fun _ => ad_X1 _ _) 8))
theorem ad_X6 {g : pq_g} {a : Nat → Nat} (T T' : MainS) : (mainW g a T').map (fun q => q.1) = (mainW g a T).map (fun q => q.1) := ad_app rfl (ad_app (ad_X1 _ _) (ad_app (ad_X1 _ _) (ad_app (ad_X1 _ _) (ad_app (ad_X2 _ _) (ad_app (ad_X0 _ _) (ad_X3 _ _))))))
def pq_cp (n : Nat) (f g : Nat → Int32) : Nat → Int32 := fun j => if j < n then f j else g j
theorem pq_cp0 (f g : Nat → Int32) : pq_cp 0 f g = g := by funext j; simp [pq_cp]
theorem pq_cpS (i : Nat) (f g : Nat → Int32) : upd (pq_cp i f g) i (f i) = pq_cp (i + 1) f g := by
  funext j
  by_cases h : j = i
  · subst h; simp [pq_cp, upd]
  · by_cases h2 : j < i
    · simp [pq_cp, upd, h, h2, Nat.lt_succ_of_lt h2]
    · have h3 : ¬ j < i + 1 := by omega
      simp [pq_cp, upd, h, h2, h3]
set_option maxHeartbeats 4000000 in
set_option maxRecDepth 100000 in
/-- copyRow(from, to), rows of one length -/
theorem pq_copy_ok (l : Launch) (g : pq_g) (a b n : Nat) (f h : Nat → Int32) (hn : n < 2 ^ 31) : pq_Mv l yX6_copyRow cX6_copyRow 3 1 g [(a, .inl (g.2 0, n, .inl f)), (b, .inl (g.2 0, n, .inl h))] [.ref a, .ref b] [(a, .inl (g.2 0, n, .inl f)), (b, .inl (g.2 0, n, .inl (pq_cp n f h)))] := by
  refine pq_Mv.of (own := RX6) (by decide) rfl (Nat.le_of_ble_eq_true rfl) rfl ?_
  intro p e s m below meth c ls Q A S hP hK hD hS hA hl hend
  obtain ⟨hx, hb, hml, hown, hts⟩ := id S
  have B : ∀ (k i : Nat) (ls : Array Slot) (H : Heap) (locs : List Loc), i ≤ n → n < i + k → va_P g.1 pq_cl [(a, .inl (g.2 0, n, .inl f)), (b, .inl (g.2 0, n, .inl (pq_cp i f h)))] H → va_D A [(a, .inl (g.2 0, n, .inl f)), (b, .inl (g.2 0, n, .inl (pq_cp i f h)))] → va_S A s.heap H locs → lv_has ls 3 [(0, .ref a), (1, .ref b), (2, .int (nI i))] → W p l e (pq_rm 1 0 0) s m ([.ref a, .ref b] : List Value).toArray below meth c H locs 0 0 Q (F0 m 11 ls []) := by
    intro k
    induction k with
    | zero => intro i ls H locs h1 h2; exact absurd h2 (by omega)
    | succ k ih =>
      intro i ls H locs h1 h2 hP hD hS hl
      refine lv_iload_n hx hb dX6_copyRow_11 rfl (lv_at hl 2 rfl) ?_
      refine lv_aload_n hx hb dX6_copyRow_12 rfl (lv_at hl 0 rfl) ?_
      refine va_alen (v := nI n) hx hb hK.1 hP 0 0 rfl rfl rfl dX6_copyRow_13 ?_
      refine lv_icmp_ge (tgt := 35) hx hb dX6_copyRow_14 (by decide) (fun h3 => ?_) (fun h3 => ?_)
      · have hi : i = n := by
          have := (nI_leI hn (Nat.lt_of_le_of_lt h1 hn)).mp h3
          omega
        subst hi
        exact hend _ _ _ _ dX6_copyRow_35 hP hS
      · have hi : i < n := by
          rcases Nat.lt_or_ge i n with q | q
          · exact q
          · exact absurd ((nI_leI hn (Nat.lt_of_le_of_lt h1 hn)).mpr q) h3
        have hin : vp_in (nI i) n := vp_in_nI hi hn
        have hcl : (nI i).toNatClampNeg = i := nI_clamp (Nat.lt_of_lt_of_le hi (Nat.le_of_lt hn))
        refine lv_iload_n hx hb dX6_copyRow_17 rfl (lv_at hl 2 rfl) ?_
        refine lv_aload_n hx hb dX6_copyRow_18 rfl (lv_at hl 1 rfl) ?_
        refine va_alen (v := nI n) hx hb hK.1 hP 1 0 rfl rfl rfl dX6_copyRow_19 ?_
        refine lv_icmp_ge (tgt := 35) hx hb dX6_copyRow_20 (by decide) (fun h4 => absurd h4 h3) (fun _ => ?_)
        refine lv_aload_n hx hb dX6_copyRow_23 rfl (lv_at hl 1 rfl) ?_
        refine lv_iload_n hx hb dX6_copyRow_24 rfl (lv_at hl 2 rfl) ?_
        refine lv_aload_n hx hb dX6_copyRow_25 rfl (lv_at hl 0 rfl) ?_
        refine lv_iload_n hx hb dX6_copyRow_26 rfl (lv_at hl 2 rfl) ?_
        refine va_iald hx hb hK.1 hP 0 0 rfl rfl hin dX6_copyRow_27 ?_
        rw [hcl]
        refine va_iast hx hb hK.1 hP hD hS 1 0 rfl rfl hin dX6_copyRow_28 (fun H locs hP hD hS => ?_)
        rw [hcl, pq_cpS] at hP hD
        refine lv_iinc (v := nI (i + 1)) (lv' := [(2, .int (nI (i + 1))), (0, .ref a), (1, .ref b)]) hx hb dX6_copyRow_29 hl (k := 2) rfl (by rw [nI_succ]; rfl) (by decide) rfl (fun ls hl => ?_)
        refine lv_goto (tgt := 11) hx hb dX6_copyRow_32 (by decide) ?_
        exact ih (i + 1) ls H locs hi (by omega) hP hD hS (lv_sub hl [1, 2, 0] rfl)
  refine lv_aload_n hx hb dX6_copyRow_0 rfl (lv_at hl 0 rfl) ?_
  refine lv_ifnull hx hb dX6_copyRow_1 ?_
  refine lv_aload_n hx hb dX6_copyRow_4 rfl (lv_at hl 1 rfl) ?_
  refine lv_ifnonnull (tgt := 9) hx hb dX6_copyRow_5 (by decide) ?_
  refine lv_iconst (v := 0) hx hb dX6_copyRow_9 (by decide) ?_
  refine lv_istore_n (lv' := [(2, .int 0), (0, .ref a), (1, .ref b)]) hx hb dX6_copyRow_10 rfl hl (by decide) rfl (fun ls hl => ?_)
  exact B (n + 1) 0 ls _ _ (Nat.zero_le n) (by omega) (by rw [pq_cp0]; exact hP) (by rw [pq_cp0]; exact hD) hS (lv_sub hl [1, 2, 0] rfl)
section PQ4
variable {p : Program} {l : Launch} {e : Env} {s : State} {m : MethodId} {args : Array Value} {below : List Frame} {meth : Method} {c : Code} {H H0 : Heap} {locs : List Loc} {cells slots : Nat} {Q : State → Prop} {A : Nat → Prop}
variable {cc bytes : ByteArray} {own host C : String} {idx nL maxL n k K mc ms : Nat} {y : MethodName} {g : pq_g} {ws ws' WS : va_W} {a b : Nat} {As rest : List Value} {r : Int32} {ty : FieldType} {pc : Nat} {ls : Array Slot} {st : List Value} {R : Room}
theorem pq_copy (S : CallFix p m c cc nL s args pq_G own) (w : pq_Nw own idx yX6_copyRow "PrioritySearchTree" cX6_copyRow 3 none 2) (hK : pq_K g s) (hP : va_P g.1 pq_cl WS H) (hD : va_D A WS) (hS : va_S A H0 H locs) (hA : ∀ q : Nat, H0.size ≤ q → A q) (q0 q1 : Nat) {f h : Nat → Int32} (ha : WS[q0]? = some (a, .inl (g.2 0, n, .inl f))) (hb : WS[q1]? = some (b, .inl (g.2 0, n, .inl h))) (hne : va_nd [q0, q1] = true) (hn : n < 2 ^ 31) (hls : ls.size = nL) (hr : (rest.map fun v => v.category).sum ≤ 8) (hdg : decode cc pc = .ok (.invokestatic idx, 3)) (hk : 1 < K) (hf : cells ≤ mc ∧ slots ≤ ms)
    (kk : ∀ (H1 : Heap) (locs1 : List Loc), va_P g.1 pq_cl (WS.set q1 (b, .inl (g.2 0, n, .inl (pq_cp n f h)))) H1 → va_S A H0 H1 locs1 → W p l e (pq_rm K mc ms) s m args below meth c H1 locs1 cells slots Q (F0 m (pc + 3) ls rest)) : W p l e (pq_rm K mc ms) s m args below meth c H locs cells slots Q (F0 m pc ls (.ref b :: .ref a :: rest)) := by
  have hD1 : va_D A [(a, (.inl (g.2 0, n, .inl f) : va_E)), (b, .inl (g.2 0, n, .inl h))] := hD.sub [q0, q1] hne (by simp [ha, hb])
  have hne2 : q0 ≠ q1 := by
    intro e9
    subst e9
    simp [va_nd] at hne
  refine pq_cNv S (pq_copy_ok l g a b n f h hn) w hK (hP.sub [q0, q1] (by simp [ha, hb])) hD1 hS hA rfl rfl hls hr hdg hk (by decide) hf (fun H1 locs1 hk1 hP1 hS1 => ?_)
  refine kk H1 locs1 ?_ hS1
  have hlen := (List.getElem?_eq_some_iff.mp hb).1
  intro j q hj
  by_cases hjq : j = q1
  · subst hjq
    rw [List.getElem?_set_self hlen] at hj
    cases hj
    exact hP1 1 _ rfl
  · rw [List.getElem?_set_ne (Ne.symm hjq)] at hj
    by_cases hj0 : j = q0
    · subst hj0
      rw [ha] at hj
      cases hj
      exact hP1 0 _ rfl
    · refine (hP j q hj).kept (hk1 q.1 (hP j q hj).lt ?_)
      rintro (⟨z, e9, h9⟩ | h9)
      · match z, h9 with
        | 0, h9 => exact hj0 (hD.1 j q0 q _ hj ha (congrArg Prod.fst (Option.some.inj h9)).symm)
        | 1, h9 => exact hjq (hD.1 j q1 q _ hj hb (congrArg Prod.fst (Option.some.inj h9)).symm)
        | z + 2, h9 => cases h9
      · have := (hP j q hj).lt
        omega
/-- a switch's default -/
theorem pq_tdef (hexec : p.tables.exec = Jvm.exec) (hb : c.code = cc) {dflt lo hi : Int} {offs : Array Int} {len : Nat} {x : Int32} {tgt : Nat} (hdg : decode cc pc = .ok (.tableswitch dflt lo hi offs, len)) (ks : List Int32) (hx : ∀ k ∈ ks, ¬ x = k) (hsz : (offs.size : Int) = hi - lo + 1) (hoff : (List.range offs.size).all (fun j => offs[j]? == some dflt || ks.any (fun k => k.toInt == lo + j)) = true) (ht : (pc : Int) + dflt = (tgt : Int))
    (k : W p l e R s m args below meth c H locs cells slots Q (F0 m tgt ls rest)) : W p l e R s m args below meth c H locs cells slots Q (F0 m pc ls (.int x :: rest)) := by
  by_cases h1 : x.toInt < lo
  · exact lv_tableOut hexec hb hdg (Or.inl h1) ht k
  · by_cases h2 : hi < x.toInt
    · exact lv_tableOut hexec hb hdg (Or.inr h2) ht k
    · refine lv_tableIn hexec hb hdg h1 h2 ?_ ht k
      have hj : (x.toInt - lo).toNat < offs.size := by omega
      have h3 := List.all_eq_true.mp hoff _ (List.mem_range.mpr hj)
      rw [Bool.or_eq_true] at h3
      rcases h3 with h3 | h3
      · exact beq_iff_eq.mp h3
      · obtain ⟨k9, hk9, h4⟩ := List.any_eq_true.mp h3
        have h5 : k9.toInt = lo + ((x.toInt - lo).toNat : Int) := beq_iff_eq.mp h4
        exact absurd (Int32.toInt_inj.mp (by omega)) (hx k9 hk9)
def pq_Mw (own : String) (idx : Nat) (y : MethodName) (bytes : ByteArray) : Prop := Cond.methodLink own idx y ∈ pq_G ∧ Cond.static y ∈ pq_G ∧ Cond.initialized "java/lang/Math" ∈ pq_G ∧ Cond.code y bytes 2 (some .int) ∈ pq_G
theorem pq_max (S : CallFix p m c cc nL s args pq_G own) (w : pq_Mw own idx Lib.Math.max.name Lib.Math.max.code) (hls : ls.size = nL) (hr : (rest.map fun v => v.category).sum ≤ 8) {x y : Int32} (hdg : decode cc pc = .ok (.invokestatic idx, 3)) (hk : 1 ≤ K) (hf : cells ≤ mc ∧ slots ≤ ms)
    (kk : W p l e (pq_rm K mc ms) s m args below meth c H locs cells slots Q (F0 m (pc + 3) ls (.int (if x < y then y else x) :: rest))) : W p l e (pq_rm K mc ms) s m args below meth c H locs cells slots Q (F0 m pc ls (.int y :: .int x :: rest)) :=
  va_mmax S.1 S.2.1 (S.2.2.1.trans hls.symm) S.2.2.2.1 (S.2.2.2.2 _ w.1) (S.2.2.2.2 _ w.2.1) (S.2.2.2.2 _ w.2.2.1) (S.2.2.2.2 _ w.2.2.2) hk (by show _ ≤ 64 * K; omega) hf.1 hf.2 hdg kk
theorem pq_min (S : CallFix p m c cc nL s args pq_G own) (w : pq_Mw own idx Lib.Math.min.name Lib.Math.min.code) (hls : ls.size = nL) (hr : (rest.map fun v => v.category).sum ≤ 8) {x y : Int32} (hdg : decode cc pc = .ok (.invokestatic idx, 3)) (hk : 1 ≤ K) (hf : cells ≤ mc ∧ slots ≤ ms)
    (kk : W p l e (pq_rm K mc ms) s m args below meth c H locs cells slots Q (F0 m (pc + 3) ls (.int (if y < x then y else x) :: rest))) : W p l e (pq_rm K mc ms) s m args below meth c H locs cells slots Q (F0 m pc ls (.int y :: .int x :: rest)) :=
  va_mmin S.1 S.2.1 (S.2.2.1.trans hls.symm) S.2.2.2.1 (S.2.2.2.2 _ w.1) (S.2.2.2.2 _ w.2.1) (S.2.2.2.2 _ w.2.2.1) (S.2.2.2.2 _ w.2.2.2) hk (by show _ ≤ 64 * K; omega) hf.1 hf.2 hdg kk
end PQ4
/-! readers that answer a long -/
def pq_Rl (l : Launch) (y : MethodName) (cc : ByteArray) (nL : Nat) (k : Nat) (g : pq_g) (ws : va_W) (vs : List Value) (r : Int64) : Prop :=
  Met l y (Cond.code y cc nL (some .long) :: pq_G) (pq_rm k 0 0) (va_Pc vs (fun U => va_P g.1 pq_cl ws U.heap ∧ pq_K g U)) (vp_Sl (fun x => x = r)) 0 0 (fun _ => False)
theorem pq_Rl.of {l : Launch} {y : MethodName} {cc : ByteArray} {nL : Nat} {k : Nat} {g : pq_g} {ws : va_W} {vs : List Value} {r : Int64} {own : String} {lv : List (Nat × Value)} (hy : plainName y.cls = true) (ho : y.cls = own) (hn : (lg_sl vs).length ≤ nL) (hlv : lv_args 0 vs = lv)
    (body : ∀ (p : Program) (e : Env) (s : State) (m : MethodId) (below : List Frame) (meth : Method) (c : Code) (ls : Array Slot) (Q : State → Prop), CallFix p m c cc nL s vs.toArray pq_G own → va_P g.1 pq_cl ws s.heap → pq_K g s → lv_has ls nL lv →
      (∀ (pc : Nat) (ls : Array Slot) (v : Int64), decode cc pc = .ok (.lreturn, 1) → some v = some r → W p l e (pq_rm k 0 0) s m vs.toArray below meth c s.heap [] 0 0 Q (F0 m pc ls [.long v])) →
      W p l e (pq_rm k 0 0) s m vs.toArray below meth c s.heap [] 0 0 Q (F0 m 0 ls [])) : pq_Rl l y cc nL k g ws vs r := by
  refine Met.ofW (cc := cc) (maxL := nL) (ret := some .long) hy rfl ?_
  intro p e s m args below meth c s₁ B hml hv
  obtain ⟨rfl, hP, hK⟩ := hv
  have hts := atoms_spec (ws := Cond.code y cc nL (some .long) :: pq_G) B.pre
  have hown : s.vm.findClass own = some m.cls := by rw [← ho]; exact findClass_of_methodNamed B.named
  have hl := lv_entry vs hn
  rw [lg_entry_eq]
  generalize (lg_sl vs ++ List.replicate (nL - (lg_sl vs).length) Slot.unset).toArray = ls at hl ⊢
  rw [hlv] at hl
  refine body p e s m below meth c ls _ ⟨B.exec, B.bytes, hml, hown, fun w h => hts w (List.mem_cons_of_mem _ h)⟩ hP hK hl ?_
  intro pc ls v hdg hvr
  exact W.lret B.exec B.bytes B.returns (fun t ht hW => ⟨v, rfl, Option.some.inj hvr, ht⟩) (fun q hq => absurd hq List.not_mem_nil) hdg B.notSynchronized
section PQ5
variable {p : Program} {l : Launch} {e : Env} {s : State} {m : MethodId} {args : Array Value} {below : List Frame} {meth : Method} {c : Code} {H : Heap} {locs : List Loc} {cells slots : Nat} {Q : State → Prop}
variable {cc bytes : ByteArray} {own host C : String} {idx nL maxL n k K mc ms : Nat} {y : MethodName} {g : pq_g} {ws WS : va_W} {b : Nat} {As rest : List Value} {r : Int64} {pc : Nat} {ls : Array Slot} {st : List Value}
theorem pq_cVl (S : CallFix p m c cc nL s args pq_G own) (hM : pq_Rl l y bytes maxL k g ws (.ref b :: As) r) (w : pq_Vw own idx C y bytes maxL (some .long) n) (hK : pq_K g s) (hP : va_P g.1 pq_cl ws H) {ci : Nat} {fs : List Value} {q : vw_C} (hb : ws[0]? = some (b, .inr (ci, fs))) (hc : pq_cl[ci]? = some q) (hC : q.1 = C) (hst : st = As.reverse ++ .ref b :: rest) (hn : As.length = n) (hls : ls.size = nL) (hr : (rest.map fun v => v.category).sum ≤ 8) (hdg : decode cc pc = .ok (.invokevirtual idx, 3)) (hk : k < K) (hL : maxL ≤ 45) (hf : cells ≤ mc ∧ slots ≤ ms)
    (kk : W p l e (pq_rm K mc ms) s m args below meth c H locs cells slots Q (F0 m (pc + 3) ls (.long r :: rest))) : W p l e (pq_rm K mc ms) s m args below meth c H locs cells slots Q (F0 m pc ls st) := by
  subst hC
  refine vp_callSl (post := fun x => x = r) (pq_runCall (va_runV S hM (pq_cwV S w hk hL) ⟨pq_blindR, va_recv hK.1 hP hc hb, fun U hU hW => ⟨rfl, by rw [hU]; exact hP, hK.warm hW⟩⟩ rfl hn hls hst (lv_room hr) hdg hf)) ?_
  rintro _ rfl
  exact kk
end PQ5
