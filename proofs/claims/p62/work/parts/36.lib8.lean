/-! ===== my own layer, 11: calls from the law, whose room is the claim's ===== -/
section PQL8
variable {p : Program} {l : Launch} {e : Env} {s : State} {m : MethodId} {args : Array Value} {below : List Frame} {meth : Method} {c : Code} {H H0 : Heap} {locs : List Loc} {cells slots : Nat} {Q : State → Prop} {A : Nat → Prop}
variable {cc bytes : ByteArray} {own C : String} {idx nL maxL n k : Nat} {y : MethodName} {g : pq_g} {ws ws' : va_W} {b : Nat} {As rest : List Value} {pc : Nat} {ls : Array Slot} {st : List Value} {R : Room} {ret : Option FieldType}
theorem pq_cwVR (S : CallFix p m c cc nL s args pq_G own) (w : pq_Vw own idx C y bytes maxL ret n) {a b : Nat} (hR : k + 1 ≤ R.frames ∧ 8 + (maxL + 11) + 64 * k ≤ R.locals) : CallW R s args own C idx y bytes maxL ret (Cond.code y bytes maxL ret :: pq_G) (pq_rm k a b) a b n := by
  obtain ⟨⟨h1, h2, h3, h4, h5⟩, hd⟩ := w
  have ht := S.2.2.2.2
  exact ⟨callB_of n ht (pq_goodIn h5) rfl rfl rfl (ht _ h4) (ht _ h1) hd hR, ht _ h2, ht _ h3⟩
theorem pq_lV (S : CallFix p m c cc nL s args pq_G own) {r : Int32} {ty : FieldType} (hM : pq_R l y bytes maxL ty k g ws (.ref b :: As) r) (w : pq_Vw own idx C y bytes maxL (some ty) n) (hK : pq_K g s) (hP : va_P g.1 pq_cl ws H) {ci : Nat} {fs : List Value} {q : vw_C} (hb : ws[0]? = some (b, .inr (ci, fs))) (hc : pq_cl[ci]? = some q) (hC : q.1 = C) (hst : st = As.reverse ++ .ref b :: rest) (hn : As.length = n) (hls : ls.size = nL) (hr : (rest.map fun v => v.category).sum ≤ 8) (hdg : decode cc pc = .ok (.invokevirtual idx, 3)) (hR : k + 1 ≤ R.frames ∧ 8 + (maxL + 11) + 64 * k ≤ R.locals) (hf : cells ≤ R.cells ∧ slots ≤ R.slots)
    (kk : W p l e R s m args below meth c H locs cells slots Q (F0 m (pc + 3) ls (.int r :: rest))) : W p l e R s m args below meth c H locs cells slots Q (F0 m pc ls st) := by
  subst hC
  refine vp_callSi (post := fun x => x = r) (pq_runCall (va_runV S hM (pq_cwVR S w hR) ⟨pq_blindR, va_recv hK.1 hP hc hb, fun U hU hW => ⟨rfl, by rw [hU]; exact hP, hK.warm hW⟩⟩ rfl hn hls hst (lv_room hr) hdg hf)) ?_
  rintro _ rfl
  exact kk
theorem pq_lVi (S : CallFix p m c cc nL s args pq_G own) {r : Int32} {ty : FieldType} (hM : pq_Mi l y bytes maxL ty k g ws (.ref b :: As) r ws') (w : pq_Vw own idx C y bytes maxL (some ty) n) (hK : pq_K g s) (hP : va_P g.1 pq_cl ws H) (hD : va_D A ws) (hS : va_S A H0 H locs) (hA : ∀ q : Nat, H0.size ≤ q → A q) {ci : Nat} {fs : List Value} {q : vw_C} (hb : ws[0]? = some (b, .inr (ci, fs))) (hc : pq_cl[ci]? = some q) (hC : q.1 = C) (hst : st = As.reverse ++ .ref b :: rest) (hn : As.length = n) (hls : ls.size = nL) (hr : (rest.map fun v => v.category).sum ≤ 8) (hdg : decode cc pc = .ok (.invokevirtual idx, 3)) (hR : k + 1 ≤ R.frames ∧ 8 + (maxL + 11) + 64 * k ≤ R.locals) (hf : cells ≤ R.cells ∧ slots ≤ R.slots)
    (kk : ∀ (H1 : Heap) (locs1 : List Loc), (∀ q : Nat, q < H.size → ¬ va_A ws H.size q → H1[q]? = H[q]?) → va_P g.1 pq_cl ws' H1 → va_S A H0 H1 locs1 → W p l e R s m args below meth c H1 locs1 cells slots Q (F0 m (pc + 3) ls (.int r :: rest))) : W p l e R s m args below meth c H locs cells slots Q (F0 m pc ls st) := by
  subst hC
  refine va_calli (va_runV S (hM H.size) (pq_cwVR S w hR) ⟨pq_blindM, va_recv hK.1 hP hc hb, fun U hU hW => ⟨rfl, by rw [hU], by rw [hU]; exact hP, hK.warm hW, hD.weaken (fun _ _ _ _ => trivial)⟩⟩ rfl hn hls hst (lv_room hr) hdg hf) hS (fun q _ h => pq_Afree hD hS hA q h) (pq_Afree hD hS hA) ?_
  rintro _ _ t H1 locs1 ht - rfl hB - hk1 hS1
  exact kk H1 locs1 hk1 (by rw [← ht]; exact hB) hS1
theorem pq_lVl (S : CallFix p m c cc nL s args pq_G own) {r : Int64} (hM : pq_Ml l y bytes maxL k g ws (.ref b :: As) r ws') (w : pq_Vw own idx C y bytes maxL (some .long) n) (hK : pq_K g s) (hP : va_P g.1 pq_cl ws H) (hD : va_D A ws) (hS : va_S A H0 H locs) (hA : ∀ q : Nat, H0.size ≤ q → A q) {ci : Nat} {fs : List Value} {q : vw_C} (hb : ws[0]? = some (b, .inr (ci, fs))) (hc : pq_cl[ci]? = some q) (hC : q.1 = C) (hst : st = As.reverse ++ .ref b :: rest) (hn : As.length = n) (hls : ls.size = nL) (hr : (rest.map fun v => v.category).sum ≤ 8) (hdg : decode cc pc = .ok (.invokevirtual idx, 3)) (hR : k + 1 ≤ R.frames ∧ 8 + (maxL + 11) + 64 * k ≤ R.locals) (hf : cells ≤ R.cells ∧ slots ≤ R.slots)
    (kk : ∀ (H1 : Heap) (locs1 : List Loc), (∀ q : Nat, q < H.size → ¬ va_A ws H.size q → H1[q]? = H[q]?) → va_P g.1 pq_cl ws' H1 → va_S A H0 H1 locs1 → W p l e R s m args below meth c H1 locs1 cells slots Q (F0 m (pc + 3) ls (.long r :: rest))) : W p l e R s m args below meth c H locs cells slots Q (F0 m pc ls st) := by
  subst hC
  refine va_calll (va_runV S (hM H.size) (pq_cwVR S w hR) ⟨pq_blindM, va_recv hK.1 hP hc hb, fun U hU hW => ⟨rfl, by rw [hU], by rw [hU]; exact hP, hK.warm hW, hD.weaken (fun _ _ _ _ => trivial)⟩⟩ rfl hn hls hst (lv_room hr) hdg hf) hS (fun q _ h => pq_Afree hD hS hA q h) (pq_Afree hD hS hA) ?_
  rintro _ _ t H1 locs1 ht - rfl hB - hk1 hS1
  exact kk H1 locs1 hk1 (by rw [← ht]; exact hB) hS1
theorem pq_lVd (S : CallFix p m c cc nL s args pq_G own) {r : UInt64} (hM : pq_Md l y bytes maxL k g ws (.ref b :: As) r ws') (w : pq_Vw own idx C y bytes maxL (some .double) n) (hK : pq_K g s) (hP : va_P g.1 pq_cl ws H) (hD : va_D A ws) (hS : va_S A H0 H locs) (hA : ∀ q : Nat, H0.size ≤ q → A q) {ci : Nat} {fs : List Value} {q : vw_C} (hb : ws[0]? = some (b, .inr (ci, fs))) (hc : pq_cl[ci]? = some q) (hC : q.1 = C) (hst : st = As.reverse ++ .ref b :: rest) (hn : As.length = n) (hls : ls.size = nL) (hr : (rest.map fun v => v.category).sum ≤ 8) (hdg : decode cc pc = .ok (.invokevirtual idx, 3)) (hR : k + 1 ≤ R.frames ∧ 8 + (maxL + 11) + 64 * k ≤ R.locals) (hf : cells ≤ R.cells ∧ slots ≤ R.slots)
    (kk : ∀ (H1 : Heap) (locs1 : List Loc), (∀ q : Nat, q < H.size → ¬ va_A ws H.size q → H1[q]? = H[q]?) → va_P g.1 pq_cl ws' H1 → va_S A H0 H1 locs1 → W p l e R s m args below meth c H1 locs1 cells slots Q (F0 m (pc + 3) ls (.double r :: rest))) : W p l e R s m args below meth c H locs cells slots Q (F0 m pc ls st) := by
  subst hC
  refine va_calld (va_runV S (hM H.size) (pq_cwVR S w hR) ⟨pq_blindM, va_recv hK.1 hP hc hb, fun U hU hW => ⟨rfl, by rw [hU], by rw [hU]; exact hP, hK.warm hW, hD.weaken (fun _ _ _ _ => trivial)⟩⟩ rfl hn hls hst (lv_room hr) hdg hf) hS (fun q _ h => pq_Afree hD hS hA q h) (pq_Afree hD hS hA) ?_
  rintro _ _ t H1 locs1 ht - rfl hB - hk1 hS1
  exact kk H1 locs1 hk1 (by rw [← ht]; exact hB) hS1
theorem pq_lVf (S : CallFix p m c cc nL s args pq_G own) {r : UInt32} (hM : pq_Mf l y bytes maxL k g ws (.ref b :: As) r ws') (w : pq_Vw own idx C y bytes maxL (some .float) n) (hK : pq_K g s) (hP : va_P g.1 pq_cl ws H) (hD : va_D A ws) (hS : va_S A H0 H locs) (hA : ∀ q : Nat, H0.size ≤ q → A q) {ci : Nat} {fs : List Value} {q : vw_C} (hb : ws[0]? = some (b, .inr (ci, fs))) (hc : pq_cl[ci]? = some q) (hC : q.1 = C) (hst : st = As.reverse ++ .ref b :: rest) (hn : As.length = n) (hls : ls.size = nL) (hr : (rest.map fun v => v.category).sum ≤ 8) (hdg : decode cc pc = .ok (.invokevirtual idx, 3)) (hR : k + 1 ≤ R.frames ∧ 8 + (maxL + 11) + 64 * k ≤ R.locals) (hf : cells ≤ R.cells ∧ slots ≤ R.slots)
    (kk : ∀ (H1 : Heap) (locs1 : List Loc), (∀ q : Nat, q < H.size → ¬ va_A ws H.size q → H1[q]? = H[q]?) → va_P g.1 pq_cl ws' H1 → va_S A H0 H1 locs1 → W p l e R s m args below meth c H1 locs1 cells slots Q (F0 m (pc + 3) ls (.float r :: rest))) : W p l e R s m args below meth c H locs cells slots Q (F0 m pc ls st) := by
  subst hC
  refine va_callf (va_runV S (hM H.size) (pq_cwVR S w hR) ⟨pq_blindM, va_recv hK.1 hP hc hb, fun U hU hW => ⟨rfl, by rw [hU], by rw [hU]; exact hP, hK.warm hW, hD.weaken (fun _ _ _ _ => trivial)⟩⟩ rfl hn hls hst (lv_room hr) hdg hf) hS (fun q _ h => pq_Afree hD hS hA q h) (pq_Afree hD hS hA) ?_
  rintro _ _ t H1 locs1 ht - rfl hB - hk1 hS1
  exact kk H1 locs1 hk1 (by rw [← ht]; exact hB) hS1
end PQL8
/-! the law's world in four parts: what a call may write, and the rest -/
section PQ4
variable {D : va_G} {cl : List vw_C} {A : Nat → Prop} {H : Heap} {O B X Y : va_W}
theorem pq_4a (hP : va_P D cl (O ++ (B ++ (X ++ Y))) H) (hD : va_D A (O ++ (B ++ (X ++ Y)))) : va_P D cl (O ++ X) H ∧ va_D A (O ++ X) ∧ ∀ {O' X' : va_W} {H1 : Heap}, (∀ q : Nat, q < H.size → ¬ va_A (O ++ X) H.size q → H1[q]? = H[q]?) → va_P D cl (O' ++ X') H1 → va_P D cl (O' ++ (B ++ (X' ++ Y))) H1 := by
  have xO := pq_Dx hD
  have xB := pq_Dx (pq_D2 hD)
  have xX := pq_Dx (pq_D2 (pq_D2 hD))
  refine ⟨va_P.app (pq_P1 hP) (pq_P1 (pq_P2 (pq_P2 hP))), pq_Da (pq_D1 hD) (pq_D1 (pq_D2 (pq_D2 hD))) (pq_ap1 (pq_ap2 xO)), fun hk h1 => va_P.app (pq_P1 h1) (va_P.app (pq_kp (pq_P1 (pq_P2 hP)) (pq_apA (pq_aps (pq_ap1 xO)) (pq_ap1 xB)) hk) (va_P.app (pq_P2 h1) (pq_kp (pq_P2 (pq_P2 (pq_P2 hP))) (pq_apA (pq_aps (pq_ap2 (pq_ap2 xO))) (pq_aps xX)) hk)))⟩
theorem pq_4b (hP : va_P D cl (O ++ (B ++ (X ++ Y))) H) (hD : va_D A (O ++ (B ++ (X ++ Y)))) : va_P D cl (B ++ X) H ∧ va_D A (B ++ X) ∧ ∀ {B' X' : va_W} {H1 : Heap}, (∀ q : Nat, q < H.size → ¬ va_A (B ++ X) H.size q → H1[q]? = H[q]?) → va_P D cl (B' ++ X') H1 → va_P D cl (O ++ (B' ++ (X' ++ Y))) H1 := by
  have xO := pq_Dx hD
  have xB := pq_Dx (pq_D2 hD)
  have xX := pq_Dx (pq_D2 (pq_D2 hD))
  refine ⟨va_P.app (pq_P1 (pq_P2 hP)) (pq_P1 (pq_P2 (pq_P2 hP))), pq_Da (pq_D1 (pq_D2 hD)) (pq_D1 (pq_D2 (pq_D2 hD))) (pq_ap1 xB), fun hk h1 => va_P.app (pq_kp (pq_P1 hP) (pq_apA (pq_ap1 xO) (pq_ap1 (pq_ap2 xO))) hk) (va_P.app (pq_P1 h1) (va_P.app (pq_P2 h1) (pq_kp (pq_P2 (pq_P2 (pq_P2 hP))) (pq_apA (pq_aps (pq_ap2 xB)) (pq_aps xX)) hk)))⟩
theorem pq_4x (hP : va_P D cl (O ++ (B ++ (X ++ Y))) H) (hD : va_D A (O ++ (B ++ (X ++ Y)))) : va_P D cl X H ∧ va_D A X ∧ ∀ {X' : va_W} {H1 : Heap}, (∀ q : Nat, q < H.size → ¬ va_A X H.size q → H1[q]? = H[q]?) → va_P D cl X' H1 → va_P D cl (O ++ (B ++ (X' ++ Y))) H1 := by
  have xO := pq_Dx hD
  have xB := pq_Dx (pq_D2 hD)
  have xX := pq_Dx (pq_D2 (pq_D2 hD))
  refine ⟨pq_P1 (pq_P2 (pq_P2 hP)), pq_D1 (pq_D2 (pq_D2 hD)), fun hk h1 => va_P.app (pq_kp (pq_P1 hP) (pq_ap1 (pq_ap2 xO)) hk) (va_P.app (pq_kp (pq_P1 (pq_P2 hP)) (pq_ap1 xB) hk) (va_P.app h1 (pq_kp (pq_P2 (pq_P2 (pq_P2 hP))) (pq_aps xX) hk)))⟩
theorem pq_4y (hP : va_P D cl (O ++ (B ++ (X ++ Y))) H) (hD : va_D A (O ++ (B ++ (X ++ Y)))) : va_P D cl Y H ∧ va_D A Y ∧ ∀ {Y' : va_W} {H1 : Heap}, (∀ q : Nat, q < H.size → ¬ va_A Y H.size q → H1[q]? = H[q]?) → va_P D cl Y' H1 → va_P D cl (O ++ (B ++ (X ++ Y'))) H1 := by
  have xO := pq_Dx hD
  have xB := pq_Dx (pq_D2 hD)
  have xX := pq_Dx (pq_D2 (pq_D2 hD))
  refine ⟨pq_P2 (pq_P2 (pq_P2 hP)), pq_D2 (pq_D2 (pq_D2 hD)), fun hk h1 => va_P.app (pq_kp (pq_P1 hP) (pq_ap2 (pq_ap2 xO)) hk) (va_P.app (pq_kp (pq_P1 (pq_P2 hP)) (pq_ap2 xB) hk) (va_P.app (pq_kp (pq_P1 (pq_P2 (pq_P2 hP))) xX hk) h1))⟩
end PQ4
