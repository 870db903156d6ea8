/-! ===== History: rowAt, push, popInto, clear ===== -/
theorem pq_famX {F : Nat → va_W} {A : Nat → Prop} {i k : Nat} : ∀ {n : Nat}, va_D A (pq_fam F n) → i < n → k < n → k ≠ i → pq_ap (F k) (F i)
  | 0, _, h, _, _ => absurd h (Nat.not_lt_zero i)
  | n + 1, hD, hi, hk, hne => by
    rcases Nat.lt_or_ge i n with q | q
    · rcases Nat.lt_or_ge k n with z | z
      · exact pq_famX (pq_D1 hD) q z hne
      · have e : k = n := by omega
        subst e
        exact pq_aps (fun x hx y hy => pq_Dx hD x (pq_famM hx q) y hy)
    · have e : i = n := by omega
      subst e
      have z : k < i := by omega
      exact fun x hx y hy => pq_Dx hD x (pq_famM hx z) y hy
theorem pq_famU2 {D : va_G} {cl : List vw_C} {H H1 : Heap} {F G : Nat → va_W} {B : va_W} {i : Nat} (hG : ∀ k, k ≠ i → G k = F k) (hk : ∀ q : Nat, q < H.size → ¬ va_A B H.size q → H1[q]? = H[q]?) (h1 : va_P D cl (G i) H1) : ∀ {n : Nat}, (∀ k, k < n → k ≠ i → pq_ap (F k) B) → va_P D cl (pq_fam F n) H → va_P D cl (pq_fam G n) H1
  | 0, _, _ => fun k q h => by simp [pq_fam] at h
  | n + 1, hB, hP => by
    refine va_P.app (pq_famU2 hG hk h1 (fun k hk => hB k (Nat.lt_succ_of_lt hk)) (pq_P1 hP)) ?_
    by_cases e : n = i
    · subst e; exact h1
    · rw [hG n e]
      exact pq_kp (pq_P2 hP) (hB n (Nat.lt_succ_self n) e) hk
set_option maxHeartbeats 4000000 in
set_option maxRecDepth 100000 in
theorem c_X2_rowAt (l : Launch) (g : pq_g) (a : Nat → Nat) (T : HistS) (j : Nat) (hj : j < 8) : Met l yX2_rowAt (Cond.code yX2_rowAt cX2_rowAt 2 (some (.object "PrioritySearchTree$Data")) :: pq_G) (pq_rm 1 0 0) (va_Pc [.ref (a 0), .int (nI j)] (fun U => va_P g.1 pq_cl (histW g a T) U.heap ∧ pq_K g U)) (va_Sq (fun x => x = some (pq_sh a (13 * j + 2) 0))) 0 0 (fun _ => False) := by
  refine Met.ofW (cc := cX2_rowAt) (maxL := 2) (ret := some (.object "PrioritySearchTree$Data")) (by decide) rfl ?_
  intro p e s m args below meth c s₁ B hml hv
  obtain ⟨rfl, hP, hK⟩ := hv
  have hts := atoms_spec (ws := Cond.code yX2_rowAt cX2_rowAt 2 (some (.object "PrioritySearchTree$Data")) :: pq_G) B.pre
  have hown : s.vm.findClass RX2 = some m.cls := findClass_of_methodNamed B.named
  have hl := lv_entry ([.ref (a 0), .int (nI j)]) (n := 2) (Nat.le_of_ble_eq_true rfl)
  rw [lg_entry_eq]
  generalize (lg_sl ([.ref (a 0), .int (nI j)]) ++ List.replicate (2 - (lg_sl ([.ref (a 0), .int (nI j)])).length) Slot.unset).toArray = ls at hl ⊢
  have hl : lv_has ls 2 [(0, .ref (a 0)), (1, .int (nI j))] := hl
  have hx := B.exec
  have hb := B.bytes
  have S : CallFix p m c cX2_rowAt 2 s ([.ref (a 0), .int (nI j)] : List Value).toArray pq_G RX2 := ⟨hx, hb, hml, hown, fun w h => hts w (List.mem_cons_of_mem _ h)⟩
  have h0 : ¬ nI j < 0 := nI_pos (by omega)
  have h8 : ¬ nI 8 ≤ nI j := nI_ge hj (by omega)
  refine lv_iload_n hx hb dX2_rowAt_0 rfl (lv_at hl 1 rfl) ?_
  refine lv_if_lt (tgt := 22) hx hb dX2_rowAt_1 (by decide) (fun h9 => absurd h9 h0) (fun _ => ?_)
  refine lv_iload_n hx hb dX2_rowAt_4 rfl (lv_at hl 1 rfl) ?_
  refine lv_aload_n hx hb dX2_rowAt_5 rfl (lv_at hl 0 rfl) ?_
  refine pq_get S hK hP inX2 0 rfl rfl 0 (by decide) fl_X2_11 rfl (v := .ref (a 1)) rfl dX2_rowAt_6 ?_
  refine va_alen (v := nI 8) hx hb hK.1 hP 1 2 rfl rfl rfl dX2_rowAt_9 ?_
  refine lv_icmp_ge (tgt := 22) hx hb dX2_rowAt_10 (by decide) (fun h9 => absurd h9 h8) (fun _ => ?_)
  refine lv_aload_n hx hb dX2_rowAt_13 rfl (lv_at hl 0 rfl) ?_
  refine pq_get S hK hP inX2 0 rfl rfl 0 (by decide) fl_X2_11 rfl (v := .ref (a 1)) rfl dX2_rowAt_14 ?_
  refine lv_iload_n hx hb dX2_rowAt_17 rfl (lv_at hl 1 rfl) ?_
  refine va_aldq hx hb hK.1 hP 1 2 rfl rfl (pq_vp (by omega) h0 h8) dX2_rowAt_18 ?_
  rw [nI_clamp (show j < 2 ^ 31 by omega)]
  refine lv_goto (tgt := 23) hx hb dX2_rowAt_19 (by decide) ?_
  have e : a (13 * j + 2) = pq_sh a (13 * j + 2) 0 := congrArg a (Nat.zero_add _).symm
  refine W.aret B.exec B.bytes B.returns (Or.inl ⟨_, rfl⟩) (Or.inr ⟨_, rfl⟩) (fun t ht hW => ⟨some (a (13 * j + 2)), rfl, by rw [e], ht⟩) (fun q hq => absurd hq List.not_mem_nil) dX2_rowAt_23 B.notSynchronized
section PQH
variable {p : Program} {l : Launch} {e : Env} {s : State} {m : MethodId} {args : Array Value} {below : List Frame} {meth : Method} {c : Code} {H : Heap} {locs : List Loc} {cells slots : Nat} {Q : State → Prop}
variable {cc : ByteArray} {nL K mc ms : Nat} {g : pq_g} {a : Nat → Nat} {rest : List Value} {pc : Nat} {ls : Array Slot}
theorem pq_row (S : CallFix p m c cc nL s args pq_G RX2) (hK : pq_K g s) {T : HistS} (hP : va_P g.1 pq_cl (histW g a T) H) {j : Nat} (hj : j < 8) (hls : ls.size = nL) (hr : (rest.map fun v => v.category).sum ≤ 8) (hdg : decode cc pc = .ok (.invokevirtual 22, 3)) (hk : 1 < K) (hf : cells ≤ mc ∧ slots ≤ ms)
    (kk : W p l e (pq_rm K mc ms) s m args below meth c H locs cells slots Q (F0 m (pc + 3) ls (.ref (pq_sh a (13 * j + 2) 0) :: rest))) : W p l e (pq_rm K mc ms) s m args below meth c H locs cells slots Q (F0 m pc ls (.int (nI j) :: .ref (a 0) :: rest)) := by
  refine va_csq (post := fun x => x = some (pq_sh a (13 * j + 2) 0)) (pq_runCall (va_runV (As := [.int (nI j)]) (rest := rest) S (c_X2_rowAt l g a T j hj) (pq_cwV S vv_X2_22 hk (by decide)) ⟨pq_blindR, va_recv hK.1 hP (ci := 2) (q0 := 0) rfl rfl, fun U hU hW => ⟨rfl, by rw [hU]; exact hP, hK.warm hW⟩⟩ rfl rfl hls rfl (lv_room hr) hdg hf)) ?_
  rintro _ rfl
  exact kk
end PQH
def f_X2_push (T : HistS) (O : DataS) : Option HistS :=
  if T.2.1 < 0 ∨ 8 ≤ T.2.1 then none
  else (f_X1_copyFrom (T.1 T.2.1.toNatClampNeg) O).bind fun D =>
    some (va_up T.1 T.2.1.toNatClampNeg D, (if 8 ≤ T.2.1 + 1 then 0 else T.2.1 + 1), (if 8 ≤ T.2.2 then 8 else T.2.2 + 1))
theorem pq_upf {α : Type} (f : Nat → α) (k : Nat) (v : α) : va_up f k v k = v := if_pos rfl
theorem pq_upn {α : Type} (f : Nat → α) {k j : Nat} (v : α) (h : j ≠ k) : va_up f k v j = f j := if_neg h
/-- a row of History and another Data, written by copyFrom: the row is new -/
theorem pq_histRow {g : pq_g} {a b : Nat → Nat} {T : HistS} {O D : DataS} {A : Nat → Prop} {H H1 : Heap} {j : Nat} (hj : j < 8) (hP : va_P g.1 pq_cl (histW g a T ++ dataW g b O) H) (hD : va_D A (histW g a T ++ dataW g b O))
    (hk : ∀ q : Nat, q < H.size → ¬ va_A (dataW g (pq_sh a (13 * j + 2)) (T.1 j) ++ dataW g b O) H.size q → H1[q]? = H[q]?) (h1 : va_P g.1 pq_cl (dataW g (pq_sh a (13 * j + 2)) D ++ dataW g b O) H1) : va_P g.1 pq_cl (histW g a (va_up T.1 j D, T.2) ++ dataW g b O) H1 := by
  have x0 := pq_Dx hD
  have xh := pq_Dx (pq_D1 hD)
  have xa := pq_Dx (pq_D2 (pq_D1 hD))
  have e : ∀ {X : va_W}, pq_ap X (pq_fam (fun k => dataW g (pq_sh a (13 * k + 2)) (T.1 k)) 8) → pq_ap X (dataW g (pq_sh a (13 * j + 2)) (T.1 j)) := fun h x hx y hy => h x hx y (pq_famM hy hj)
  refine va_P.app (va_P.app (pq_kp (pq_P1 (pq_P1 hP)) (pq_apA (e (pq_ap2 xh)) (pq_apl1 x0)) hk) (va_P.app (pq_kp (pq_P1 (pq_P2 (pq_P1 hP))) (pq_apA (e xa) (pq_apl1 (pq_apl2 x0))) hk) ?_)) (pq_P2 h1)
  refine pq_famU2 (F := fun k => dataW g (pq_sh a (13 * k + 2)) (T.1 k)) (i := j) (fun k hne => ?_) hk ?_ (fun k hk8 hne => pq_apA (pq_famX (pq_D2 (pq_D2 (pq_D1 hD))) hj hk8 hne) (fun x hx y hy => (pq_apl2 (pq_apl2 x0)) x (pq_famM hx hk8) y hy)) (pq_P2 (pq_P2 (pq_P1 hP)))
  · show dataW g (pq_sh a (13 * k + 2)) (va_up T.1 j D k) = _
    rw [pq_upn _ _ hne]
  · show va_P g.1 pq_cl (dataW g (pq_sh a (13 * j + 2)) (va_up T.1 j D j)) H1
    rw [pq_upf]
    exact pq_P1 h1
set_option maxHeartbeats 4000000 in
set_option maxRecDepth 100000 in
theorem c_X2_push (l : Launch) (g : pq_g) (a b : Nat → Nat) (T : HistS) (O : DataS) (T1 : HistS) (hf : f_X2_push T O = some T1) : pq_Mv l yX2_push cX2_push 3 6 g (histW g a T ++ dataW g b O) [.ref (a 0), .ref (b 0)] (histW g a T1 ++ dataW g b O) := by
  rw [f_X2_push] at hf
  refine pq_Mv.of (own := RX2) (by decide) rfl (Nat.le_of_ble_eq_true rfl) rfl ?_
  intro p e s m below meth c ls Q A S hP hK hD hS hA hl hend
  obtain ⟨hx, hb, hml, hown, hts⟩ := id S
  by_cases h1 : T.2.1 < 0 ∨ 8 ≤ T.2.1
  · exact absurd (pq_ifp h1 hf) (fun h9 => by cases h9)
  replace hf := pq_ifn h1 hf
  obtain ⟨D, hD9, hf⟩ := pq_bind hf
  obtain ⟨j, hj, ej⟩ : ∃ j, j < 8 ∧ T.2.1 = nI j := by
    rcases pk_ix T.2.1 (n := 8) (by omega) with h | h | h
    · exact absurd (Or.inl h) h1
    · exact absurd (Or.inr h) h1
    · exact h
  obtain ⟨hr, hn, hc⟩ := T
  simp only at ej h1 hf hD9
  subst ej
  rw [nI_clamp (show j < 2 ^ 31 by omega)] at hD9 hf
  refine lv_aload_n hx hb dX2_push_0 rfl (lv_at hl 0 rfl) ?_
  refine lv_aload_n hx hb dX2_push_1 rfl (lv_at hl 0 rfl) ?_
  refine pq_get S hK (pq_P1 hP) inX2 0 rfl rfl 1 (by decide) fl_X2_18 rfl (v := .int (nI j)) rfl dX2_push_2 ?_
  refine pq_row S hK (pq_P1 hP) hj hl.1 (Nat.le_of_ble_eq_true rfl) dX2_push_5 (by decide) ⟨Nat.le_refl _, Nat.le_refl _⟩ ?_
  refine lv_astore_n (lv' := [(2, .ref (pq_sh a (13 * j + 2) 0)), (0, .ref (a 0)), (1, .ref (b 0))]) hx hb dX2_push_8 rfl hl (by decide) rfl (fun ls hl => ?_)
  refine lv_aload_n hx hb dX2_push_9 rfl (lv_at hl 0 rfl) ?_
  refine lv_ifnonnull (tgt := 14) hx hb dX2_push_10 (by decide) ?_
  refine lv_aload_n hx hb dX2_push_14 rfl (lv_at hl 0 rfl) ?_
  refine lv_aload_n hx hb dX2_push_15 rfl (lv_at hl 2 rfl) ?_
  refine pq_cVv S (c_X1_copyFrom l g (pq_sh a (13 * j + 2)) b (hr j) O D hD9) vv_X2_26 hK (va_P.app (pq_famP hj (pq_P2 (pq_P2 (pq_P1 hP)))) (pq_P2 hP)) (pq_Da (pq_famD hj (pq_D2 (pq_D2 (pq_D1 hD)))) (pq_D2 hD) (fun x hx y hy => (pq_apl2 (pq_apl2 (pq_Dx hD))) x (pq_famM hx hj) y hy)) hS hA rfl rfl rfl rfl rfl hl.1 (Nat.le_of_ble_eq_true rfl) dX2_push_16 (by decide) (by decide) ⟨Nat.le_refl _, Nat.le_refl _⟩ (fun H9 locs hk hP1 hS => ?_)
  replace hP := pq_histRow (T := (hr, nI j, hc)) hj hP hD hk hP1
  replace hD : va_D A (histW g a (va_up hr j D, nI j, hc) ++ dataW g b O) := pq_adr hD (ad_app (ad_X2 _ _) (ad_X1 _ _))
  clear hk
  have J41 : ∀ (v : Int32) (H : Heap) (locs : List Loc) (ls : Array Slot), v = (if 8 ≤ nI j + 1 then 0 else nI j + 1) → va_P g.1 pq_cl (histW g a (va_up hr j D, nI j, hc) ++ dataW g b O) H → va_S A s.heap H locs → lv_has ls 3 [(2, .ref (pq_sh a (13 * j + 2) 0)), (0, .ref (a 0)), (1, .ref (b 0))] → W p l e (pq_rm 6 0 0) s m ([.ref (a 0), .ref (b 0)] : List Value).toArray below meth c H locs 0 0 Q (F0 m 41 ls [.int v, .ref (a 0)]) := by
    intro v H locs ls hv hP hS hl
    have J65 : ∀ (w : Int32) (H : Heap) (locs : List Loc) (ls : Array Slot), w = (if 8 ≤ hc then 8 else hc + 1) → va_P g.1 pq_cl (histW g a (va_up hr j D, v, hc) ++ dataW g b O) H → va_D A (histW g a (va_up hr j D, v, hc) ++ dataW g b O) → va_S A s.heap H locs → W p l e (pq_rm 6 0 0) s m ([.ref (a 0), .ref (b 0)] : List Value).toArray below meth c H locs 0 0 Q (F0 m 65 ls [.int w, .ref (a 0)]) := by
      intro w H locs ls hw hP hD hS
      refine pq_putf S hK hP hD hS inX2 tyX2_ok nmX2 0 rfl rfl 2 (by decide) fl_X2_30 rfl rfl (ty := .int) rfl rfl rfl (Nat.le_of_ble_eq_true rfl) dX2_push_65 (fun H locs hP hS => ?_)
      exact hend _ _ _ _ dX2_push_68 (by rw [← Option.some.inj hf, ← hv, ← hw]; exact hP) hS
    refine pq_putf S hK hP hD hS inX2 tyX2_ok nmX2 0 rfl rfl 1 (by decide) fl_X2_18 rfl rfl (ty := .int) rfl rfl rfl (Nat.le_of_ble_eq_true rfl) dX2_push_41 (fun H locs hP hS => ?_)
    replace hP : va_P g.1 pq_cl (histW g a (va_up hr j D, v, hc) ++ dataW g b O) H := hP
    replace hD : va_D A (histW g a (va_up hr j D, v, hc) ++ dataW g b O) := pq_adr hD (ad_app (ad_X2 _ _) (ad_X1 _ _))
    refine lv_aload_n hx hb dX2_push_44 rfl (lv_at hl 1 rfl) ?_
    refine lv_aload_n hx hb dX2_push_45 rfl (lv_at hl 1 rfl) ?_
    refine pq_get S hK (pq_P1 hP) inX2 0 rfl rfl 2 (by decide) fl_X2_30 rfl (v := .int hc) rfl dX2_push_46 ?_
    refine lv_bipush (v := 8) hx hb dX2_push_49 (by decide) ?_
    refine lv_icmp_ge (tgt := 63) hx hb dX2_push_51 (by decide) (fun h3 => ?_) (fun h3 => ?_)
    · refine lv_bipush (v := 8) hx hb dX2_push_63 (by decide) ?_
      exact J65 8 _ _ _ (if_pos h3).symm hP hD hS
    · refine lv_aload_n hx hb dX2_push_54 rfl (lv_at hl 1 rfl) ?_
      refine pq_get S hK (pq_P1 hP) inX2 0 rfl rfl 2 (by decide) fl_X2_30 rfl (v := .int hc) rfl dX2_push_55 ?_
      refine lv_iconst (v := 1) hx hb dX2_push_58 (by decide) ?_
      refine lv_iadd hx hb dX2_push_59 ?_
      refine lv_goto (tgt := 65) hx hb dX2_push_60 (by decide) ?_
      exact J65 (hc + 1) _ _ _ (if_neg h3).symm hP hD hS
  refine lv_aload_n hx hb dX2_push_19 rfl (lv_at hl 1 rfl) ?_
  refine lv_aload_n hx hb dX2_push_20 rfl (lv_at hl 1 rfl) ?_
  refine pq_get S hK (pq_P1 hP) inX2 0 rfl rfl 1 (by decide) fl_X2_18 rfl (v := .int (nI j)) rfl dX2_push_21 ?_
  refine lv_iconst (v := 1) hx hb dX2_push_24 (by decide) ?_
  refine lv_iadd hx hb dX2_push_25 ?_
  refine lv_bipush (v := 8) hx hb dX2_push_26 (by decide) ?_
  refine lv_icmp_ge (tgt := 40) hx hb dX2_push_28 (by decide) (fun h3 => ?_) (fun h3 => ?_)
  · refine lv_iconst (v := 0) hx hb dX2_push_40 (by decide) ?_
    exact J41 0 _ _ _ (if_pos h3).symm hP hS hl
  · refine lv_aload_n hx hb dX2_push_31 rfl (lv_at hl 1 rfl) ?_
    refine pq_get S hK (pq_P1 hP) inX2 0 rfl rfl 1 (by decide) fl_X2_18 rfl (v := .int (nI j)) rfl dX2_push_32 ?_
    refine lv_iconst (v := 1) hx hb dX2_push_35 (by decide) ?_
    refine lv_iadd hx hb dX2_push_36 ?_
    refine lv_goto (tgt := 41) hx hb dX2_push_37 (by decide) ?_
    exact J41 (nI j + 1) _ _ _ (if_neg h3).symm hP hS hl
