/-! ===== my own layer, 8: strings ===== -/
/-- a method that reads the patterns -/
def pq_Rs (l : Launch) (y : MethodName) (cc : ByteArray) (nL : Nat) (ty : FieldType) (k : Nat) (ad av : Nat → Nat) (vs : List Value) (r : Int32) : Prop :=
  Met l y (Cond.code y cc nL (some ty) :: pq_G) (pq_rm k 0 0) (va_Pc vs (fun U => pq_SX ad av (fun _ => False) U U.heap)) (vp_Si (fun x => x = r)) 0 0 (fun _ => False)
theorem pq_Rs.of {l : Launch} {y : MethodName} {cc : ByteArray} {nL : Nat} {ty : FieldType} {k : Nat} {ad av : Nat → Nat} {vs : List Value} {r : Int32} {own : String} {lv : List (Nat × Value)} (hy : plainName y.cls = true) (ho : y.cls = own) (hn : (lg_sl vs).length ≤ nL) (hlv : lv_args 0 vs = lv)
    (body : ∀ (p : Program) (e : Env) (s : State) (m : MethodId) (below : List Frame) (meth : Method) (c : Code) (ls : Array Slot) (Q : State → Prop), CallFix p m c cc nL s vs.toArray pq_G own → pq_SX ad av (fun _ => False) s s.heap → va_S (fun _ => False) s.heap s.heap [] → lv_has ls nL lv →
      (∀ (pc : Nat) (ls : Array Slot) (v : Int32), decode cc pc = .ok (.ireturn, 1) → narrow ty (.int v) = .int v → v = r → W p l e (pq_rm k 0 0) s m vs.toArray below meth c s.heap [] 0 0 Q (F0 m pc ls [.int v])) →
      W p l e (pq_rm k 0 0) s m vs.toArray below meth c s.heap [] 0 0 Q (F0 m 0 ls [])) : pq_Rs l y cc nL ty k ad av vs r := by
  refine Met.ofW (cc := cc) (maxL := nL) (ret := some ty) hy rfl ?_
  intro p e s m args below meth c s₁ B hml hv
  obtain ⟨rfl, hE⟩ := hv
  have hts := atoms_spec (ws := Cond.code y cc nL (some ty) :: pq_G) B.pre
  have hown : s.vm.findClass own = some m.cls := by rw [← ho]; exact findClass_of_methodNamed B.named
  have hl := lv_entry vs hn
  rw [lg_entry_eq]
  generalize (lg_sl vs ++ List.replicate (nL - (lg_sl vs).length) Slot.unset).toArray = ls at hl ⊢
  rw [hlv] at hl
  refine body p e s m below meth c ls _ ⟨B.exec, B.bytes, hml, hown, fun w h => hts w (List.mem_cons_of_mem _ h)⟩ hE va_S.rf hl ?_
  intro pc ls v hdg hnar hvr
  exact W.zret B.exec B.bytes B.returns hnar (fun t ht hW => ⟨v, rfl, hvr, ht⟩) (fun q hq => absurd hq List.not_mem_nil) hdg B.notSynchronized
theorem pq_SX.at {ad av : Nat → Nat} {A : Nat → Prop} {s U : State} {H : Heap} {locs : List Loc} (hE : pq_SX ad av A s s.heap) (hS : va_S A s.heap H locs) (hU : U.heap = H) (hW : s.WarmedH U.vm) : pq_SX ad av (fun _ => False) U U.heap := by
  rw [hU]
  exact hE.go hS.2.1 hW (fun _ h => h.elim)
theorem pq_blindS {ad av : Nat → Nat} {vs : List Value} : FrameBlind (va_Pc vs (fun U => pq_SX ad av (fun _ => False) U U.heap)) := fun _ _ _ _ q => ⟨q.1, q.2.call⟩
section PQS
variable {p : Program} {l : Launch} {e : Env} {s : State} {m : MethodId} {args : Array Value} {below : List Frame} {meth : Method} {c : Code} {H : Heap} {locs : List Loc} {cells slots : Nat} {Q : State → Prop} {A : Nat → Prop}
variable {cc bytes : ByteArray} {own : String} {idx nL maxL n k K mc ms : Nat} {y : MethodName} {ad av : Nat → Nat} {As rest : List Value} {r : Int32} {ty : FieldType} {pc : Nat} {ls : Array Slot} {st : List Value}
theorem pq_cVs (S : CallFix p m c cc nL s args pq_G own) {i : Nat} (hM : pq_Rs l y bytes maxL ty k ad av (.ref (ad i) :: As) r) (w : pq_Vw own idx "java/lang/String" y bytes maxL (some ty) n) (hE : pq_SX ad av A s s.heap) (hi : i < 7) (hS : va_S A s.heap H locs) (hst : st = As.reverse ++ .ref (ad i) :: rest) (hn : As.length = n) (hls : ls.size = nL) (hr : (rest.map fun v => v.category).sum ≤ 8) (hdg : decode cc pc = .ok (.invokevirtual idx, 3)) (hk : k < K) (hL : maxL ≤ 45) (hf : cells ≤ mc ∧ slots ≤ ms)
    (kk : W p l e (pq_rm K mc ms) s m args below meth c H locs cells slots Q (F0 m (pc + 3) ls (.int r :: rest))) : W p l e (pq_rm K mc ms) s m args below meth c H locs cells slots Q (F0 m pc ls st) := by
  refine vp_callSi (post := fun x => x = r) (pq_runCall (va_runV S hM (pq_cwV S w hk hL) ⟨pq_blindS, vk_recv (hE.1 i hi) (i := 0) (by decide) hS, fun U hU hW => ⟨rfl, hE.at hS hU hW⟩⟩ rfl hn hls hst (lv_room hr) hdg hf)) ?_
  rintro _ rfl
  exact kk
theorem pq_cSs (S : CallFix p m c cc nL s args pq_G own) (hM : pq_Rs l y bytes maxL ty k ad av As r) (w : pq_Sw own idx y bytes maxL (some ty) n) (hE : pq_SX ad av A s s.heap) (hS : va_S A s.heap H locs) (hst : st = As.reverse ++ rest) (hn : As.length = n) (hls : ls.size = nL) (hr : (rest.map fun v => v.category).sum ≤ 8) (hdg : decode cc pc = .ok (.invokestatic idx, 3)) (hk : k < K) (hL : maxL ≤ 45) (hf : cells ≤ mc ∧ slots ≤ ms)
    (kk : W p l e (pq_rm K mc ms) s m args below meth c H locs cells slots Q (F0 m (pc + 3) ls (.int r :: rest))) : W p l e (pq_rm K mc ms) s m args below meth c H locs cells slots Q (F0 m pc ls st) := by
  refine vp_callSi (post := fun x => x = r) (pq_runCall (va_runS S hM (pq_cwS S w hk hL) ⟨pq_blindS, fun U hU hW => ⟨rfl, hE.at hS hU hW⟩⟩ rfl hn hls hst (lv_room hr) hdg hf)) ?_
  rintro _ rfl
  exact kk
/-- a field of a string -/
theorem pq_sget (S : CallFix p m c cc nL s args pq_G RJ0) {o nm d : String} {v : Value} {q : Nat} (hE : va_OF "java/lang/String" nm d v q A s s.heap) (hS : va_S A s.heap H locs) (hl : Cond.fieldLink RJ0 idx "java/lang/String" nm d ∈ pq_G) (hdg : decode cc pc = .ok (.getfield idx, 3))
    (kk : W p l e (pq_rm K mc ms) s m args below meth c H locs cells slots Q (F0 m (pc + 3) ls (v :: rest))) : W p l e (pq_rm K mc ms) s m args below meth c H locs cells slots Q (F0 m pc ls (.ref q :: rest)) :=
  vk_getf S.1 S.2.1 hE hS S.2.2.2.1 (S.2.2.2.2 _ hl) (fun _ h => h) hdg kk
theorem pq_sgets (S : CallFix p m c cc nL s args pq_G RJ0) {C nm d : String} {v : Value} (hZ : va_Z C nm d v A s s.heap) (hS : va_S A s.heap H locs) (hl : Cond.fieldLink RJ0 idx C nm d ∈ pq_G) (hdg : decode cc pc = .ok (.getstatic idx, 3))
    (kk : W p l e (pq_rm K mc ms) s m args below meth c H locs cells slots Q (F0 m (pc + 3) ls (v :: rest))) : W p l e (pq_rm K mc ms) s m args below meth c H locs cells slots Q (F0 m pc ls rest) :=
  va_gets S.1 S.2.1 hZ hS S.2.2.2.1 (S.2.2.2.2 _ hl) (fun _ h => h) hdg kk
end PQS
set_option maxHeartbeats 4000000
set_option maxRecDepth 100000
theorem pq_le_ok : ∀ i, i < 7 → (Int32.ofNat (pq_le.getD i 0) = 0 ↔ pq_le.getD i 0 = 0) ∧ Int32.ofNat (pq_le.getD i 0) >>> (0 &&& 31) = nI (pq_le.getD i 0) ∧ pq_le.getD i 0 < 2 ^ 31 := by decide
/-- isEmpty() -/
theorem c_J0_isEmpty (l : Launch) (ad av : Nat → Nat) (i : Nat) (hi : i < 7) : pq_Rs l yJ0_isEmpty_aae02 cJ0_isEmpty_aae02 1 .boolean 1 ad av [.ref (ad i)] (if pq_le.getD i 0 = 0 then 1 else 0) := by
  refine pq_Rs.of (own := RJ0) (by decide) rfl (Nat.le_of_ble_eq_true rfl) rfl ?_
  intro p e s m below meth c ls Q S hE hS hl hend
  obtain ⟨hx, hb, hml, hown, hts⟩ := id S
  obtain ⟨h1, h2, h3, h4⟩ := (hE.1 i hi).1 0 (by decide)
  replace h4 : va_T .byte (av i) (pq_le.getD i 0) (fun j => .int ((pq_by.getD i []).getD j 0)) (fun _ => False) s s.heap := h4
  refine lv_aload_n hx hb dJ0_isEmpty_aae02_0 rfl (lv_at hl 0 rfl) ?_
  refine pq_sget (o := "") S h3 hS fl_J0_9 dJ0_isEmpty_aae02_1 ?_
  refine va_tlen hx hb h4 hS rfl dJ0_isEmpty_aae02_4 ?_
  have hz := (pq_le_ok i hi).1
  refine lv_if_ne (tgt := 12) hx hb dJ0_isEmpty_aae02_5 (by decide) (fun h9 => ?_) (fun h9 => ?_)
  · refine lv_iconst (v := 0) hx hb dJ0_isEmpty_aae02_12 (by decide) ?_
    exact hend _ _ _ dJ0_isEmpty_aae02_13 rfl (if_neg (fun h => h9 (hz.mpr h))).symm
  · refine lv_iconst (v := 1) hx hb dJ0_isEmpty_aae02_8 (by decide) ?_
    refine lv_goto (tgt := 13) hx hb dJ0_isEmpty_aae02_9 (by decide) ?_
    exact hend _ _ _ dJ0_isEmpty_aae02_13 rfl (if_pos (hz.mp h9)).symm
/-- coder() -/
theorem c_J0_coder (l : Launch) (ad av : Nat → Nat) (i : Nat) (hi : i < 7) : pq_Rs l yJ0_coder_7d493 cJ0_coder_7d493 1 .byte 1 ad av [.ref (ad i)] 0 := by
  refine pq_Rs.of (own := RJ0) (by decide) rfl (Nat.le_of_ble_eq_true rfl) rfl ?_
  intro p e s m below meth c ls Q S hE hS hl hend
  obtain ⟨hx, hb, hml, hown, hts⟩ := id S
  obtain ⟨h1, h2, h3, h4⟩ := (hE.1 i hi).1 0 (by decide)
  replace h4 : va_T .byte (av i) (pq_le.getD i 0) (fun j => .int ((pq_by.getD i []).getD j 0)) (fun _ => False) s s.heap := h4
  refine pq_sgets S hE.2.2.1 hS fl_J0_38 dJ0_coder_7d493_0 ?_
  refine lv_if_eq (tgt := 13) hx hb dJ0_coder_7d493_3 (by decide) (fun h9 => absurd h9 (by decide)) (fun _ => ?_)
  refine lv_aload_n hx hb dJ0_coder_7d493_6 rfl (lv_at hl 0 rfl) ?_
  refine pq_sget (o := "") S h2 hS fl_J0_15 dJ0_coder_7d493_7 ?_
  refine lv_goto (tgt := 14) hx hb dJ0_coder_7d493_10 (by decide) ?_
  exact hend _ _ _ dJ0_coder_7d493_14 rfl rfl
/-- isLatin1() -/
theorem c_J0_isLatin1 (l : Launch) (ad av : Nat → Nat) (i : Nat) (hi : i < 7) : pq_Rs l yJ0_isLatin1_aae02 cJ0_isLatin1_aae02 1 .boolean 1 ad av [.ref (ad i)] 1 := by
  refine pq_Rs.of (own := RJ0) (by decide) rfl (Nat.le_of_ble_eq_true rfl) rfl ?_
  intro p e s m below meth c ls Q S hE hS hl hend
  obtain ⟨hx, hb, hml, hown, hts⟩ := id S
  obtain ⟨h1, h2, h3, h4⟩ := (hE.1 i hi).1 0 (by decide)
  replace h4 : va_T .byte (av i) (pq_le.getD i 0) (fun j => .int ((pq_by.getD i []).getD j 0)) (fun _ => False) s s.heap := h4
  refine pq_sgets S hE.2.2.1 hS fl_J0_38 dJ0_isLatin1_aae02_0 ?_
  refine lv_if_eq (tgt := 17) hx hb dJ0_isLatin1_aae02_3 (by decide) (fun h9 => absurd h9 (by decide)) (fun _ => ?_)
  refine lv_aload_n hx hb dJ0_isLatin1_aae02_6 rfl (lv_at hl 0 rfl) ?_
  refine pq_sget (o := "") S h2 hS fl_J0_15 dJ0_isLatin1_aae02_7 ?_
  refine lv_if_ne (tgt := 17) hx hb dJ0_isLatin1_aae02_10 (by decide) (fun h9 => absurd rfl h9) (fun _ => ?_)
  refine lv_iconst (v := 1) hx hb dJ0_isLatin1_aae02_13 (by decide) ?_
  refine lv_goto (tgt := 18) hx hb dJ0_isLatin1_aae02_14 (by decide) ?_
  exact hend _ _ _ dJ0_isLatin1_aae02_18 rfl rfl
/-- length() -/
theorem c_J0_length (l : Launch) (ad av : Nat → Nat) (i : Nat) (hi : i < 7) : pq_Rs l yJ0_length_8abf5 cJ0_length_8abf5 1 .int 2 ad av [.ref (ad i)] (nI (pq_le.getD i 0)) := by
  refine pq_Rs.of (own := RJ0) (by decide) rfl (Nat.le_of_ble_eq_true rfl) rfl ?_
  intro p e s m below meth c ls Q S hE hS hl hend
  obtain ⟨hx, hb, hml, hown, hts⟩ := id S
  obtain ⟨h1, h2, h3, h4⟩ := (hE.1 i hi).1 0 (by decide)
  replace h4 : va_T .byte (av i) (pq_le.getD i 0) (fun j => .int ((pq_by.getD i []).getD j 0)) (fun _ => False) s s.heap := h4
  refine lv_aload_n hx hb dJ0_length_8abf5_0 rfl (lv_at hl 0 rfl) ?_
  refine pq_sget (o := "") S h3 hS fl_J0_9 dJ0_length_8abf5_1 ?_
  refine va_tlen hx hb h4 hS rfl dJ0_length_8abf5_4 ?_
  refine lv_aload_n hx hb dJ0_length_8abf5_5 rfl (lv_at hl 0 rfl) ?_
  refine pq_cVs S (c_J0_coder l ad av i hi) vv_J0_335 hE hi hS rfl rfl hl.1 (Nat.le_of_ble_eq_true rfl) dJ0_length_8abf5_6 (by decide) (by decide) ⟨Nat.le_refl _, Nat.le_refl _⟩ ?_
  refine lv_ishr hx hb dJ0_length_8abf5_9 ?_
  exact hend _ _ _ dJ0_length_8abf5_10 rfl (pq_le_ok i hi).2.1
/-- Preconditions.checkIndex -/
theorem c_J3_checkIndex (l : Launch) (ad av : Nat → Nat) (k n : Int32) (v : Value) (hv : v = .null ∨ ∃ t, v = .ref t) (h0 : ¬ k < 0) (h1 : k < n) : pq_Rs l yJ3_checkIndex_8e157 cJ3_checkIndex_8e157 3 .int 1 ad av [.int k, .int n, v] k := by
  rcases hv with rfl | ⟨t, rfl⟩
  all_goals
    refine pq_Rs.of (own := RJ3) (by decide) rfl (Nat.le_of_ble_eq_true rfl) rfl ?_
    intro p e s m below meth c ls Q S hE hS hl hend
    obtain ⟨hx, hb, hml, hown, hts⟩ := id S
    refine lv_iload_n hx hb dJ3_checkIndex_8e157_0 rfl (lv_at hl 0 rfl) ?_
    refine lv_if_lt (tgt := 9) hx hb dJ3_checkIndex_8e157_1 (by decide) (fun h9 => absurd h9 h0) (fun _ => ?_)
    refine lv_iload_n hx hb dJ3_checkIndex_8e157_4 rfl (lv_at hl 0 rfl) ?_
    refine lv_iload_n hx hb dJ3_checkIndex_8e157_5 rfl (lv_at hl 1 rfl) ?_
    refine lv_icmp_lt (tgt := 16) hx hb dJ3_checkIndex_8e157_6 (by decide) (fun _ => ?_) (fun h9 => absurd h1 h9)
    refine lv_iload_n hx hb dJ3_checkIndex_8e157_16 rfl (lv_at hl 0 rfl) ?_
    exact hend _ _ _ dJ3_checkIndex_8e157_17 rfl rfl
/-- String.checkIndex -/
theorem c_J0_checkIndex (l : Launch) (ad av : Nat → Nat) (k n : Int32) (h0 : ¬ k < 0) (h1 : k < n) : Met l yJ0_checkIndex_df160 (Cond.code yJ0_checkIndex_df160 cJ0_checkIndex_df160 2 none :: pq_G) (pq_rm 2 0 0) (va_Pc [.int k, .int n] (fun U => pq_SX ad av (fun _ => False) U U.heap)) (va_Sv (fun _ => True)) 0 0 (fun _ => False) := by
  refine Met.ofW (cc := cJ0_checkIndex_df160) (maxL := 2) (ret := none) (by decide) rfl ?_
  intro p e s m args below meth c s₁ B hml hv
  obtain ⟨rfl, hE⟩ := hv
  have hts := atoms_spec (ws := Cond.code yJ0_checkIndex_df160 cJ0_checkIndex_df160 2 none :: pq_G) B.pre
  have hown : s.vm.findClass RJ0 = some m.cls := findClass_of_methodNamed B.named
  have hl := lv_entry ([.int k, .int n]) (n := 2) (Nat.le_of_ble_eq_true rfl)
  rw [lg_entry_eq]
  generalize (lg_sl ([.int k, .int n]) ++ List.replicate (2 - (lg_sl ([.int k, .int n])).length) Slot.unset).toArray = ls at hl ⊢
  have hl : lv_has ls 2 [(0, .int k), (1, .int n)] := hl
  have hx := B.exec
  have hb := B.bytes
  have S : CallFix p m c cJ0_checkIndex_df160 2 s ([.int k, .int n] : List Value).toArray pq_G RJ0 := ⟨hx, hb, hml, hown, fun w h => hts w (List.mem_cons_of_mem _ h)⟩
  have hS : va_S (fun _ => False) s.heap s.heap [] := va_S.rf
  refine lv_iload_n hx hb dJ0_checkIndex_df160_0 rfl (lv_at hl 0 rfl) ?_
  refine lv_iload_n hx hb dJ0_checkIndex_df160_1 rfl (lv_at hl 1 rfl) ?_
  rcases hE.2.2.2 with hz | ⟨t, hz⟩
  · refine pq_sgets S hz hS fl_J0_1053 dJ0_checkIndex_df160_2 ?_
    refine pq_cSs S (c_J3_checkIndex l ad av k n .null (Or.inl rfl) h0 h1) vs_J0_1059 hE hS rfl rfl hl.1 (Nat.le_of_ble_eq_true rfl) dJ0_checkIndex_df160_5 (by decide) (by decide) ⟨Nat.le_refl _, Nat.le_refl _⟩ ?_
    refine lv_pop hx hb dJ0_checkIndex_df160_8 rfl ?_
    exact W.vret B.exec B.bytes B.returns (fun t ht hW => ⟨rfl, trivial, ht⟩) (fun q hq => absurd hq List.not_mem_nil) dJ0_checkIndex_df160_9 B.notSynchronized
  · refine pq_sgets S hz hS fl_J0_1053 dJ0_checkIndex_df160_2 ?_
    refine pq_cSs S (c_J3_checkIndex l ad av k n (.ref t) (Or.inr ⟨t, rfl⟩) h0 h1) vs_J0_1059 hE hS rfl rfl hl.1 (Nat.le_of_ble_eq_true rfl) dJ0_checkIndex_df160_5 (by decide) (by decide) ⟨Nat.le_refl _, Nat.le_refl _⟩ ?_
    refine lv_pop hx hb dJ0_checkIndex_df160_8 rfl ?_
    exact W.vret B.exec B.bytes B.returns (fun t ht hW => ⟨rfl, trivial, ht⟩) (fun q hq => absurd hq List.not_mem_nil) dJ0_checkIndex_df160_9 B.notSynchronized
/-- the sign at a place of a pattern -/
def pq_ch (i k : Nat) : Int32 := (pq_by.getD i []).getD k 0
theorem pq_ch_ok : ∀ i, i < 7 → ∀ k, k < pq_le.getD i 0 → ((((pq_by.getD i []).getD k 0) &&& 255).toUInt32 % 65536).toInt32 = pq_ch i k ∧ narrow .char (.int (pq_ch i k)) = .int (pq_ch i k) := by decide
/-- StringLatin1.charAt -/
theorem c_J1_charAt (l : Launch) (ad av : Nat → Nat) (i k : Nat) (hi : i < 7) (hk : k < pq_le.getD i 0) : pq_Rs l yJ1_charAt_3b067 cJ1_charAt_3b067 2 .char 3 ad av [.ref (av i), .int (nI k)] (pq_ch i k) := by
  refine pq_Rs.of (own := RJ1) (by decide) rfl (Nat.le_of_ble_eq_true rfl) rfl ?_
  intro p e s m below meth c ls Q S hE hS hl hend
  obtain ⟨hx, hb, hml, hown, hts⟩ := id S
  obtain ⟨h1, h2, h3, h4⟩ := (hE.1 i hi).1 0 (by decide)
  replace h4 : va_T .byte (av i) (pq_le.getD i 0) (fun j => .int ((pq_by.getD i []).getD j 0)) (fun _ => False) s s.heap := h4
  have hn := (pq_le_ok i hi).2.2
  have hnn : ¬ nI k < 0 := nI_pos (by omega)
  have hlt : nI k < nI (pq_le.getD i 0) := nI_lt hk hn
  refine lv_iload_n hx hb dJ1_charAt_3b067_0 rfl (lv_at hl 1 rfl) ?_
  refine lv_aload_n hx hb dJ1_charAt_3b067_1 rfl (lv_at hl 0 rfl) ?_
  refine va_tlen (v := nI (pq_le.getD i 0)) hx hb h4 hS rfl dJ1_charAt_3b067_2 ?_
  refine va_csv (post := fun _ => True) (pq_runCall (va_runS (As := [.int (nI k), .int (nI (pq_le.getD i 0))]) (rest := []) S (c_J0_checkIndex l ad av (nI k) (nI (pq_le.getD i 0)) hnn hlt) (pq_cwS S vs_J1_9 (by decide) (by decide)) ⟨pq_blindS, fun U hU hW => ⟨rfl, hE.at hS hU hW⟩⟩ rfl rfl hl.1 rfl (lv_room (Nat.le_of_ble_eq_true rfl)) dJ1_charAt_3b067_3 ⟨Nat.le_refl _, Nat.le_refl _⟩)) (fun _ => ?_)
  refine lv_aload_n hx hb dJ1_charAt_3b067_6 rfl (lv_at hl 0 rfl) ?_
  refine lv_iload_n hx hb dJ1_charAt_3b067_7 rfl (lv_at hl 1 rfl) ?_
  refine va_tb hx hb h4 hS (vp_in_nI hk hn) rfl dJ1_charAt_3b067_8 ?_
  refine lv_sipush (v := 255) hx hb dJ1_charAt_3b067_9 (by decide) ?_
  refine lv_iand hx hb dJ1_charAt_3b067_12 ?_
  refine lv_i2c (v := pq_ch i k) hx hb dJ1_charAt_3b067_13 ?_ ?_
  · show ((((pq_by.getD i []).getD (nI k).toNatClampNeg 0) &&& 255).toUInt32 % 65536).toInt32 = _
    rw [nI_clamp (by omega)]
    exact (pq_ch_ok i hi k hk).1
  · exact hend _ _ _ dJ1_charAt_3b067_14 (pq_ch_ok i hi k hk).2 rfl
/-- charAt(k) -/
theorem c_J0_charAt (l : Launch) (ad av : Nat → Nat) (i k : Nat) (hi : i < 7) (hk : k < pq_le.getD i 0) : pq_Rs l yJ0_charAt_5068e cJ0_charAt_5068e 2 .char 4 ad av [.ref (ad i), .int (nI k)] (pq_ch i k) := by
  refine pq_Rs.of (own := RJ0) (by decide) rfl (Nat.le_of_ble_eq_true rfl) rfl ?_
  intro p e s m below meth c ls Q S hE hS hl hend
  obtain ⟨hx, hb, hml, hown, hts⟩ := id S
  obtain ⟨h1, h2, h3, h4⟩ := (hE.1 i hi).1 0 (by decide)
  replace h4 : va_T .byte (av i) (pq_le.getD i 0) (fun j => .int ((pq_by.getD i []).getD j 0)) (fun _ => False) s s.heap := h4
  refine lv_aload_n hx hb dJ0_charAt_5068e_0 rfl (lv_at hl 0 rfl) ?_
  refine pq_cVs S (c_J0_isLatin1 l ad av i hi) vv_J0_492 hE hi hS rfl rfl hl.1 (Nat.le_of_ble_eq_true rfl) dJ0_charAt_5068e_1 (by decide) (by decide) ⟨Nat.le_refl _, Nat.le_refl _⟩ ?_
  refine lv_if_eq (tgt := 16) hx hb dJ0_charAt_5068e_4 (by decide) (fun h9 => absurd h9 (by decide)) (fun _ => ?_)
  refine lv_aload_n hx hb dJ0_charAt_5068e_7 rfl (lv_at hl 0 rfl) ?_
  refine pq_sget (o := "") S h3 hS fl_J0_9 dJ0_charAt_5068e_8 ?_
  refine lv_iload_n hx hb dJ0_charAt_5068e_11 rfl (lv_at hl 1 rfl) ?_
  refine pq_cSs S (c_J1_charAt l ad av i k hi hk) vs_J0_495 hE hS rfl rfl hl.1 (Nat.le_of_ble_eq_true rfl) dJ0_charAt_5068e_12 (by decide) (by decide) ⟨Nat.le_refl _, Nat.le_refl _⟩ ?_
  exact hend _ _ _ dJ0_charAt_5068e_15 (pq_ch_ok i hi k hk).2 rfl
/-- which pattern a kind has -/
def pq_pt (k : Int32) : Nat := if k = 105 ∨ k = 112 then 0 else if k = 100 then 1 else if k = 109 then 2 else if k = 114 then 3 else if k = 119 then 4 else if k = 120 then 5 else 6
theorem pq_pt_lt (k : Int32) : pq_pt k < 7 := by
  unfold pq_pt
  repeat' split
  all_goals decide
theorem c_X0_patternOf (l : Launch) (ad av : Nat → Nat) (k : Int32) : Met l yX0_patternOf (Cond.code yX0_patternOf cX0_patternOf 1 (some (.object "java/lang/String")) :: pq_G) (pq_rm 1 0 0) (va_Pc [.int k] (fun U => pq_SX ad av (fun _ => False) U U.heap)) (va_Sq (fun x => x = some (ad (pq_pt k)))) 0 0 (fun _ => False) := by
  refine Met.ofW (cc := cX0_patternOf) (maxL := 1) (ret := some (.object "java/lang/String")) (by decide) rfl ?_
  intro p e s m args below meth c s₁ B hml hv
  obtain ⟨rfl, hE⟩ := hv
  have hts := atoms_spec (ws := Cond.code yX0_patternOf cX0_patternOf 1 (some (.object "java/lang/String")) :: pq_G) B.pre
  have hown : s.vm.findClass RX0 = some m.cls := findClass_of_methodNamed B.named
  have hl := lv_entry ([.int k]) (n := 1) (Nat.le_of_ble_eq_true rfl)
  rw [lg_entry_eq]
  generalize (lg_sl ([.int k]) ++ List.replicate (1 - (lg_sl ([.int k])).length) Slot.unset).toArray = ls at hl ⊢
  have hl : lv_has ls 1 [(0, .int k)] := hl
  have hx := B.exec
  have hb := B.bytes
  have hend : ∀ (pc q : Nat) (ls : Array Slot), decode cX0_patternOf pc = .ok (.areturn, 1) → q = ad (pq_pt k) → W p l e (pq_rm 1 0 0) s m ([.int k] : List Value).toArray below meth c s.heap [] 0 0 (MQ below (va_Sq (fun x => x = some (ad (pq_pt k)))) ([.int k] : List Value).toArray s 0 0 (fun _ => False)) (F0 m pc ls [.ref q]) := fun pc q ls hdg hq =>
    W.aret B.exec B.bytes B.returns (Or.inl ⟨_, rfl⟩) (Or.inr ⟨_, rfl⟩) (fun t ht hW => ⟨some q, rfl, by rw [hq], ht⟩) (fun q hq => absurd hq List.not_mem_nil) hdg B.notSynchronized
  refine lv_iload_n hx hb dX0_patternOf_0 rfl (lv_at hl 0 rfl) ?_
  by_cases h1 : k = 100
  · refine lv_tableIn (off := 102) (tgt := 103) hx hb dX0_patternOf_1 (by rw [h1]; decide) (by rw [h1]; decide) (by rw [h1]; rfl) (by decide) ?_
    refine va_ldcS hx hb hown (hE.2.1 1 (by decide)) dX0_patternOf_103 ?_
    exact hend _ _ _ dX0_patternOf_105 (by rw [h1]; rfl)
  by_cases h2 : k = 105
  · refine lv_tableIn (off := 99) (tgt := 100) hx hb dX0_patternOf_1 (by rw [h2]; decide) (by rw [h2]; decide) (by rw [h2]; rfl) (by decide) ?_
    refine va_ldcS hx hb hown (hE.2.1 0 (by decide)) dX0_patternOf_100 ?_
    exact hend _ _ _ dX0_patternOf_102 (by rw [h2]; rfl)
  by_cases h3 : k = 109
  · refine lv_tableIn (off := 105) (tgt := 106) hx hb dX0_patternOf_1 (by rw [h3]; decide) (by rw [h3]; decide) (by rw [h3]; rfl) (by decide) ?_
    refine va_ldcS hx hb hown (hE.2.1 2 (by decide)) dX0_patternOf_106 ?_
    exact hend _ _ _ dX0_patternOf_108 (by rw [h3]; rfl)
  by_cases h4 : k = 112
  · refine lv_tableIn (off := 99) (tgt := 100) hx hb dX0_patternOf_1 (by rw [h4]; decide) (by rw [h4]; decide) (by rw [h4]; rfl) (by decide) ?_
    refine va_ldcS hx hb hown (hE.2.1 0 (by decide)) dX0_patternOf_100 ?_
    exact hend _ _ _ dX0_patternOf_102 (by rw [h4]; rfl)
  by_cases h5 : k = 114
  · refine lv_tableIn (off := 108) (tgt := 109) hx hb dX0_patternOf_1 (by rw [h5]; decide) (by rw [h5]; decide) (by rw [h5]; rfl) (by decide) ?_
    refine va_ldcS hx hb hown (hE.2.1 3 (by decide)) dX0_patternOf_109 ?_
    exact hend _ _ _ dX0_patternOf_111 (by rw [h5]; rfl)
  by_cases h6 : k = 119
  · refine lv_tableIn (off := 111) (tgt := 112) hx hb dX0_patternOf_1 (by rw [h6]; decide) (by rw [h6]; decide) (by rw [h6]; rfl) (by decide) ?_
    refine va_ldcS hx hb hown (hE.2.1 4 (by decide)) dX0_patternOf_112 ?_
    exact hend _ _ _ dX0_patternOf_114 (by rw [h6]; rfl)
  by_cases h7 : k = 120
  · refine lv_tableIn (off := 114) (tgt := 115) hx hb dX0_patternOf_1 (by rw [h7]; decide) (by rw [h7]; decide) (by rw [h7]; rfl) (by decide) ?_
    refine va_ldcS hx hb hown (hE.2.1 5 (by decide)) dX0_patternOf_115 ?_
    exact hend _ _ _ dX0_patternOf_117 (by rw [h7]; rfl)
  refine pq_tdef hx hb dX0_patternOf_1 [100, 105, 109, 112, 114, 119, 120] (by intro k9 h9; simp only [List.mem_cons, List.not_mem_nil, or_false] at h9; rcases h9 with rfl | rfl | rfl | rfl | rfl | rfl | rfl <;> assumption) (by decide) (by decide) (tgt := 118) (by decide) ?_
  refine va_ldcS hx hb hown (hE.2.1 6 (by decide)) dX0_patternOf_118 ?_
  refine hend _ _ _ dX0_patternOf_120 ?_
  unfold pq_pt
  rw [if_neg (by rintro (h | h) <;> contradiction), if_neg h1, if_neg h3, if_neg h5, if_neg h6, if_neg h7]
section PQT
variable {p : Program} {l : Launch} {e : Env} {s : State} {m : MethodId} {args : Array Value} {below : List Frame} {meth : Method} {c : Code} {H : Heap} {locs : List Loc} {cells slots : Nat} {Q : State → Prop} {A : Nat → Prop}
variable {cc : ByteArray} {nL K mc ms : Nat} {ad av : Nat → Nat} {rest : List Value} {pc : Nat} {ls : Array Slot}
theorem pq_pat (S : CallFix p m c cc nL s args pq_G RX0) (hE : pq_SX ad av A s s.heap) (hS : va_S A s.heap H locs) {k : Int32} (hls : ls.size = nL) (hr : (rest.map fun v => v.category).sum ≤ 8) (hdg : decode cc pc = .ok (.invokestatic 64, 3)) (hk : 1 < K) (hf : cells ≤ mc ∧ slots ≤ ms)
    (kk : W p l e (pq_rm K mc ms) s m args below meth c H locs cells slots Q (F0 m (pc + 3) ls (.ref (ad (pq_pt k)) :: rest))) : W p l e (pq_rm K mc ms) s m args below meth c H locs cells slots Q (F0 m pc ls (.int k :: rest)) := by
  refine va_csq (post := fun x => x = some (ad (pq_pt k))) (pq_runCall (va_runS (As := [.int k]) (rest := rest) S (c_X0_patternOf l ad av k) (pq_cwS S vs_X0_64 hk (by decide)) ⟨pq_blindS, fun U hU hW => ⟨rfl, hE.at hS hU hW⟩⟩ rfl rfl hls rfl (lv_room hr) hdg hf)) ?_
  rintro _ rfl
  exact kk
end PQT
theorem c_J0_charAtx (l : Launch) (ad av : Nat → Nat) (i : Nat) (x : Int32) (hi : i < 7) (h : ¬ x < 0 ∧ x.toNatClampNeg < pq_le.getD i 0) : pq_Rs l yJ0_charAt_5068e cJ0_charAt_5068e 2 .char 4 ad av [.ref (ad i), .int x] (pq_ch i x.toNatClampNeg) := by
  obtain ⟨n, hn, rfl⟩ := nI_of h.1
  rw [nI_clamp hn] at h ⊢
  exact c_J0_charAt l ad av i n hi h.2
/-! a method that writes its world and reads the patterns -/
def pq_MiS (l : Launch) (y : MethodName) (cc : ByteArray) (nL : Nat) (ty : FieldType) (k : Nat) (g : pq_g) (ad av : Nat → Nat) (ws : va_W) (vs : List Value) (r : Int32) (ws' : va_W) : Prop :=
  ∀ sz : Nat, Met l y (Cond.code y cc nL (some ty) :: pq_G) (pq_rm k 0 0) (va_Pc vs (fun U => U.heap.size = sz ∧ va_P g.1 pq_cl ws U.heap ∧ pq_K g U ∧ va_D (fun _ => True) ws ∧ pq_SX ad av (va_A ws sz) U U.heap)) (va_Qi (fun x (_ : Unit) => x = r) (fun _ t => va_P g.1 pq_cl ws' t.heap) (va_A ws sz)) 0 0 (va_A ws sz)
theorem pq_MiS.of {l : Launch} {y : MethodName} {cc : ByteArray} {nL : Nat} {ty : FieldType} {k : Nat} {g : pq_g} {ad av : Nat → Nat} {ws ws' : va_W} {vs : List Value} {r : Int32} {own : String} {lv : List (Nat × Value)} (hy : plainName y.cls = true) (ho : y.cls = own) (hn : (lg_sl vs).length ≤ nL) (hlv : lv_args 0 vs = lv)
    (body : ∀ (p : Program) (e : Env) (s : State) (m : MethodId) (below : List Frame) (meth : Method) (c : Code) (ls : Array Slot) (Q : State → Prop) (A : Nat → Prop), CallFix p m c cc nL s vs.toArray pq_G own → va_P g.1 pq_cl ws s.heap → pq_K g s → va_D A ws → va_S A s.heap s.heap [] → (∀ q : Nat, s.heap.size ≤ q → A q) → pq_SX ad av A s s.heap → lv_has ls nL lv →
      (∀ (pc : Nat) (ls : Array Slot) (v : Int32) (H : Heap) (locs : List Loc), decode cc pc = .ok (.ireturn, 1) → narrow ty (.int v) = .int v → v = r → va_P g.1 pq_cl ws' H → va_S A s.heap H locs → W p l e (pq_rm k 0 0) s m vs.toArray below meth c H locs 0 0 Q (F0 m pc ls [.int v])) →
      W p l e (pq_rm k 0 0) s m vs.toArray below meth c s.heap [] 0 0 Q (F0 m 0 ls [])) : pq_MiS l y cc nL ty k g ad av ws vs r ws' := by
  intro sz
  refine Met.ofW (cc := cc) (maxL := nL) (ret := some ty) hy rfl ?_
  intro p e s m args below meth c s₁ B hml hv
  obtain ⟨rfl, hsz, hP, hK, hD0, hE⟩ := hv
  subst hsz
  have hts := atoms_spec (ws := Cond.code y cc nL (some ty) :: pq_G) B.pre
  have hown : s.vm.findClass own = some m.cls := by rw [← ho]; exact findClass_of_methodNamed B.named
  have hl := lv_entry vs hn
  rw [lg_entry_eq]
  generalize (lg_sl vs ++ List.replicate (nL - (lg_sl vs).length) Slot.unset).toArray = ls at hl ⊢
  rw [hlv] at hl
  refine body p e s m below meth c ls _ (va_A ws s.heap.size) ⟨B.exec, B.bytes, hml, hown, fun w h => hts w (List.mem_cons_of_mem _ h)⟩ hP hK hD0.self va_S.rf (fun q h => Or.inr h) hE hl ?_
  intro pc ls v H locs hdg hnar hvr hP1 hS
  exact W.zret B.exec B.bytes B.returns hnar (fun t ht hW => ⟨⟨v, (), rfl, hvr, by show va_P g.1 pq_cl ws' t.heap; rw [ht]; exact hP1⟩, hS.F ht⟩) hS.2.2 hdg B.notSynchronized
theorem pq_blindMS {g : pq_g} {ad av : Nat → Nat} {ws : va_W} {vs : List Value} {sz : Nat} : FrameBlind (va_Pc vs (fun U => U.heap.size = sz ∧ va_P g.1 pq_cl ws U.heap ∧ pq_K g U ∧ va_D (fun _ => True) ws ∧ pq_SX ad av (va_A ws sz) U U.heap)) := fun _ _ _ _ q => ⟨q.1, q.2.1, q.2.2.1, q.2.2.2.1.call, q.2.2.2.2.1, q.2.2.2.2.2.call⟩
section PQMS
variable {p : Program} {l : Launch} {e : Env} {s : State} {m : MethodId} {args : Array Value} {below : List Frame} {meth : Method} {c : Code} {H : Heap} {locs : List Loc} {cells slots : Nat} {Q : State → Prop} {A : Nat → Prop}
variable {cc bytes : ByteArray} {own C : String} {idx nL maxL n k K mc ms : Nat} {y : MethodName} {g : pq_g} {ad av : Nat → Nat} {ws ws' : va_W} {b : Nat} {As rest : List Value} {r : Int32} {ty : FieldType} {pc : Nat} {ls : Array Slot} {st : List Value}
theorem pq_cViS (S : CallFix p m c cc nL s args pq_G own) (hM : pq_MiS l y bytes maxL ty k g ad av ws (.ref b :: As) r ws') (w : pq_Vw own idx C y bytes maxL (some ty) n) (hK : pq_K g s) (hE : pq_SX ad av A s s.heap) (hP : va_P g.1 pq_cl ws H) (hD : va_D A ws) (hS : va_S A s.heap H locs) (hA : ∀ q : Nat, s.heap.size ≤ q → A q) {ci : Nat} {fs : List Value} {q : vw_C} (hb : ws[0]? = some (b, .inr (ci, fs))) (hc : pq_cl[ci]? = some q) (hC : q.1 = C) (hst : st = As.reverse ++ .ref b :: rest) (hn : As.length = n) (hls : ls.size = nL) (hr : (rest.map fun v => v.category).sum ≤ 8) (hdg : decode cc pc = .ok (.invokevirtual idx, 3)) (hk : k < K) (hL : maxL ≤ 45) (hf : cells ≤ mc ∧ slots ≤ ms)
    (kk : ∀ (H1 : Heap) (locs1 : List Loc), (∀ q : Nat, q < H.size → ¬ va_A ws H.size q → H1[q]? = H[q]?) → va_P g.1 pq_cl ws' H1 → va_S A s.heap H1 locs1 → W p l e (pq_rm K mc ms) s m args below meth c H1 locs1 cells slots Q (F0 m (pc + 3) ls (.int r :: rest))) : W p l e (pq_rm K mc ms) s m args below meth c H locs cells slots Q (F0 m pc ls st) := by
  subst hC
  refine va_calli (va_runV S (hM H.size) (pq_cwV S w hk hL) ⟨pq_blindMS, va_recv hK.1 hP hc hb, fun U hU hW => ⟨rfl, by rw [hU], by rw [hU]; exact hP, hK.warm hW, hD.weaken (fun _ _ _ _ => trivial), by rw [hU]; exact hE.go hS.2.1 hW (pq_Afree hD hS hA)⟩⟩ rfl hn hls hst (lv_room hr) hdg hf) hS (fun q _ h => pq_Afree hD hS hA q h) (pq_Afree hD hS hA) ?_
  rintro _ _ t H1 locs1 ht - rfl hB - hk1 hS1
  exact kk H1 locs1 hk1 (by rw [← ht]; exact hB) hS1
end PQMS
