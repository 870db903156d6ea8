theorem pq_apA {X B1 B2 : va_W} (h1 : pq_ap X B1) (h2 : pq_ap X B2) : pq_ap X (B1 ++ B2) := fun p hp q hq => (List.mem_append.mp hq).elim (h1 p hp q) (h2 p hp q)
theorem pq_apl1 {X1 X2 Y : va_W} (h : pq_ap (X1 ++ X2) Y) : pq_ap X1 Y := fun p hp q hq => h p (List.mem_append_left _ hp) q hq
theorem pq_apl2 {X1 X2 Y : va_W} (h : pq_ap (X1 ++ X2) Y) : pq_ap X2 Y := fun p hp q hq => h p (List.mem_append_right _ hp) q hq
section PQSV
variable {p : Program} {l : Launch} {e : Env} {s : State} {m : MethodId} {args : Array Value} {below : List Frame} {meth : Method} {c : Code} {H H0 : Heap} {locs : List Loc} {cells slots : Nat} {Q : State → Prop} {A : Nat → Prop}
variable {cc bytes : ByteArray} {own host C : String} {idx nL maxL n k K mc ms : Nat} {y : MethodName} {g : pq_g} {ws ws' WS : va_W} {a b : Nat} {As rest : List Value} {r : Int32} {ty : FieldType} {pc : Nat} {ls : Array Slot} {st : List Value} {R : Room}
theorem pq_cSv (S : CallFix p m c cc nL s args pq_G own) (hM : pq_Mv l y bytes maxL k g ws As ws') (w : pq_Sw own idx y bytes maxL none n) (hK : pq_K g s) (hP : va_P g.1 pq_cl ws H) (hD : va_D A ws) (hS : va_S A H0 H locs) (hA : ∀ q : Nat, H0.size ≤ q → A q) (hst : st = As.reverse ++ rest) (hn : As.length = n) (hls : ls.size = nL) (hr : (rest.map fun v => v.category).sum ≤ 8) (hdg : decode cc pc = .ok (.invokestatic idx, 3)) (hk : k < K) (hL : maxL ≤ 45) (hf : cells ≤ mc ∧ slots ≤ ms)
    (kk : ∀ (H1 : Heap) (locs1 : List Loc), (∀ q : Nat, q < H.size → ¬ va_A ws H.size q → H1[q]? = H[q]?) → va_P g.1 pq_cl ws' H1 → va_S A H0 H1 locs1 → W p l e (pq_rm K mc ms) s m args below meth c H1 locs1 cells slots Q (F0 m (pc + 3) ls rest)) : W p l e (pq_rm K mc ms) s m args below meth c H locs cells slots Q (F0 m pc ls st) := by
  refine va_callv (va_runS S (hM H.size) (pq_cwS S w hk hL) ⟨pq_blindM, fun U hU hW => ⟨rfl, by rw [hU], by rw [hU]; exact hP, hK.warm hW, hD.weaken (fun _ _ _ _ => trivial)⟩⟩ rfl hn hls hst (lv_room hr) hdg hf) hS (fun q _ h => pq_Afree hD hS hA q h) (pq_Afree hD hS hA) ?_
  rintro _ t H1 locs1 ht - - hB - hk1 hS1
  exact kk H1 locs1 hk1 (by rw [← ht]; exact hB) hS1
end PQSV
