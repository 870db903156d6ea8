/-! ===== my own layer, 7: a lookup switch's default ===== -/
section PQL
variable {p : Program} {l : Launch} {e : Env} {s : State} {m : MethodId} {args : Array Value} {below : List Frame} {meth : Method} {c : Code} {H : Heap} {locs : List Loc} {cells slots : Nat} {Q : State → Prop}
variable {cc : ByteArray} {pc : Nat} {ls : Array Slot} {rest : List Value} {R : Room}
theorem pq_lof {ps : List (Int × Int)} {d k : Int} (h : ∀ q ∈ ps, q.1 ≠ k) : Op.lookupswitch.offset ps d k = d := by
  induction ps with
  | nil => rfl
  | cons a r ih =>
    obtain ⟨a, o⟩ := a
    rw [Op.lookupswitch.offset_cons, if_neg (h _ List.mem_cons_self)]
    exact ih fun q hq => h q (List.mem_cons_of_mem _ hq)
theorem pq_ldef (hexec : p.tables.exec = Jvm.exec) (hb : c.code = cc) {dflt : Int} {ps : Array (Int × Int)} {len : Nat} {x : Int32} {tgt : Nat} (hdg : decode cc pc = .ok (.lookupswitch dflt ps, len)) (ks : List Int32) (hx : ∀ k ∈ ks, ¬ x = k) (hp : (ps.toList.zip (ps.toList.drop 1)).all (fun (a, next) => a.1 < next.1) = true) (hof : ps.toList.all (fun q => ks.any (fun k => k.toInt == q.1)) = true) (ht : (pc : Int) + dflt = (tgt : Int))
    (k : W p l e R s m args below meth c H locs cells slots Q (F0 m tgt ls rest)) : W p l e R s m args below meth c H locs cells slots Q (F0 m pc ls (.int x :: rest)) := by
  refine lv_lookup hexec hb hdg hp (pq_lof ?_) ht k
  intro q hq h
  obtain ⟨k9, hk9, h4⟩ := List.any_eq_true.mp (List.all_eq_true.mp hof q hq)
  have h5 : k9.toInt = q.1 := beq_iff_eq.mp h4
  exact hx k9 hk9 (Int32.toInt_inj.mp (by omega))
end PQL
