/-! ===== mathematics, 34: the start, and all 59 ===== -/
theorem PR.zero : PR mainZ modZ := by
  have hnil : ∀ x, x ∈ Tr.nil.slots → False := fun x hx => by
    have e : Tr.nil.slots = [] := rfl
    rw [e] at hx; cases hx
  have hW : WF treeZ Tr.nil := ⟨⟨⟨rfl, trivial⟩, trivial, List.nodup_nil, fun s _ _ _ => rfl, rfl⟩, List.Pairwise.nil, trivial, fun x hx => (hnil x hx).elim⟩
  exact ⟨⟨Tr.nil, hW, ⟨rfl, fun i hi => absurd (show i < 0 from hi) (by omega)⟩, rfl, fun w _ => Or.inl ⟨rfl, rfl⟩, fun w _ ho => absurd rfl ho⟩, ⟨0, 0, by omega, by omega, rfl, rfl, rfl, fun k hk => absurd hk (by omega)⟩, ⟨rfl, Or.inl rfl⟩, ⟨0, by omega, rfl, rfl, fun i hi => absurd hi (by omega)⟩, ⟨0, by omega, rfl, rfl, fun i hi => absurd hi (by omega)⟩, ⟨rfl, Or.inl rfl⟩, ⟨rfl, rfl, rfl, fun h => absurd h (by decide), fun h => absurd rfl h⟩⟩
