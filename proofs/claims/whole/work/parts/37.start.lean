/-! the first memory -/
set_option maxRecDepth 100000 in
set_option maxHeartbeats 4000000 in
theorem turn_alike (x : Int32) : ∃ t : Nat, t ≤ 2 ∧ imax 0 (imin 2 x) = nI t ∧ rturn x = nI t := by
  unfold imax imin rturn
  by_cases h0 : 0 ≤ x
  · by_cases h2 : x ≤ 2
    · obtain ⟨t, ht, rfl⟩ := i32_of (n := 2) (Int32.not_lt.mpr h0) h2 (by decide)
      refine ⟨t, ht, ?_, by rw [if_pos h0, if_pos h2]⟩
      have : t = 0 ∨ t = 1 ∨ t = 2 := by omega
      rcases this with rfl | rfl | rfl <;> decide
    · refine ⟨2, by omega, ?_, by rw [if_pos h0, if_neg h2]; rfl⟩
      rw [if_neg (fun z => h2 (Int32.le_of_lt z))]
      decide
  · refine ⟨0, by omega, ?_, by rw [if_neg h0]; rfl⟩
    have h1 : x < 2 := Int32.lt_trans (Int32.not_le.mp h0) (by decide)
    rw [if_pos h1, if_neg]
    · rfl
    · exact fun z => h0 (Int32.le_of_lt z)
set_option maxRecDepth 100000 in
set_option maxHeartbeats 4000000 in
theorem inv_0 (x : Int32) : Inv (mem0 x) := by
  obtain ⟨t, ht, e1, e2⟩ := turn_alike x
  have bz : ∀ n hi, bnd (fun _ => (0 : Int32)) n hi := fun n hi i _ => ⟨0, by omega, rfl⟩
  refine ⟨⟨t, e1, e2, ht⟩, ⟨0, 0, 0, 0, 0, 0, 0, 0, ?_⟩, ⟨0, rfl, rfl, by omega, fun _ _ => rfl, bz _ _, rfl, rfl⟩, ⟨0, rfl, rfl, by omega, fun _ _ => rfl, bz _ _⟩, ⟨rfl, Or.inl rfl, rfl, rfl, rfl, Or.inl rfl⟩⟩
  exact ⟨⟨rfl, rfl, rfl, rfl⟩, ⟨rfl, rfl, rfl, rfl⟩, ⟨rfl, rfl, by omega, fun _ => rfl⟩, Or.inl rfl, ⟨fun _ _ => rfl, bz _ _⟩, fun _ _ => Iff.rfl, ⟨fun _ _ => rfl, bz _ _⟩, ⟨rfl, rfl, rfl, rfl, rfl, rfl, by omega, by omega, by omega⟩, ⟨fun _ _ => rfl, bz _ _⟩, ⟨fun _ _ => rfl, bz _ _⟩, ⟨fun _ _ => rfl, bz _ _⟩⟩
