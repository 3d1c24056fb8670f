/-! the fields' words stand in the tables -/
set_option maxRecDepth 100000 in
theorem us_all : ∀ (c : Nat) (q : vw_C), vcl[c]? = some q → ∀ w ∈ u_ws q.1 q.2.1 q.2.2, w ∈ lw_tbl ∧ stb w = true := by
  intro c q h
  match c, h with
  | 0, h => cases h; decide +kernel
  | 1, h => cases h; decide +kernel
  | 2, h => cases h; decide +kernel
  | 3, h => cases h; decide +kernel
  | 4, h => cases h; decide +kernel
  | 5, h => cases h; decide +kernel
  | 6, h => cases h; decide +kernel
  | 7, h => cases h; decide +kernel
  | 8, h => cases h; decide +kernel
  | 9, h => cases h; decide +kernel
  | 10, h => cases h; decide +kernel
  | 11, h => cases h; decide +kernel
  | n + 12, h => simp [vcl] at h
theorem ty_all : ∀ (c : Nat) (q : vw_C), vcl[c]? = some q → ∃ ty : Nat → FieldType, (∀ k, k < q.2.2 → parseFieldDescriptor (q.2.1 k).2.2.1 = some (ty k)) ∧ ∀ a, a < q.2.2 → ∀ b, b < q.2.2 → a ≠ b → (q.2.1 a).2.1 ≠ (q.2.1 b).2.1 := by
  intro c q h
  match c, h with
  | 0, h => cases h; exact ⟨tyC0, tyC0_ok, nmC0⟩
  | 1, h => cases h; exact ⟨tyC1, tyC1_ok, nmC1⟩
  | 2, h => cases h; exact ⟨tyC2, tyC2_ok, nmC2⟩
  | 3, h => cases h; exact ⟨tyC3, tyC3_ok, nmC3⟩
  | 4, h => cases h; exact ⟨tyC4, tyC4_ok, nmC4⟩
  | 5, h => cases h; exact ⟨tyC5, tyC5_ok, nmC5⟩
  | 6, h => cases h; exact ⟨tyC6, tyC6_ok, nmC6⟩
  | 7, h => cases h; exact ⟨tyC7, tyC7_ok, nmC7⟩
  | 8, h => cases h; exact ⟨tyC8, tyC8_ok, nmC8⟩
  | 9, h => cases h; exact ⟨tyC9, tyC9_ok, nmC9⟩
  | 10, h => cases h; exact ⟨tyC10, tyC10_ok, nmC10⟩
  | 11, h => cases h; exact ⟨tyC11, tyC11_ok, nmC11⟩
  | n + 12, h => simp [vcl] at h
