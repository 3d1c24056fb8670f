/-! two ways side by side -/
def Both {α β : Type} (x : Option α) (y : Option β) (Q : α → β → Prop) : Prop := ∃ a b, x = some a ∧ y = some b ∧ Q a b
set_option maxRecDepth 100000 in
set_option maxHeartbeats 4000000 in
theorem both_ret {α β : Type} {a : α} {b : β} {Q : α → β → Prop} (h : Q a b) : Both (some a) (some b) Q := ⟨a, b, rfl, rfl, h⟩
set_option maxRecDepth 100000 in
set_option maxHeartbeats 4000000 in
theorem both_bind {α β γ δ : Type} {x : Option α} {y : Option β} {f : α → Option γ} {g : β → Option δ} {Q : α → β → Prop} {R : γ → δ → Prop} (h : Both x y Q) (k : ∀ a b, Q a b → Both (f a) (g b) R) : Both (x.bind f) (y.bind g) R := by
  obtain ⟨a, b, rfl, rfl, h⟩ := h
  exact k a b h
set_option maxRecDepth 100000 in
set_option maxHeartbeats 4000000 in
theorem both_lt {α β γ δ : Type} {a : α} {y : Option β} {f : α → Option γ} {g : β → Option δ} {Q : α → β → Prop} {R : γ → δ → Prop} (h : Both (some a) y Q) (k : ∀ a b, Q a b → Both (f a) (g b) R) : Both (lt a f) (y.bind g) R := both_bind h k
set_option maxRecDepth 100000 in
set_option maxHeartbeats 4000000 in
theorem Both.mono {α β : Type} {x : Option α} {y : Option β} {Q R : α → β → Prop} (h : Both x y Q) (k : ∀ a b, Q a b → R a b) : Both x y R := by
  obtain ⟨a, b, h1, h2, h⟩ := h
  exact ⟨a, b, h1, h2, k a b h⟩
set_option maxRecDepth 100000 in
set_option maxHeartbeats 4000000 in
/-- two counting loops side by side; a turn goes on, or both end there -/
theorem loopB {α β γ δ : Type} {C : Nat → Nat → γ → Option α} {R : Nat → Nat → δ → Option β} {P : Nat → γ → δ → Prop} {Q : α → β → Prop} {hi : Nat}
    (fin : ∀ s t, P hi s t → ∀ n m, Both (C (n + 1) hi s) (R (m + 1) hi t) Q)
    (step : ∀ k s t, k < hi → P k s t → (∃ s1 t1, (∀ n, C (n + 1) k s = C n (k + 1) s1) ∧ (∀ n, R (n + 1) k t = R n (k + 1) t1) ∧ P (k + 1) s1 t1) ∨ ∀ n m, Both (C (n + 1) k s) (R (m + 1) k t) Q) :
    ∀ d n m lo s t, lo + d = hi → d < n → d < m → P lo s t → Both (C n lo s) (R m lo t) Q := by
  intro d
  induction d with
  | zero =>
    intro n m lo s t h0 h1 h2 hP
    obtain ⟨n, rfl⟩ := Nat.exists_eq_succ_of_ne_zero (show n ≠ 0 by omega)
    obtain ⟨m, rfl⟩ := Nat.exists_eq_succ_of_ne_zero (show m ≠ 0 by omega)
    have : lo = hi := by omega
    subst this
    exact fin s t hP n m
  | succ d ih =>
    intro n m lo s t h0 h1 h2 hP
    obtain ⟨n, rfl⟩ := Nat.exists_eq_succ_of_ne_zero (show n ≠ 0 by omega)
    obtain ⟨m, rfl⟩ := Nat.exists_eq_succ_of_ne_zero (show m ≠ 0 by omega)
    rcases step lo s t (by omega) hP with ⟨s1, t1, e1, e2, hP1⟩ | hQ
    · have h9 := ih n m (lo + 1) s1 t1 (by omega) (by omega) (by omega) hP1
      rw [← e1, ← e2] at h9
      exact h9
    · exact hQ n m
set_option maxRecDepth 100000 in
set_option maxHeartbeats 4000000 in
/-- one counting loop -/
theorem loopS {α γ : Type} {C : Nat → Nat → γ → Option α} {P : Nat → γ → Prop} {Q : α → Prop} {hi : Nat}
    (fin : ∀ s, P hi s → ∀ n, ∃ a, C (n + 1) hi s = some a ∧ Q a)
    (step : ∀ k s, k < hi → P k s → (∃ s1, (∀ n, C (n + 1) k s = C n (k + 1) s1) ∧ P (k + 1) s1) ∨ ∀ n, ∃ a, C (n + 1) k s = some a ∧ Q a) :
    ∀ d n lo s, lo + d = hi → d < n → P lo s → ∃ a, C n lo s = some a ∧ Q a := by
  intro d
  induction d with
  | zero =>
    intro n lo s h0 h1 hP
    obtain ⟨n, rfl⟩ := Nat.exists_eq_succ_of_ne_zero (show n ≠ 0 by omega)
    have : lo = hi := by omega
    subst this
    exact fin s hP n
  | succ d ih =>
    intro n lo s h0 h1 hP
    obtain ⟨n, rfl⟩ := Nat.exists_eq_succ_of_ne_zero (show n ≠ 0 by omega)
    rcases step lo s (by omega) hP with ⟨s1, e1, hP1⟩ | hQ
    · have h9 := ih n (lo + 1) s1 (by omega) (by omega) hP1
      rw [← e1] at h9
      exact h9
    · exact hQ n
set_option maxRecDepth 100000 in
set_option maxHeartbeats 4000000 in
theorem fillr_cell {σ : Mem} {a n k : Nat} {v : Int32} (h : ¬ k = a) : fillr σ a n v k = σ k := by
  funext i
  simp [fillr, h]
set_option maxRecDepth 100000 in
set_option maxHeartbeats 4000000 in
theorem fillr_row {σ : Mem} {a n : Nat} {v : Int32} : fillr σ a n v a = fun i => if i < n then v else σ a i := by
  funext i
  simp [fillr]
set_option maxRecDepth 100000 in
set_option maxHeartbeats 4000000 in
theorem fillr_0 {σ : Mem} {a : Nat} {v : Int32} : fillr σ a 0 v = σ := by
  funext k i
  simp [fillr]
set_option maxRecDepth 100000 in
set_option maxHeartbeats 4000000 in
theorem fillr_succ {σ : Mem} {a n : Nat} {v : Int32} : mput (fillr σ a n v) a n v = fillr σ a (n + 1) v := by
  funext k i
  rw [mput_app]
  unfold fillr
  by_cases h : k = a
  · by_cases h2 : i = n
    · simp [h, h2]
    · by_cases h3 : i < n
      · simp [h, h2, h3, show i < n + 1 by omega]
      · simp [h, h2, h3, show ¬ i < n + 1 by omega]
  · simp [h]
set_option maxRecDepth 100000 in
set_option maxHeartbeats 4000000 in
/-- a loop of the reference that fills a row -/
theorem fill_loop {L : Nat → Int32 → Mem → Option (Int32 × Mem)} {hi N A : Nat} {v : Int32} (e : ∀ n a σ, L (n + 1) a σ = if nI hi ≤ a then some (a, σ) else if inb a N = true then L n (a + 1) (mput σ A a.toNatClampNeg v) else none) (h1 : hi ≤ N) (h2 : N < 9999) (σ : Mem) : L 9999 0 σ = some (nI hi, fillr σ A hi v) := by
  obtain ⟨a, h3, h4⟩ := loopS (C := fun n k s => L n (nI k) s) (P := fun k s => s = fillr σ A k v) (Q := fun a => a = (nI hi, fillr σ A hi v)) (hi := hi) (fun s hs n => ⟨_, by
      show L (n + 1) (nI hi) s = _
      rw [e, if_pos (nI_le (Nat.le_refl _) (by omega))], by rw [hs]⟩) (fun k s hk hs => Or.inl ⟨fillr σ A (k + 1) v, fun n => by
      show L (n + 1) (nI k) s = _
      rw [e, if_neg (nI_ge hk (by omega)), if_pos (inb_nI (by omega) (by omega)), nI_clamp (by omega), hs, fillr_succ, nI_1], rfl⟩) hi 9999 0 σ (by omega) (by omega) fillr_0.symm
  rw [← h4]
  exact h3
set_option maxRecDepth 100000 in
set_option maxHeartbeats 4000000 in
theorem owed_of4 {cds : List (Nat × Int32)} {C : Option ((Int32 ⊕ Nat) × Mem)} {σ : Mem} {ref : Mem → Option (Int32 × Mem)} (hI : Inv σ) (h : ∀ τ, Rel σ τ → ∃ F, C = some F ∧ FrC σ F.2 ∧ ∃ r τ1, ref τ = some (r, τ1) ∧ FrR τ τ1 ∧ Rel F.2 τ1 ∧ Ans cds F.1 (τ1 56 1) r) :
    ∃ t k σ2 q, C = some t ∧ HRes cds (xrIM t) k σ2 ∧ ref σ2 = some q ∧ q.2 56 1 = k ∧ (k = 0 → q.2 82 0 = q.1) ∧ Inv q.2 := by
  obtain ⟨F, hF, -⟩ := h σ hI
  obtain ⟨k, σ2, q, h9⟩ := owed_of2 (F := F) (cds := cds) (ref := ref) hI (fun τ H => by
    obtain ⟨F1, hF1, h2⟩ := h τ H
    rw [hF] at hF1
    cases hF1
    exact h2)
  exact ⟨F, k, σ2, q, hF, h9⟩
