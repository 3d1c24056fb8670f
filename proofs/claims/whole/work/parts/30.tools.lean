/-! THE PURE PART: tools -/
theorem mput_app {σ : Mem} {k j a i : Nat} {v : Int32} : mput σ k j v a i = if a = k ∧ i = j then v else σ a i := by
  unfold mput upd
  by_cases h : a = k
  · subst h
    by_cases h2 : i = j <;> simp [h2]
  · simp [h]
theorem mput_cell {σ : Mem} {k j a : Nat} {v : Int32} (h : ¬ a = k) : mput σ k j v a = σ a := if_neg h
theorem nI_mul (a b : Nat) : nI a * nI b = nI (a * b) := (Int32.ofNat_mul a b).symm
theorem nI_sub {a b : Nat} (h : b ≤ a) : nI a - nI b = nI (a - b) := by
  have : nI a = nI (a - b) + nI b := by rw [nI_add]; congr 1; omega
  rw [this, Int32.add_sub_cancel]
theorem inb_nI {k n : Nat} (h : k < n) (hn : n < 2 ^ 31) : inb (nI k) n = true := by
  unfold inb
  rw [nI_clamp (by omega)]
  simp [nI_pos' (n := k) (by omega), h]
theorem nI_inj {a b : Nat} (ha : a < 2 ^ 31) (hb : b < 2 ^ 31) (h : nI a = nI b) : a = b := (nI_eq ha hb).mp h
theorem i32_of {x : Int32} {n : Nat} (h0 : ¬ x < 0) (h1 : x ≤ nI n) (hn : n < 2 ^ 31) : ∃ k : Nat, k ≤ n ∧ x = nI k := by
  obtain ⟨j, hj, rfl⟩ := nI_of h0
  exact ⟨j, (nI_leI hj hn).mp h1, rfl⟩
theorem i32_lt {x : Int32} {n : Nat} (h0 : ¬ x < 0) (h1 : ¬ nI n ≤ x) (hn : n < 2 ^ 31) : ∃ k : Nat, k < n ∧ x = nI k := by
  obtain ⟨j, hj, rfl⟩ := nI_of h0
  exact ⟨j, Nat.lt_of_not_le fun h => h1 ((nI_leI hn hj).mpr h), rfl⟩
/-- all numbers of a row equal those of another; all lie in 0 .. hi -/
def eqn (f g : Nat → Int32) (n : Nat) : Prop := ∀ i, i < n → f i = g i
def bnd (f : Nat → Int32) (n hi : Nat) : Prop := ∀ i, i < n → ∃ v : Nat, v ≤ hi ∧ f i = nI v
theorem eqn_upd {f g : Nat → Int32} {n k : Nat} {v : Int32} (h : eqn f g n) : eqn (upd f k v) (upd g k v) n := by
  intro i hi
  unfold upd
  by_cases e : i = k
  · simp [e]
  · simp [e, h i hi]
theorem bnd_upd {f : Nat → Int32} {n k hi v : Nat} (h : bnd f n hi) (hv : v ≤ hi) : bnd (upd f k (nI v)) n hi := by
  intro i hi2
  unfold upd
  by_cases e : i = k
  · exact ⟨v, hv, by simp [e]⟩
  · simp only [e, if_false]
    exact h i hi2
theorem mput_row {σ : Mem} {k j : Nat} {v : Int32} : mput σ k j v k = upd (σ k) j v := mput_self
/-- one counting loop: from lo up to hi, each turn as S does it -/
theorem loop1 {L : Nat → Int32 → Mem → Option (Int32 × Mem)} {b : Mem → Int32} {S : Int32 → Mem → Option Mem} (e : ∀ n a σ, L (n + 1) a σ = if b σ ≤ a then some (a, σ) else (S a σ).bind fun σ1 => L n (a + 1) σ1) {P : Nat → Mem → Prop} {hi : Nat} (hhi : hi < 2 ^ 31)
    (hb : ∀ k σ, k ≤ hi → P k σ → b σ = nI hi) (step : ∀ k σ, k < hi → P k σ → ∃ σ1, S (nI k) σ = some σ1 ∧ P (k + 1) σ1) : ∀ (n lo : Nat) (σ : Mem), lo ≤ hi → hi < lo + n → P lo σ → ∃ σ1, L n (nI lo) σ = some (nI hi, σ1) ∧ P hi σ1 := by
  intro n
  induction n with
  | zero => intro lo σ h1 h2; omega
  | succ n ih =>
    intro lo σ h1 h2 hP
    rw [e, hb lo σ h1 hP]
    by_cases h : lo = hi
    · subst h
      rw [if_pos (nI_le (Nat.le_refl _) hhi)]
      exact ⟨σ, rfl, hP⟩
    · rw [if_neg (nI_ge (by omega) hhi)]
      obtain ⟨σ1, hs, hP1⟩ := step lo σ (by omega) hP
      rw [hs]
      simp only [Option.bind_some]
      rw [← nI_succ]
      exact ih (lo + 1) σ1 (by omega) (by omega) hP1
/-- two counting loops side by side -/
theorem loop2 {LC LR : Nat → Int32 → Mem → Option (Int32 × Mem)} {bC bR : Mem → Int32} {SC SR : Int32 → Mem → Option Mem} (eC : ∀ n a σ, LC (n + 1) a σ = if bC σ ≤ a then some (a, σ) else (SC a σ).bind fun σ1 => LC n (a + 1) σ1) (eR : ∀ n a σ, LR (n + 1) a σ = if bR σ ≤ a then some (a, σ) else (SR a σ).bind fun σ1 => LR n (a + 1) σ1) {P : Nat → Mem → Mem → Prop} {hi : Nat} (hhi : hi < 2 ^ 31)
    (hb : ∀ k σ τ, k ≤ hi → P k σ τ → bC σ = nI hi ∧ bR τ = nI hi) (step : ∀ k σ τ, k < hi → P k σ τ → ∃ σ1 τ1, SC (nI k) σ = some σ1 ∧ SR (nI k) τ = some τ1 ∧ P (k + 1) σ1 τ1) : ∀ (n lo : Nat) (σ τ : Mem), lo ≤ hi → hi < lo + n → P lo σ τ → ∃ σ1 τ1, LC n (nI lo) σ = some (nI hi, σ1) ∧ LR n (nI lo) τ = some (nI hi, τ1) ∧ P hi σ1 τ1 := by
  intro n
  induction n with
  | zero => intro lo σ τ h1 h2; omega
  | succ n ih =>
    intro lo σ τ h1 h2 hP
    rw [eC, eR, (hb lo σ τ h1 hP).1, (hb lo σ τ h1 hP).2]
    by_cases h : lo = hi
    · subst h
      rw [if_pos (nI_le (Nat.le_refl _) hhi), if_pos (nI_le (Nat.le_refl _) hhi)]
      exact ⟨σ, τ, rfl, rfl, hP⟩
    · rw [if_neg (nI_ge (by omega) hhi), if_neg (nI_ge (by omega) hhi)]
      obtain ⟨σ1, τ1, hs, ht, hP1⟩ := step lo σ τ (by omega) hP
      rw [hs, ht]
      simp only [Option.bind_some]
      rw [← nI_succ]
      exact ih (lo + 1) σ1 τ1 (by omega) (by omega) hP1
/-- get and set of a row of ours -/
theorem ro_get {σ : Mem} {k a n i : Nat} (ha : wtg k 0 = a) (hn : wln a = n) (hi : i < n) (h31 : n < 2 ^ 31) : f_RO_get k (nI i) σ = σ a i := by
  unfold f_RO_get
  rw [ha, hn, if_neg (nI_pos (by omega)), if_neg (nI_ge hi h31), nI_clamp (by omega)]
theorem ro_set {σ : Mem} {k a n i : Nat} {v : Int32} (ha : wtg k 0 = a) (hn : wln a = n) (hi : i < n) (h31 : n < 2 ^ 31) : f_RO_set k (nI i) v σ = mput σ a i v := by
  unfold f_RO_set lt
  rw [ha, hn, if_neg (nI_pos (by omega)), if_neg (nI_ge hi h31), nI_clamp (by omega)]
theorem by_get {σ : Mem} {k a i m : Nat} (ha : wtg k 0 = a) (hn : wln a = 6000) (hm : σ k 1 = nI m) (hi : i < m) (hm6 : m ≤ 6000) : f_BY_get k (nI i) σ = σ a i := by
  unfold f_BY_get
  rw [ha, hn, hm, if_neg (nI_pos (by omega)), if_neg (nI_ge hi (by omega)), if_neg (nI_ge (by omega) (by omega)), nI_clamp (by omega)]
theorem by_add {σ : Mem} {k a m : Nat} {v : Int32} (ha : wtg k 0 = a) (hn : wln a = 6000) (hm : σ k 1 = nI m) (hm6 : m < 6000) (hak : a ≠ k) : f_BY_add k v σ = mput (mput σ a m v) k 1 (nI (m + 1)) := by
  unfold f_BY_add lt
  rw [ha, hn, hm, if_neg (nI_pos (by omega)), if_neg (nI_ge (by omega) (by omega)), nI_clamp (by omega)]
  show mput (mput σ a m v) k 1 (mput σ a m v k 1 + 1) = _
  rw [mput_cell (Ne.symm hak), hm, nI_1]
/-- a row filled -/
def fillr (σ : Mem) (a n : Nat) (v : Int32) : Mem := fun k i => if k = a ∧ i < n then v else σ k i
theorem ro_fill {σ : Mem} {k a n : Nat} {v : Int32} (ha : wtg k 0 = a) (hn : wln a = n) (h9 : n < 9999) : f_RO_fill k v σ = some (fillr σ a n v) := by
  have e : ∀ m x s, L_RO_fill_2 k v (m + 1) x s = if (fun _ : Mem => nI n) s ≤ x then some (x, s) else ((fun (x : Int32) (s : Mem) => if inb x n = true then some (mput s a x.toNatClampNeg v) else none) x s).bind fun s1 => L_RO_fill_2 k v m (x + 1) s1 := by
    intro m x s
    show (if (nI (wln (wtg k 0))) ≤ x then some (x, s) else if inb x (wln (wtg k 0)) = true then L_RO_fill_2 k v m (x + 1) (mput s (wtg k 0) x.toNatClampNeg v) else none) = _
    rw [ha, hn]
    by_cases h : nI n ≤ x
    · simp [h]
    · by_cases h2 : inb x n = true <;> simp [h, h2]
  obtain ⟨s1, h1, h2⟩ := loop1 (L := L_RO_fill_2 k v) (b := fun _ => nI n) e (P := fun j s => s = fillr σ a j v) (hi := n) (by omega) (fun _ _ _ _ => rfl) (fun j s hj hs => ⟨fillr σ a (j + 1) v, by
    subst hs
    simp only [inb_nI hj (show n < 2 ^ 31 by omega), if_true, nI_clamp (show j < 2 ^ 31 by omega)]
    congr 1
    funext c i
    rw [mput_app]
    unfold fillr
    by_cases hc : c = a
    · by_cases hij : i = j
      · simp [hc, hij]
      · simp only [hc, hij, and_false, if_false, true_and]
        by_cases hl : i < j
        · simp [hl, show i < j + 1 by omega]
        · simp [hl, show ¬ i < j + 1 by omega]
    · simp [hc], rfl⟩) 9999 0 σ (by omega) (by omega) (by funext c i; simp [fillr])
  unfold f_RO_fill
  rw [show (0 : Int32) = nI 0 from rfl, h1, h2]
  rfl
