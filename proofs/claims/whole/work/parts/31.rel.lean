/-! what the class and the reference have in common between two calls -/
/-- alike where they are 0 -/
def eqz (f g : Nat → Int32) (n : Nat) : Prop := ∀ i, i < n → (f i = 0 ↔ g i = 0)
theorem eqz_upd {f g : Nat → Int32} {n k : Nat} {v : Int32} (h : eqz f g n) : eqz (upd f k v) (upd g k v) n := by
  intro i hi
  unfold upd
  by_cases e : i = k
  · simp [e]
  · simp [e, h i hi]
def RPic (σ τ : Mem) (w h b c nn rs st rt : Nat) : Prop :=
  (σ 1 5 = nI w ∧ σ 1 6 = nI h ∧ σ 1 7 = nI b ∧ σ 1 8 = nI c) ∧ (τ 56 2 = nI w ∧ τ 56 3 = nI h ∧ τ 56 4 = nI b ∧ τ 56 5 = nI c) ∧
  (σ 10 3 = nI nn ∧ τ 56 12 = nI nn ∧ nn ≤ 6 ∧ (c = 0 → nn = 0)) ∧ (c = 0 ∨ (1 ≤ w ∧ w ≤ 12 ∧ 1 ≤ h ∧ h ≤ 12 ∧ 2 ≤ b ∧ b ≤ 8 ∧ 1 ≤ c ∧ c ≤ 4)) ∧
  (eqn (σ 3) (τ 57) 576 ∧ bnd (σ 3) 576 255) ∧ eqz (σ 7) (τ 58) 4 ∧ (eqn (σ 9) (τ 59) 1024 ∧ bnd (σ 9) 1024 65535) ∧
  (σ 5 0 = nI rs ∧ σ 5 1 = nI st ∧ σ 5 2 = nI rt ∧ τ 56 9 = nI rs ∧ τ 56 10 = nI st ∧ τ 56 11 = nI rt ∧ rs ≤ 255 ∧ st ≤ 255 ∧ rt ≤ 12) ∧
  (eqn (σ 12) (τ 60) 6 ∧ bnd (σ 12) 6 16) ∧ (eqn (σ 14) (τ 61) 6 ∧ bnd (σ 14) 6 30) ∧ (eqn (σ 16) (τ 62) 180 ∧ bnd (σ 16) 180 255)
def RSt (σ τ : Mem) (n : Nat) : Prop := σ 17 1 = nI n ∧ τ 56 17 = nI n ∧ n ≤ 6000 ∧ eqn (σ 18) (τ 63) 6000 ∧ bnd (σ 18) 6000 255
def RWr (σ τ : Mem) (n : Nat) : Prop := σ 17 1 = nI n ∧ τ 56 17 = nI n ∧ n ≤ 6000 ∧ eqn (σ 18) (τ 63) 6000 ∧ bnd (σ 18) 6000 255 ∧ σ 29 1 = 0 ∧ σ 29 2 = 8
def RCa (σ τ : Mem) (m : Nat) : Prop := σ 19 1 = nI m ∧ τ 56 19 = nI m ∧ m ≤ 6000 ∧ eqn (σ 20) (τ 64) 6000 ∧ bnd (σ 20) 6000 255
def RGot (σ τ : Mem) (w h b c nn : Nat) : Prop :=
  (σ 31 5 = nI w ∧ σ 31 6 = nI h ∧ σ 31 7 = nI b ∧ σ 31 8 = nI c) ∧ (τ 65 0 = nI w ∧ τ 65 1 = nI h ∧ τ 65 2 = nI b ∧ τ 65 3 = nI c) ∧ (1 ≤ w ∧ w ≤ 12 ∧ 1 ≤ h ∧ h ≤ 12 ∧ 2 ≤ b ∧ b ≤ 8 ∧ 1 ≤ c ∧ c ≤ 4) ∧
  (σ 30 10 = τ 65 4 ∧ σ 30 11 = τ 65 5 ∧ σ 35 0 = τ 65 6 ∧ σ 35 1 = τ 65 7 ∧ σ 35 2 = τ 65 8) ∧ (σ 40 3 = nI nn ∧ τ 65 9 = nI nn ∧ nn ≤ 6) ∧
  (∀ k x y, k < c → x < w → y < h → ∃ v : Nat, v < 2 ^ b ∧ σ 33 (144 * k + 12 * y + x) = nI v ∧ τ 66 (144 * k + 12 * y + x) = nI v) ∧
  eqn (σ 37) (τ 67) 4 ∧ (∀ k v, k < c → ¬ σ 37 k = 0 → v < 2 ^ b → σ 39 (256 * k + v) = τ 68 (256 * k + v)) ∧
  (∀ k, k < nn → σ 42 k = τ 69 k ∧ ∃ z : Nat, z ≤ 30 ∧ σ 44 k = nI z ∧ τ 70 k = nI z ∧ ∀ i, i < z → σ 46 (30 * k + i) = τ 71 (30 * k + i))
def RRd (σ τ : Mem) : Prop :=
  σ 30 7 = τ 56 20 ∧ (σ 30 7 = 0 ∨ σ 30 7 = 1) ∧ σ 47 0 = τ 56 28 ∧ σ 30 12 = τ 56 30 ∧ σ 30 13 = τ 56 31 ∧ (σ 30 7 = 0 ∨ ∃ w h b c nn, RGot σ τ w h b c nn)
def RTu (σ τ : Mem) (t : Nat) : Prop := σ 0 0 = nI t ∧ τ 56 0 = nI t ∧ t ≤ 2
def Rel (σ τ : Mem) : Prop := (∃ t, RTu σ τ t) ∧ (∃ w h b c nn rs st rt, RPic σ τ w h b c nn rs st rt) ∧ (∃ n, RWr σ τ n) ∧ (∃ m, RCa σ τ m) ∧ RRd σ τ
def Inv (σ : Mem) : Prop := Rel σ σ
/-- what the class leaves alone; what the reference leaves alone -/
def FrC (σ σ1 : Mem) : Prop := ∀ k, 56 ≤ k → σ1 k = σ k
def FrR (τ τ1 : Mem) : Prop := ∀ k, (k < 56 ∨ 82 ≤ k) → τ1 k = τ k
theorem RPic.congr {σ τ σ1 τ1 : Mem} {w h b c nn rs st rt : Nat} (hσ : ∀ k, 1 ≤ k → k < 17 → σ1 k = σ k) (h56 : ∀ j, 2 ≤ j → j < 13 → τ1 56 j = τ 56 j) (hτ : ∀ k, 57 ≤ k → k < 63 → τ1 k = τ k) (H : RPic σ τ w h b c nn rs st rt) : RPic σ1 τ1 w h b c nn rs st rt := by
  unfold RPic at H ⊢
  rw [hσ 1 (by decide) (by decide), hσ 3 (by decide) (by decide), hσ 5 (by decide) (by decide), hσ 7 (by decide) (by decide), hσ 9 (by decide) (by decide), hσ 10 (by decide) (by decide), hσ 12 (by decide) (by decide), hσ 14 (by decide) (by decide), hσ 16 (by decide) (by decide), h56 2 (by decide) (by decide), h56 3 (by decide) (by decide), h56 4 (by decide) (by decide), h56 5 (by decide) (by decide), h56 9 (by decide) (by decide), h56 10 (by decide) (by decide), h56 11 (by decide) (by decide), h56 12 (by decide) (by decide), hτ 57 (by decide) (by decide), hτ 58 (by decide) (by decide), hτ 59 (by decide) (by decide), hτ 60 (by decide) (by decide), hτ 61 (by decide) (by decide), hτ 62 (by decide) (by decide)]
  exact H
theorem RWr.congr {σ τ σ1 τ1 : Mem} {n : Nat} (h1 : σ1 17 = σ 17) (h2 : σ1 18 = σ 18) (h5 : σ1 29 = σ 29) (h3 : τ1 56 17 = τ 56 17) (h4 : τ1 63 = τ 63) (H : RWr σ τ n) : RWr σ1 τ1 n := by
  unfold RWr at H ⊢
  rw [h1, h2, h3, h4, h5]
  exact H
theorem RCa.congr {σ τ σ1 τ1 : Mem} {n : Nat} (h1 : σ1 19 = σ 19) (h2 : σ1 20 = σ 20) (h3 : τ1 56 19 = τ 56 19) (h4 : τ1 64 = τ 64) (H : RCa σ τ n) : RCa σ1 τ1 n := by
  unfold RCa at H ⊢
  rw [h1, h2, h3, h4]
  exact H
theorem RTu.congr {σ τ σ1 τ1 : Mem} {t : Nat} (h1 : σ1 0 = σ 0) (h3 : τ1 56 0 = τ 56 0) (H : RTu σ τ t) : RTu σ1 τ1 t := by
  unfold RTu at H ⊢
  rw [h1, h3]
  exact H
theorem RGot.congr {σ τ σ1 τ1 : Mem} {w h b c nn : Nat} (hσ : ∀ k, 30 ≤ k → k < 56 → σ1 k = σ k) (hτ : ∀ k, 65 ≤ k → k < 72 → τ1 k = τ k) (H : RGot σ τ w h b c nn) : RGot σ1 τ1 w h b c nn := by
  unfold RGot at H ⊢
  rw [hσ 30 (by decide) (by decide), hσ 31 (by decide) (by decide), hσ 33 (by decide) (by decide), hσ 35 (by decide) (by decide), hσ 37 (by decide) (by decide), hσ 39 (by decide) (by decide), hσ 40 (by decide) (by decide), hσ 42 (by decide) (by decide), hσ 44 (by decide) (by decide), hσ 46 (by decide) (by decide), hτ 65 (by decide) (by decide), hτ 66 (by decide) (by decide), hτ 67 (by decide) (by decide), hτ 68 (by decide) (by decide), hτ 69 (by decide) (by decide), hτ 70 (by decide) (by decide), hτ 71 (by decide) (by decide)]
  exact H
theorem RRd.congr {σ τ σ1 τ1 : Mem} (hσ : ∀ k, 30 ≤ k → k < 56 → σ1 k = σ k) (h56 : ∀ j, 20 ≤ j → j < 32 → τ1 56 j = τ 56 j) (hτ : ∀ k, 65 ≤ k → k < 72 → τ1 k = τ k) (H : RRd σ τ) : RRd σ1 τ1 := by
  obtain ⟨a1, a2, a3, a4, a5, a6⟩ := H
  refine ⟨?_, ?_, ?_, ?_, ?_, ?_⟩
  · rw [hσ 30 (by decide) (by decide), h56 20 (by decide) (by decide)]; exact a1
  · rw [hσ 30 (by decide) (by decide)]; exact a2
  · rw [hσ 47 (by decide) (by decide), h56 28 (by decide) (by decide)]; exact a3
  · rw [hσ 30 (by decide) (by decide), h56 30 (by decide) (by decide)]; exact a4
  · rw [hσ 30 (by decide) (by decide), h56 31 (by decide) (by decide)]; exact a5
  · rw [hσ 30 (by decide) (by decide)]
    rcases a6 with a6 | ⟨w, h, b, c, nn, a6⟩
    · exact Or.inl a6
    · exact Or.inr ⟨w, h, b, c, nn, a6.congr hσ hτ⟩
theorem Rel.congr {σ τ σ1 τ1 : Mem} (hσ : ∀ k, k < 56 → σ1 k = σ k) (hτ : ∀ k, 56 ≤ k → k < 82 → τ1 k = τ k) (H : Rel σ τ) : Rel σ1 τ1 := by
  obtain ⟨⟨t, h1⟩, ⟨w, h, b, c, nn, rs, st, rt, h2⟩, ⟨n, h3⟩, ⟨m, h4⟩, h5⟩ := H
  have h56 : ∀ j, τ1 56 j = τ 56 j := fun j => by rw [hτ 56 (by decide) (by decide)]
  exact ⟨⟨t, h1.congr (hσ 0 (by decide)) (h56 0)⟩, ⟨w, h, b, c, nn, rs, st, rt, h2.congr (fun k a b => hσ k (by omega)) (fun j _ _ => h56 j) (fun k a b => hτ k (by omega) (by omega))⟩, ⟨n, h3.congr (hσ 17 (by decide)) (hσ 18 (by decide)) (hσ 29 (by decide)) (h56 17) (hτ 63 (by decide) (by decide))⟩, ⟨m, h4.congr (hσ 19 (by decide)) (hσ 20 (by decide)) (h56 19) (hτ 64 (by decide) (by decide))⟩, h5.congr (fun k a b => hσ k (by omega)) (fun j _ _ => h56 j) (fun k a b => hτ k (by omega) (by omega))⟩
/-- the reference alone has answered: only 'thrown' has changed -/
theorem Rel.thr {σ τ : Mem} {v : Int32} (H : Rel σ τ) : Rel σ (mput τ 56 1 v) := by
  obtain ⟨⟨t, h1⟩, ⟨w, h, b, c, nn, rs, st, rt, h2⟩, ⟨n, h3⟩, ⟨m, h4⟩, h5⟩ := H
  have h56 : ∀ j, ¬ j = 1 → mput τ 56 1 v 56 j = τ 56 j := fun j hj => by rw [mput_app, if_neg (by simp [hj])]
  have hc : ∀ k, ¬ k = 56 → mput τ 56 1 v k = τ k := fun k hk => mput_cell hk
  exact ⟨⟨t, h1.congr rfl (h56 0 (by decide))⟩, ⟨w, h, b, c, nn, rs, st, rt, h2.congr (fun _ _ _ => rfl) (fun j _ _ => h56 j (by omega)) (fun k _ _ => hc k (by omega))⟩, ⟨n, h3.congr rfl rfl rfl (h56 17 (by decide)) (hc 63 (by decide))⟩, ⟨m, h4.congr rfl rfl (h56 19 (by decide)) (hc 64 (by decide))⟩, h5.congr (fun _ _ _ => rfl) (fun j _ _ => h56 j (by omega)) (fun k _ _ => hc k (by omega))⟩
theorem FrR.thr {τ : Mem} {v : Int32} : FrR τ (mput τ 56 1 v) := fun k hk => mput_cell (by omega)
def Ans (cds : List (Nat × Int32)) (t : Int32 ⊕ Nat) (k r : Int32) : Prop := match t with
  | .inl v => k = 0 ∧ r = v
  | .inr n => (n, k) ∈ cds ∧ ¬ k = 0
theorem Rel.inv {σ τ τ0 : Mem} (H : Rel σ τ) (hF : FrR τ0 τ) (h0 : ∀ k, k < 56 → τ0 k = σ k) : Inv τ := H.congr (fun k hk => by rw [hF k (Or.inl hk), h0 k hk]) (fun _ _ _ => rfl)
/-- from the side-by-side step to what the law's loop wants -/
theorem owed_of {cds : List (Nat × Int32)} {t : Int32 ⊕ Nat} {σ σ1 : Mem} {ref : Mem → Option (Int32 × Mem)} (hI : Inv σ) (hF : FrC σ σ1) (h : ∀ τ, Rel σ τ → ∃ r τ1, ref τ = some (r, τ1) ∧ FrR τ τ1 ∧ Rel σ1 τ1 ∧ Ans cds t (τ1 56 1) r) :
    ∃ k σ2 q, HRes cds (xrIM (t, σ1)) k σ2 ∧ ref σ2 = some q ∧ q.2 56 1 = k ∧ (k = 0 → q.2 82 0 = q.1) ∧ Inv q.2 := by
  cases t with
  | inl v =>
    obtain ⟨r, τ1, h1, h2, h3, h4⟩ := h (mput σ1 82 0 v) (hI.congr (fun _ _ => rfl) (fun k a b => by rw [mput_cell (by omega), hF k a]))
    refine ⟨0, mput σ1 82 0 v, (r, τ1), Or.inl ⟨v, σ1, rfl, rfl, rfl⟩, h1, h4.1, fun _ => ?_, h3.inv h2 (fun k hk => mput_cell (by omega))⟩
    show τ1 82 0 = r
    rw [h2 82 (Or.inr (by decide)), mput_app, if_pos ⟨rfl, rfl⟩, h4.2]
  | inr n =>
    obtain ⟨r, τ1, h1, h2, h3, h4⟩ := h σ1 (hI.congr (fun _ _ => rfl) (fun k a b => hF k a))
    exact ⟨τ1 56 1, σ1, (r, τ1), Or.inr ⟨n, rfl, h4.1⟩, h1, rfl, fun z => absurd z h4.2, h3.inv h2 (fun _ _ => rfl)⟩
/-- the same where the class's call leaves its memory alone -/
theorem owed_ofI {cds : List (Nat × Int32)} {t : Int32 ⊕ Nat} {σ : Mem} {ref : Mem → Option (Int32 × Mem)} (hI : Inv σ) (h : ∀ τ, Rel σ τ → ∃ r τ1, ref τ = some (r, τ1) ∧ FrR τ τ1 ∧ Rel σ τ1 ∧ Ans cds t (τ1 56 1) r) :
    ∃ k σ2 q, HRes cds (xrI t σ) k σ2 ∧ ref σ2 = some q ∧ q.2 56 1 = k ∧ (k = 0 → q.2 82 0 = q.1) ∧ Inv q.2 := by
  have h9 := owed_of (cds := cds) (t := t) hI (fun _ _ => rfl) h
  have e : xrIM (t, σ) = xrI t σ := by cases t <;> rfl
  rw [e] at h9
  exact h9
