/-! reading: the head of a scan -/
set_option maxRecDepth 100000 in
set_option maxHeartbeats 4000000 in
theorem r_scanParts {σ0 τ0 σ τ : Mem} {m p w h b c rs st rt nn sc cn : Nat} {d : Nat → Nat} {b2 b1 : Int32} (B : RB σ0 τ0 m d) (F : RFr σ0 τ0 σ τ) (H : RH σ τ w h b c rs st rt nn sc) (e32 : τ 56 32 = nI p) (hcn : cn ≤ 4) (hm : p + 5 + 2 * cn ≤ m) :
    Both (L_SR_takeScan_49 30 (nI p) b2 (nI cn) σ 9999 0) (L_RM_isScan_83 56 b1 (nI cn) 9999 0 τ) (fun a q => (a = .inl (nI cn) ∧ q = .inl (nI cn, τ) ∧ ∀ j, j < cn → ∃ k, k < c ∧ d (p + 5 + 2 * j) = k + 1 ∧ (cn ≤ 1 ∨ k = j) ∧ σ 55 k = 0) ∨ ∃ f, ¬ f ≤ 0 ∧ a = .inr f ∧ q = .inr (f_RM_broken 56 f (nI p) τ)) := by
  obtain ⟨Hf, Hp, Hn, Ht, Hs, Hz⟩ := id H
  have m6 : m ≤ 6000 := B.2.2.1
  have hc4 : c ≤ 4 := Hf.2.2.2.2
  refine loopB (C := fun f j (_ : Unit) => L_SR_takeScan_49 30 (nI p) b2 (nI cn) σ f (nI j)) (R := fun f j (t : Mem) => L_RM_isScan_83 56 b1 (nI cn) f (nI j) t) (P := fun j _ t => t = τ ∧ ∀ i, i < j → ∃ k, k < c ∧ d (p + 5 + 2 * i) = k + 1 ∧ (cn ≤ 1 ∨ k = i) ∧ σ 55 k = 0) (hi := cn) ?_ ?_ cn 9999 9999 0 () τ (by omega) (by omega) (by omega) ⟨rfl, fun i hi => by omega⟩
  · rintro _ t ⟨rfl, hs⟩ f g
    refine ⟨.inl (nI cn), .inl (nI cn, t), ?_, ?_, Or.inl ⟨rfl, rfl, hs⟩⟩
    · show L_SR_takeScan_49 30 (nI p) b2 (nI cn) σ (f + 1) (nI cn) = _
      rw [L_SR_takeScan_49, if_pos (nI_le (Nat.le_refl _) (by omega))]
    · show L_RM_isScan_83 56 b1 (nI cn) (g + 1) (nI cn) t = _
      rw [L_RM_isScan_83, if_pos (nI_le (Nat.le_refl _) (by omega))]
  · rintro j _ t hj ⟨rfl, hs⟩
    have e5 : nI p + 5 + 2 * nI j = nI (p + 5 + 2 * j) := by rw [show (2 : Int32) = nI 2 from rfl, show (5 : Int32) = nI 5 from rfl, nI_mul, nI_add, nI_add]
    have e6 : nI p + 6 + 2 * nI j = nI (p + 6 + 2 * j) := by rw [show (2 : Int32) = nI 2 from rfl, show (6 : Int32) = nI 6 from rfl, nI_mul, nI_add, nI_add]
    have e51 : nI (p + 5 + 2 * j) + 1 = nI (p + 6 + 2 * j) := by rw [nI_1]; congr 1; omega
    have dx := (B.2.2.2 (p + 5 + 2 * j) (by omega)).1
    have dy := (B.2.2.2 (p + 6 + 2 * j) (by omega)).1
    have eN : ∀ x : Int32, f_PI_hasComponent 31 x σ = inI x c := fun x => by unfold f_PI_hasComponent inI; rw [Hf.1.2.2.2]
    have eM : ∀ x : Int32, f_RM_isIn x (0 : Int32) (t 56 37 - 1) t = inI x c := fun x => by rw [Hf.2.1]; exact isIn0 (by omega)
    have cC : ∀ f, L_SR_takeScan_49 30 (nI p) b2 (nI cn) σ (f + 1) (nI j) = (if f_SR_faultOfPart 30 (nI j) (nI cn) (nI (d (p + 5 + 2 * j))) (nI (d (p + 6 + 2 * j))) σ = 0 then L_SR_takeScan_49 30 (nI p) b2 (nI cn) σ f (nI (j + 1)) else some (.inr (f_SR_faultOfPart 30 (nI j) (nI cn) (nI (d (p + 5 + 2 * j))) (nI (d (p + 6 + 2 * j))) σ))) := by
      intro f
      rw [L_SR_takeScan_49, if_neg (nI_ge hj (by omega)), lt_eq, lt_eq, e5, e51, wt_30_0, rd_c B F (by omega), rd_c B F (by omega), nI_1]
    have cR : ∀ f, L_RM_isScan_83 56 b1 (nI cn) (f + 1) (nI j) t = (if inI (nI (d (p + 5 + 2 * j)) - 1) c = 0 then some (.inr (f_RM_broken 56 6 (nI p) t)) else (if nI cn ≤ 1 ∨ nI (d (p + 5 + 2 * j)) - 1 = nI j then (if inb (nI (d (p + 5 + 2 * j)) - 1) 4 = true then (if t 78 (nI (d (p + 5 + 2 * j)) - 1).toNatClampNeg = 0 then (if nI (d (p + 6 + 2 * j)) = 0 then L_RM_isScan_83 56 b1 (nI cn) f (nI (j + 1)) t else (if nI (d (p + 6 + 2 * j)) = nI (d (p + 5 + 2 * j)) - 1 + 1 then (if inb (nI (d (p + 5 + 2 * j)) - 1) 4 = true then (if t 73 (nI (d (p + 5 + 2 * j)) - 1).toNatClampNeg = 0 then some (.inr (f_RM_broken 56 4 (nI p) t)) else L_RM_isScan_83 56 b1 (nI cn) f (nI (j + 1)) t) else none) else some (.inr (f_RM_broken 56 4 (nI p) t)))) else some (.inr (f_RM_broken 56 5 (nI p) t))) else none) else some (.inr (f_RM_broken 56 4 (nI p) t)))) := by
      intro f
      rw [L_RM_isScan_83, if_neg (nI_ge hj (by omega)), e32, e5, e6, wt_56_18, wl_64, if_pos (rd_i B (by omega)), rd_r B F (by omega), lt_eq, if_pos (rd_i B (by omega)), rd_r B F (by omega), lt_eq, eM, wt_56_45, wt_56_50, wl_73, wl_78, nI_1]
      simp only [lt_eq, e32]
      by_cases z1 : nI cn ≤ 1
      · simp only [z1, true_or, if_true]
      · by_cases z2 : nI (d (p + 5 + 2 * j)) - 1 = nI j
        · simp only [z1, z2, or_true, if_true, if_false]
        · simp only [z1, z2, or_self, if_false]
    have bad : ∀ fl : Int32, ¬ fl ≤ 0 → f_SR_faultOfPart 30 (nI j) (nI cn) (nI (d (p + 5 + 2 * j))) (nI (d (p + 6 + 2 * j))) σ = fl → (∀ f, L_RM_isScan_83 56 b1 (nI cn) (f + 1) (nI j) t = some (.inr (f_RM_broken 56 fl (nI p) t))) → ∀ f g, Both (L_SR_takeScan_49 30 (nI p) b2 (nI cn) σ (f + 1) (nI j)) (L_RM_isScan_83 56 b1 (nI cn) (g + 1) (nI j) t) (fun a q => (a = .inl (nI cn) ∧ q = .inl (nI cn, t) ∧ ∀ j, j < cn → ∃ k, k < c ∧ d (p + 5 + 2 * j) = k + 1 ∧ (cn ≤ 1 ∨ k = j) ∧ σ 55 k = 0) ∨ ∃ f, ¬ f ≤ 0 ∧ a = .inr f ∧ q = .inr (f_RM_broken 56 f (nI p) t)) := by
      intro fl hfl h1 h2 f g
      rw [cC f, h1, if_neg (show ¬ fl = 0 from fun z => hfl (by rw [z]; decide)), h2 g]
      exact both_ret (Or.inr ⟨fl, hfl, rfl, rfl⟩)
    rcases inI_cases (nI (d (p + 5 + 2 * j)) - 1) (c := c) (by omega) with i1 | ⟨k, hk, ek⟩
    · right
      refine bad 6 (by decide) ?_ (fun f => by rw [cR f, i1, if_pos rfl])
      rw [f_SR_faultOfPart, wt_30_1, eN, i1, if_pos rfl]
    · have ed : nI (d (p + 5 + 2 * j)) = nI (k + 1) := by
        have : nI (d (p + 5 + 2 * j)) - 1 + 1 = nI k + 1 := by rw [ek]
        rw [Int32.sub_add_cancel, nI_1] at this
        exact this
      have edn : d (p + 5 + 2 * j) = k + 1 := nI_inj (by omega) (by omega) ed
      have cT : f_PI_hasTable 31 (nI k) σ = if t 73 k = 0 then 0 else 1 := by
        rw [f_PI_hasTable, wt_31_2, ro_get (k := 36) (a := 37) (n := 4) wt_36_0 wl_37 (by omega) (by decide), (Ht.1 k (by omega)).1]
      have cS : f_RO_get 54 (nI k) σ = σ 55 k := ro_get (k := 54) (a := 55) (n := 4) wt_54_0 wl_55 (by omega) (by decide)
      have iy : inI (nI k) c = 1 := inI_yes hk (by omega)
      have ib : inb (nI k) 4 = true := inb_nI (by omega) (by decide)
      have icl : (nI k).toNatClampNeg = k := nI_clamp (by omega)
      have h78 : t 78 k = 0 ↔ σ 55 k = 0 := (Hs.1 k (by omega)).symm
      rw [edn] at cC cR ek bad
      have eF : f_SR_faultOfPart 30 (nI j) (nI cn) (nI (k + 1)) (nI (d (p + 6 + 2 * j))) σ = (if nI cn ≤ 1 ∨ nI k = nI j then (if σ 55 k = 0 then (if nI (d (p + 6 + 2 * j)) = 0 then 0 else (if nI (d (p + 6 + 2 * j)) = nI (k + 1) then (if t 73 k = 0 then 4 else 0) else 4)) else 5) else 4) := by
        rw [f_SR_faultOfPart, wt_30_1, wt_30_5, eN, ek, iy, if_neg (show ¬ (1 : Int32) = 0 by decide), cS, cT]
        simp only [lt_eq]
        by_cases q1 : nI cn ≤ 1
        · simp only [q1, true_or, if_true]
          by_cases q3 : σ 55 k = 0 <;> by_cases q4 : nI (d (p + 6 + 2 * j)) = 0 <;> by_cases q5 : nI (d (p + 6 + 2 * j)) = nI (k + 1) <;> by_cases q6 : t 73 k = 0 <;> simp [q3, q4, q5, q6]
        · by_cases q2 : nI k = nI j
          · simp only [q1, q2, or_true, if_true, if_false]
            by_cases q3 : σ 55 k = 0 <;> by_cases q4 : nI (d (p + 6 + 2 * j)) = 0 <;> by_cases q5 : nI (d (p + 6 + 2 * j)) = nI (k + 1) <;> by_cases q6 : t 73 k = 0 <;> simp [q3, q4, q5, q6]
          · simp only [q1, q2, or_self, if_false]
      have eR : ∀ f, L_RM_isScan_83 56 b1 (nI cn) (f + 1) (nI j) t = (if nI cn ≤ 1 ∨ nI k = nI j then (if σ 55 k = 0 then (if nI (d (p + 6 + 2 * j)) = 0 then L_RM_isScan_83 56 b1 (nI cn) f (nI (j + 1)) t else (if nI (d (p + 6 + 2 * j)) = nI (k + 1) then (if t 73 k = 0 then some (.inr (f_RM_broken 56 4 (nI p) t)) else L_RM_isScan_83 56 b1 (nI cn) f (nI (j + 1)) t) else some (.inr (f_RM_broken 56 4 (nI p) t)))) else some (.inr (f_RM_broken 56 5 (nI p) t))) else some (.inr (f_RM_broken 56 4 (nI p) t))) := by
        intro f
        rw [cR f, ek, iy, if_neg (show ¬ (1 : Int32) = 0 by decide), ib, if_pos rfl, icl, if_pos rfl, nI_1]
        simp only [h78]
      have good : (cn ≤ 1 ∨ k = j) → σ 55 k = 0 → f_SR_faultOfPart 30 (nI j) (nI cn) (nI (k + 1)) (nI (d (p + 6 + 2 * j))) σ = 0 → (∀ f, L_RM_isScan_83 56 b1 (nI cn) (f + 1) (nI j) t = L_RM_isScan_83 56 b1 (nI cn) f (nI (j + 1)) t) → ∃ (s1 : Unit) (t1 : Mem), (∀ f, L_SR_takeScan_49 30 (nI p) b2 (nI cn) σ (f + 1) (nI j) = L_SR_takeScan_49 30 (nI p) b2 (nI cn) σ f (nI (j + 1))) ∧ (∀ f, L_RM_isScan_83 56 b1 (nI cn) (f + 1) (nI j) t = L_RM_isScan_83 56 b1 (nI cn) f (nI (j + 1)) t1) ∧ t1 = t ∧ ∀ i, i < j + 1 → ∃ k, k < c ∧ d (p + 5 + 2 * i) = k + 1 ∧ (cn ≤ 1 ∨ k = i) ∧ σ 55 k = 0 := by
        intro g1 g2 g3 g4
        refine ⟨(), t, fun f => by rw [cC f, g3, if_pos rfl], g4, rfl, ?_⟩
        intro i hi
        by_cases e : i = j
        · subst e
          exact ⟨k, hk, edn, g1, g2⟩
        · exact hs i (by omega)
      by_cases q1 : nI cn ≤ 1 ∨ nI k = nI j
      · have q1n : cn ≤ 1 ∨ k = j := q1.imp (fun q => (nI_leI (b := 1) (by omega) (by decide)).mp q) (fun q => nI_inj (by omega) (by omega) q)
        by_cases q3 : σ 55 k = 0
        · by_cases q4 : nI (d (p + 6 + 2 * j)) = 0
          · exact Or.inl (good q1n q3 (by rw [eF, if_pos q1, if_pos q3, if_pos q4]) (fun f => by rw [eR f, if_pos q1, if_pos q3, if_pos q4]))
          · by_cases q5 : nI (d (p + 6 + 2 * j)) = nI (k + 1)
            · by_cases q6 : t 73 k = 0
              · exact Or.inr (bad 4 (by decide) (by rw [eF, if_pos q1, if_pos q3, if_neg q4, if_pos q5, if_pos q6]) (fun f => by rw [eR f, if_pos q1, if_pos q3, if_neg q4, if_pos q5, if_pos q6]))
              · exact Or.inl (good q1n q3 (by rw [eF, if_pos q1, if_pos q3, if_neg q4, if_pos q5, if_neg q6]) (fun f => by rw [eR f, if_pos q1, if_pos q3, if_neg q4, if_pos q5, if_neg q6]))
            · exact Or.inr (bad 4 (by decide) (by rw [eF, if_pos q1, if_pos q3, if_neg q4, if_neg q5]) (fun f => by rw [eR f, if_pos q1, if_pos q3, if_neg q4, if_neg q5]))
        · exact Or.inr (bad 5 (by decide) (by rw [eF, if_pos q1, if_neg q3]) (fun f => by rw [eR f, if_pos q1, if_neg q3]))
      · exact Or.inr (bad 4 (by decide) (by rw [eF, if_neg q1]) (fun f => by rw [eR f, if_neg q1]))
set_option maxRecDepth 100000 in
set_option maxHeartbeats 4000000 in
theorem y_bind {α : Type} {A B C : Prop} [Decidable A] [Decidable B] [Decidable C] {X : Int32} {K : Int32 → Option α} : ((if A then (if B then (if C then some (1 : Int32) else some 0) else none) else (if B then some X else none)).bind K) = if A then (if B then (if C then K 1 else K 0) else none) else (if B then K X else none) := by
  by_cases h1 : A <;> by_cases h2 : B <;> by_cases h3 : C <;> simp only [h1, h2, h3, if_true, if_false, Option.bind_some, Option.bind_none]
/-- a scan's head was taken: which components (from lo, cn of them), how near, in which turn -/
def SH (σ τ : Mem) (d : Nat → Nat) (p c L lo cn ne tn : Nat) (a q : Int32 × Mem) : Prop := a = (0, mput (mput (mput (mput σ 30 8 (nI lo)) 30 9 (nI cn)) 30 10 (nI ne)) 30 11 (nI tn)) ∧ q = (1, mput (mput τ 56 42 (nI ne)) 56 43 (nI tn)) ∧ 1 ≤ cn ∧ lo + cn ≤ c ∧ ne ≤ 3 ∧ tn ≤ 2 ∧ (cn = 1 → d (p + 5) = lo + 1) ∧ (¬ cn = 1 → lo = 0) ∧ L = 6 + 2 * cn ∧ d (p + 4) = cn ∧ ∀ k, lo ≤ k → k < lo + cn → σ 55 k = 0
set_option maxRecDepth 100000 in
set_option maxHeartbeats 4000000 in
theorem r_scanHead {σ0 τ0 σ τ : Mem} {m p w h b c rs st rt nn sc L : Nat} {d : Nat → Nat} (B : RB σ0 τ0 m d) (F : RFr σ0 τ0 σ τ) (H : RH σ τ w h b c rs st rt nn sc) (hc0 : ¬ c = 0) (e32 : τ 56 32 = nI p) (hL : L = 256 * d (p + 2) + d (p + 3)) (h2 : 2 ≤ L) (hm : p + 2 + L ≤ m) :
    Both (f_SR_takeScan 30 (nI p) (nI L) σ) (f_RM_isScan 56 τ) (fun a q => (∃ f, ¬ f ≤ 0 ∧ a = (f, σ) ∧ q = f_RM_broken 56 f (nI p) τ) ∨ ∃ lo cn ne tn, SH σ τ d p c L lo cn ne tn a q) := by
  obtain ⟨Hf, Hp, Hn, Ht, Hs, Hz⟩ := id H
  have m6 : m ≤ 6000 := B.2.2.1
  have hc4 : c ≤ 4 := Hf.2.2.2.2
  have e2 : nI p + 2 = nI (p + 2) := nI_add p 2
  have e4 : nI p + 4 = nI (p + 4) := nI_add p 4
  have e5 : nI p + 5 = nI (p + 5) := nI_add p 5
  rw [f_SR_takeScan, f_RM_isScan, e32, e2, rd_wr B F (show p + 2 + 1 < m by omega), Option.bind_some, show p + 2 + 1 = p + 3 from rfl, ← hL, wt_30_0, wt_30_1, wt_56_18, wl_64, e4, e5]
  simp only [lt_eq]
  have flt : ∀ f : Int32, ¬ f ≤ 0 → Both (some (f, σ)) (some ((f_RM_broken 56 f (nI p) τ).1, (f_RM_broken 56 f (nI p) τ).2)) (fun a q => (∃ f, ¬ f ≤ 0 ∧ a = (f, σ) ∧ q = f_RM_broken 56 f (nI p) τ) ∨ ∃ lo cn ne tn, SH σ τ d p c L lo cn ne tn a q) := fun f hf => both_ret (Or.inl ⟨f, hf, rfl, rfl⟩)
  by_cases z3 : L < 3
  · have l3 : nI L < 3 := nI_lt (b := 3) z3 (by decide)
    rw [if_pos l3, if_pos l3, e32]
    exact flt 3 (by decide)
  have l3 : ¬ nI L < 3 := Int32.not_lt.mpr (nI_le (a := 3) (by omega) (by omega))
  have d4 := (B.2.2.2 (p + 4) (by omega)).1
  have e62 : (6 : Int32) + 2 * nI (d (p + 4)) = nI (6 + 2 * d (p + 4)) := by rw [show (2 : Int32) = nI 2 from rfl, show (6 : Int32) = nI 6 from rfl, nI_mul, nI_add]
  rw [if_neg l3, if_neg l3, if_pos (rd_i B (show p + 4 < m by omega)), rd_r B F (show p + 4 < m by omega), rd_c B F (show p + 4 < m by omega), e62]
  by_cases zl : L = 6 + 2 * d (p + 4)
  · have hll : nI L = nI (6 + 2 * d (p + 4)) := by rw [← zl]
    rw [if_pos hll, if_pos hll, if_pos (rd_i B (show p + 4 < m by omega))]
    generalize hcn : d (p + 4) = cn at d4 zl
    have e55 : nI (p + 5) + 2 * nI cn = nI (p + 5 + 2 * cn) := by rw [show (2 : Int32) = nI 2 from rfl, nI_mul, nI_add]
    have e56 : nI (p + 5 + 2 * cn) + 1 = nI (p + 6 + 2 * cn) := by rw [nI_1]; congr 1; omega
    have e57 : nI (p + 5 + 2 * cn) + 2 = nI (p + 7 + 2 * cn) := by rw [show (2 : Int32) = nI 2 from rfl, nI_add]; congr 1; omega
    have l1 : nI cn = 1 ↔ cn = 1 := nI_eq (b := 1) (by omega) (by decide)
    have lc : nI cn = nI c ↔ cn = c := nI_eq (by omega) (by omega)
    rw [Hf.1.2.2.2, Hf.2.1]
    simp only [l1, lc]
    have dA := (B.2.2.2 (p + 5 + 2 * cn) (by omega)).1
    have dB := (B.2.2.2 (p + 6 + 2 * cn) (by omega)).1
    have dC := (B.2.2.2 (p + 7 + 2 * cn) (by omega)).1
    have body : (cn = 1 ∨ cn = c) → Both ((L_SR_takeScan_49 30 (nI p) (nI L) (nI cn) σ 9999 0).bind fun q239_ => ecase q239_ (fun q239 => if (3 : Int32) < f_BY_get 19 (nI (p + 5) + 2 * nI cn) σ then some ((4 : Int32), σ) else if (if cn = 1 then (if f_BY_get 19 (nI (p + 5) + 2 * nI cn + 1) σ = 0 then (1 : Int32) else 0) else (if f_BY_get 19 (nI (p + 5) + 2 * nI cn + 1) σ = 1 then 1 else (if f_BY_get 19 (nI (p + 5) + 2 * nI cn + 1) σ = 2 then 1 else 0))) = 0 then some ((4 : Int32), σ) else if f_BY_get 19 (nI (p + 5) + 2 * nI cn + 2) σ = 0 then some ((0 : Int32), mput (mput (mput (mput σ 30 8 (f_BY_get 19 (nI (p + 5)) σ - 1)) 30 9 (nI cn)) 30 10 (f_BY_get 19 (nI (p + 5) + 2 * nI cn) (mput (mput σ 30 8 (f_BY_get 19 (nI (p + 5)) σ - 1)) 30 9 (nI cn)))) 30 11 (f_BY_get 19 (nI (p + 5) + 2 * nI cn + 1) σ)) else some ((4 : Int32), σ)) (fun e272 => some (e272, σ))) ((L_RM_isScan_83 56 (nI L) (nI cn) 9999 0 τ).bind fun q454_ => ecase q454_ (fun q454 => (if cn = 1 then (if inb (q454.2 56 32 + 5 + 2 * nI cn + 1) 6000 = true then (if q454.2 64 (q454.2 56 32 + 5 + 2 * nI cn + 1).toNatClampNeg = 0 then some (1 : Int32) else some 0) else none) else (if inb (q454.2 56 32 + 5 + 2 * nI cn + 1) 6000 = true then some (f_RM_isIn (q454.2 64 (q454.2 56 32 + 5 + 2 * nI cn + 1).toNatClampNeg) 1 2 q454.2) else none)).bind fun y533 => if inb (q454.2 56 32 + 5 + 2 * nI cn) 6000 = true then (if (3 : Int32) < q454.2 64 (q454.2 56 32 + 5 + 2 * nI cn).toNatClampNeg then some ((f_RM_broken 56 4 (q454.2 56 32) q454.2).1, (f_RM_broken 56 4 (q454.2 56 32) q454.2).2) else if y533 = 0 then some ((f_RM_broken 56 4 (q454.2 56 32) q454.2).1, (f_RM_broken 56 4 (q454.2 56 32) q454.2).2) else if inb (q454.2 56 32 + 5 + 2 * nI cn + 2) 6000 = true then (if q454.2 64 (q454.2 56 32 + 5 + 2 * nI cn + 2).toNatClampNeg = 0 then (if inb (q454.2 56 32 + 5 + 2 * nI cn) 6000 = true then (if inb (q454.2 56 32 + 5 + 2 * nI cn + 1) 6000 = true then some ((1 : Int32), mput (mput q454.2 56 42 (q454.2 64 (q454.2 56 32 + 5 + 2 * nI cn).toNatClampNeg)) 56 43 (mput q454.2 56 42 (q454.2 64 (q454.2 56 32 + 5 + 2 * nI cn).toNatClampNeg) 64 (q454.2 56 32 + 5 + 2 * nI cn + 1).toNatClampNeg)) else none) else none) else some ((f_RM_broken 56 4 (q454.2 56 32) q454.2).1, (f_RM_broken 56 4 (q454.2 56 32) q454.2).2)) else none) else none) (fun e566 => some (e566.1, e566.2))) (fun a q => (∃ f, ¬ f ≤ 0 ∧ a = (f, σ) ∧ q = f_RM_broken 56 f (nI p) τ) ∨ ∃ lo cn ne tn, SH σ τ d p c L lo cn ne tn a q) := by
      intro hcc
      obtain ⟨a, q, ea, eq, h9⟩ := r_scanParts (b2 := nI L) (b1 := nI L) (cn := cn) B F H e32 (by omega) (by omega)
      rw [ea, eq, Option.bind_some, Option.bind_some]
      rcases h9 with ⟨g1, g2, g3⟩ | ⟨f, g1, g2, g3⟩
      · subst g1 g2
        show Both (if _ then _ else _) (Option.bind _ _) _
        simp only [e32, e5, e55, e56, e57]
        have F1 : ∀ x, RFr σ0 τ0 (mput (mput σ 30 8 x) 30 9 (nI cn)) τ := fun x => (F.putC (by decide)).putC (by decide)
        have F2 : ∀ x, RFr σ0 τ0 σ (mput τ 56 42 x) := fun x => F.put56 (by decide)
        rw [rd_c B (F1 _) (show p + 5 + 2 * cn < m by omega), rd_c B F (show p + 5 + 2 * cn < m by omega), rd_c B F (show p + 6 + 2 * cn < m by omega), rd_c B F (show p + 7 + 2 * cn < m by omega), rd_c B F (show p + 5 < m by omega), rd_r B (F2 _) (show p + 6 + 2 * cn < m by omega), rd_r B F (show p + 5 + 2 * cn < m by omega), rd_r B F (show p + 6 + 2 * cn < m by omega), rd_r B F (show p + 7 + 2 * cn < m by omega)]
        simp only [rd_i B (show p + 5 + 2 * cn < m by omega), rd_i B (show p + 6 + 2 * cn < m by omega), rd_i B (show p + 7 + 2 * cn < m by omega), if_true]
        generalize hn : d (p + 5 + 2 * cn) = ne at dA
        generalize ht : d (p + 6 + 2 * cn) = tn at dB
        generalize ho : d (p + 7 + 2 * cn) = oo at dC
        have k0 : nI tn = 0 ↔ tn = 0 := nI_eq (b := 0) (by omega) (by decide)
        have k1 : nI tn = 1 ↔ tn = 1 := nI_eq (b := 1) (by omega) (by decide)
        have k2 : nI tn = 2 ↔ tn = 2 := nI_eq (b := 2) (by omega) (by decide)
        have ko : nI oo = 0 ↔ oo = 0 := nI_eq (b := 0) (by omega) (by decide)
        have k3 : 3 < nI ne ↔ 3 < ne := nI_lti (a := 3) (by decide) (by omega)
        have ki : f_RM_isIn (nI tn) 1 2 τ = if 1 ≤ tn ∧ tn ≤ 2 then 1 else 0 := isIn_n (lo := 1) (hi := 2) (by omega) (by decide) (by decide)
        simp only [k0, k1, k2, ko, k3, ki]
        have ey : ∃ y : Int32, (if cn = 1 then (if tn = 0 then (1 : Int32) else 0) else (if tn = 1 then 1 else (if tn = 2 then 1 else 0))) = y ∧ (if cn = 1 then (if tn = 0 then some (1 : Int32) else some 0) else some (if 1 ≤ tn ∧ tn ≤ 2 then 1 else 0)) = some y ∧ (¬ y = 0 → tn ≤ 2) := by
          refine ⟨_, rfl, ?_, ?_⟩
          · by_cases q1 : cn = 1
            · rw [if_pos q1, if_pos q1]
              by_cases q2 : tn = 0
              · rw [if_pos q2, if_pos q2]
              · rw [if_neg q2, if_neg q2]
            · rw [if_neg q1, if_neg q1]
              by_cases q2 : tn = 1
              · rw [if_pos q2, if_pos (by omega)]
              · by_cases q3 : tn = 2
                · rw [if_neg q2, if_pos q3, if_pos (by omega)]
                · rw [if_neg q2, if_neg q3, if_neg (by omega)]
          · intro hy
            by_cases q1 : cn = 1
            · rw [if_pos q1] at hy
              by_cases q2 : tn = 0
              · omega
              · rw [if_neg q2] at hy
                exact absurd rfl hy
            · rw [if_neg q1] at hy
              by_cases q2 : tn = 1
              · omega
              · by_cases q3 : tn = 2
                · omega
                · rw [if_neg q2, if_neg q3] at hy
                  exact absurd rfl hy
        obtain ⟨y, ey1, ey2, ey3⟩ := ey
        rw [ey1, ey2, Option.bind_some]
        by_cases q3 : 3 < ne
        · rw [if_pos q3, if_pos q3]
          exact flt 4 (by decide)
        · rw [if_neg q3, if_neg q3]
          by_cases qy : y = 0
          · rw [if_pos qy, if_pos qy]
            exact flt 4 (by decide)
          · rw [if_neg qy, if_neg qy]
            by_cases qo : oo = 0
            · rw [if_pos qo, if_pos qo]
              obtain ⟨k, hk1, hk2, hk3, hk4⟩ := g3 0 (by omega)
              rw [show p + 5 + 2 * 0 = p + 5 by omega] at hk2
              rw [hk2, nI_pred]
              have hone : ¬ cn = 1 → k = 0 := fun q => hk3.resolve_left (by omega)
              refine both_ret (Or.inr ⟨k, cn, ne, tn, rfl, rfl, by omega, ?_, by omega, ey3 qy, fun _ => hk2, hone, zl, hcn, ?_⟩)
              · by_cases q : cn = 1
                · omega
                · have := hone q
                  omega
              · intro i i1 i2
                by_cases q : cn = 1
                · have : i = k := by omega
                  rw [this]; exact hk4
                · have h0 := hone q
                  obtain ⟨k9, j1, j2, j3, j4⟩ := g3 i (by omega)
                  have : k9 = i := j3.resolve_left (by omega)
                  rw [← this]; exact j4
            · rw [if_neg qo, if_neg qo]
              exact flt 4 (by decide)
      · subst g2 g3
        exact both_ret (Or.inl ⟨f, g1, rfl, rfl⟩)
    by_cases q1 : cn = 1
    · have bd := body (Or.inl q1)
      simp only [y_bind] at bd
      simp only [q1, if_true, if_false] at bd ⊢
      exact bd
    · by_cases q2 : cn = c
      · have bd := body (Or.inr q2)
        simp only [y_bind] at bd
        simp only [q1, if_true, if_false] at bd ⊢
        rw [if_pos q2, if_pos q2]
        exact bd
      · simp only [q1, if_false]
        rw [if_neg q2, if_neg q2]
        exact flt 4 (by decide)
  · have hll : ¬ nI L = nI (6 + 2 * d (p + 4)) := fun q => zl (nI_inj (by omega) (by omega) q)
    rw [if_neg hll, if_neg hll, e32]
    exact flt 3 (by decide)
