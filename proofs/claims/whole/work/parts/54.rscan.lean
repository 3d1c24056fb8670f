/-! reading: the head of a scan -/
set_option maxRecDepth 100000 in
set_option maxHeartbeats 4000000 in
theorem r_scanParts {σ0 τ0 σ τ : Mem} {m p w h b c rs st rt nn sc cn : Nat} {d : Nat → Nat} {b2 b1 : Int32} (B : RB σ0 τ0 m d) (F : RFr σ0 τ0 σ τ) (H : RH σ τ w h b c rs st rt nn sc) (e32 : τ 56 32 = nI p) (hcn : cn ≤ 4) (hm : p + 5 + 2 * cn ≤ m) :
    Both (L_SR_takeScan_49 30 (nI p) b2 (nI cn) σ 9999 0) (L_RM_isScan_83 56 b1 (nI cn) 9999 0 τ) (fun a q => (a = .inl (nI cn) ∧ q = .inl (nI cn, τ) ∧ ∀ j, j < cn → ∃ k, k < c ∧ d (p + 5 + 2 * j) = k + 1 ∧ (cn ≤ 1 ∨ k = j) ∧ σ 55 k = 0) ∨ ∃ f, ¬ f = 0 ∧ a = .inr f ∧ q = .inr (f_RM_broken 56 f (nI p) τ)) := by
  obtain ⟨Hf, Hp, Hn, Ht, Hs, Hz⟩ := id H
  have m6 : m ≤ 6000 := B.2.2.1
  have hc4 : c ≤ 4 := Hf.2.2.2.2
  refine loopB (C := fun f j (_ : Unit) => L_SR_takeScan_49 30 (nI p) b2 (nI cn) σ f (nI j)) (R := fun f j (t : Mem) => L_RM_isScan_83 56 b1 (nI cn) f (nI j) t) (P := fun j _ t => t = τ ∧ ∀ i, i < j → ∃ k, k < c ∧ d (p + 5 + 2 * i) = k + 1 ∧ (cn ≤ 1 ∨ k = i) ∧ σ 55 k = 0) (hi := cn) ?_ ?_ cn 9999 9999 0 () τ (by omega) (by omega) (by omega) ⟨rfl, fun i hi => by omega⟩
  · rintro _ t ⟨rfl, hs⟩ f g
    refine ⟨.inl (nI cn), .inl (nI cn, t), ?_, ?_, Or.inl ⟨rfl, rfl, hs⟩⟩
    · show L_SR_takeScan_49 30 (nI p) b2 (nI cn) σ (f + 1) (nI cn) = _
      rw [L_SR_takeScan_49, if_pos (nI_le (Nat.le_refl _) (by omega))]
    · show L_RM_isScan_83 56 b1 (nI cn) (g + 1) (nI cn) t = _
      rw [L_RM_isScan_83, if_pos (nI_le (Nat.le_refl _) (by omega))]
  · rintro j _ t hj ⟨rfl, hs⟩
    have e5 : nI p + 5 + 2 * nI j = nI (p + 5 + 2 * j) := by rw [show (2 : Int32) = nI 2 from rfl, show (5 : Int32) = nI 5 from rfl, nI_mul, nI_add, nI_add]
    have e6 : nI p + 6 + 2 * nI j = nI (p + 6 + 2 * j) := by rw [show (2 : Int32) = nI 2 from rfl, show (6 : Int32) = nI 6 from rfl, nI_mul, nI_add, nI_add]
    have e51 : nI (p + 5 + 2 * j) + 1 = nI (p + 6 + 2 * j) := by rw [nI_1]; congr 1; omega
    have dx := (B.2.2.2 (p + 5 + 2 * j) (by omega)).1
    have dy := (B.2.2.2 (p + 6 + 2 * j) (by omega)).1
    have eN : ∀ x : Int32, f_PI_hasComponent 31 x σ = inI x c := fun x => by unfold f_PI_hasComponent inI; rw [Hf.1.2.2.2]
    have eM : ∀ x : Int32, f_RM_isIn x (0 : Int32) (t 56 37 - 1) t = inI x c := fun x => by rw [Hf.2.1]; exact isIn0 (by omega)
    have cC : ∀ f, L_SR_takeScan_49 30 (nI p) b2 (nI cn) σ (f + 1) (nI j) = (if f_SR_faultOfPart 30 (nI j) (nI cn) (nI (d (p + 5 + 2 * j))) (nI (d (p + 6 + 2 * j))) σ = 0 then L_SR_takeScan_49 30 (nI p) b2 (nI cn) σ f (nI (j + 1)) else some (.inr (f_SR_faultOfPart 30 (nI j) (nI cn) (nI (d (p + 5 + 2 * j))) (nI (d (p + 6 + 2 * j))) σ))) := by
      intro f
      rw [L_SR_takeScan_49, if_neg (nI_ge hj (by omega)), lt_eq, lt_eq, e5, e51, wt_30_0, rd_c B F (by omega), rd_c B F (by omega), nI_1]
    have cR : ∀ f, L_RM_isScan_83 56 b1 (nI cn) (f + 1) (nI j) t = (if inI (nI (d (p + 5 + 2 * j)) - 1) c = 0 then some (.inr (f_RM_broken 56 6 (nI p) t)) else (if nI cn ≤ 1 ∨ nI (d (p + 5 + 2 * j)) - 1 = nI j then (if inb (nI (d (p + 5 + 2 * j)) - 1) 4 = true then (if t 78 (nI (d (p + 5 + 2 * j)) - 1).toNatClampNeg = 0 then (if nI (d (p + 6 + 2 * j)) = 0 then L_RM_isScan_83 56 b1 (nI cn) f (nI (j + 1)) t else (if nI (d (p + 6 + 2 * j)) = nI (d (p + 5 + 2 * j)) - 1 + 1 then (if inb (nI (d (p + 5 + 2 * j)) - 1) 4 = true then (if t 73 (nI (d (p + 5 + 2 * j)) - 1).toNatClampNeg = 0 then some (.inr (f_RM_broken 56 4 (nI p) t)) else L_RM_isScan_83 56 b1 (nI cn) f (nI (j + 1)) t) else none) else some (.inr (f_RM_broken 56 4 (nI p) t)))) else some (.inr (f_RM_broken 56 5 (nI p) t))) else none) else some (.inr (f_RM_broken 56 4 (nI p) t)))) := by
      intro f
      rw [L_RM_isScan_83, if_neg (nI_ge hj (by omega)), e32, e5, e6, wt_56_18, wl_64, if_pos (rd_i B (by omega)), rd_r B F (by omega), lt_eq, if_pos (rd_i B (by omega)), rd_r B F (by omega), lt_eq, eM, wt_56_45, wt_56_50, wl_73, wl_78, nI_1]
      simp only [lt_eq, e32]
      by_cases z1 : nI cn ≤ 1
      · simp only [z1, true_or, if_true]
      · by_cases z2 : nI (d (p + 5 + 2 * j)) - 1 = nI j
        · simp only [z1, z2, or_true, if_true, if_false]
        · simp only [z1, z2, or_self, if_false]
    have bad : ∀ fl : Int32, ¬ fl = 0 → f_SR_faultOfPart 30 (nI j) (nI cn) (nI (d (p + 5 + 2 * j))) (nI (d (p + 6 + 2 * j))) σ = fl → (∀ f, L_RM_isScan_83 56 b1 (nI cn) (f + 1) (nI j) t = some (.inr (f_RM_broken 56 fl (nI p) t))) → ∀ f g, Both (L_SR_takeScan_49 30 (nI p) b2 (nI cn) σ (f + 1) (nI j)) (L_RM_isScan_83 56 b1 (nI cn) (g + 1) (nI j) t) (fun a q => (a = .inl (nI cn) ∧ q = .inl (nI cn, t) ∧ ∀ j, j < cn → ∃ k, k < c ∧ d (p + 5 + 2 * j) = k + 1 ∧ (cn ≤ 1 ∨ k = j) ∧ σ 55 k = 0) ∨ ∃ f, ¬ f = 0 ∧ a = .inr f ∧ q = .inr (f_RM_broken 56 f (nI p) t)) := by
      intro fl hfl h1 h2 f g
      rw [cC f, h1, if_neg hfl, h2 g]
      exact both_ret (Or.inr ⟨fl, hfl, rfl, rfl⟩)
    rcases inI_cases (nI (d (p + 5 + 2 * j)) - 1) (c := c) (by omega) with i1 | ⟨k, hk, ek⟩
    · right
      refine bad 6 (by decide) ?_ (fun f => by rw [cR f, i1, if_pos rfl])
      rw [f_SR_faultOfPart, wt_30_1, eN, i1, if_pos rfl]
    · have ed : nI (d (p + 5 + 2 * j)) = nI (k + 1) := by
        have : nI (d (p + 5 + 2 * j)) - 1 + 1 = nI k + 1 := by rw [ek]
        rw [Int32.sub_add_cancel, nI_1] at this
        exact this
      have edn : d (p + 5 + 2 * j) = k + 1 := nI_inj (by omega) (by omega) ed
      have cT : f_PI_hasTable 31 (nI k) σ = if t 73 k = 0 then 0 else 1 := by
        rw [f_PI_hasTable, wt_31_2, ro_get (k := 36) (a := 37) (n := 4) wt_36_0 wl_37 (by omega) (by decide), (Ht.1 k (by omega)).1]
      have cS : f_RO_get 54 (nI k) σ = σ 55 k := ro_get (k := 54) (a := 55) (n := 4) wt_54_0 wl_55 (by omega) (by decide)
      have iy : inI (nI k) c = 1 := inI_yes hk (by omega)
      have ib : inb (nI k) 4 = true := inb_nI (by omega) (by decide)
      have icl : (nI k).toNatClampNeg = k := nI_clamp (by omega)
      have h78 : t 78 k = 0 ↔ σ 55 k = 0 := (Hs.1 k (by omega)).symm
      rw [edn] at cC cR ek bad
      have eF : f_SR_faultOfPart 30 (nI j) (nI cn) (nI (k + 1)) (nI (d (p + 6 + 2 * j))) σ = (if nI cn ≤ 1 ∨ nI k = nI j then (if σ 55 k = 0 then (if nI (d (p + 6 + 2 * j)) = 0 then 0 else (if nI (d (p + 6 + 2 * j)) = nI (k + 1) then (if t 73 k = 0 then 4 else 0) else 4)) else 5) else 4) := by
        rw [f_SR_faultOfPart, wt_30_1, wt_30_5, eN, ek, iy, if_neg (show ¬ (1 : Int32) = 0 by decide), cS, cT]
        simp only [lt_eq]
        by_cases q1 : nI cn ≤ 1
        · simp only [q1, true_or, if_true]
          by_cases q3 : σ 55 k = 0 <;> by_cases q4 : nI (d (p + 6 + 2 * j)) = 0 <;> by_cases q5 : nI (d (p + 6 + 2 * j)) = nI (k + 1) <;> by_cases q6 : t 73 k = 0 <;> simp [q3, q4, q5, q6]
        · by_cases q2 : nI k = nI j
          · simp only [q1, q2, or_true, if_true, if_false]
            by_cases q3 : σ 55 k = 0 <;> by_cases q4 : nI (d (p + 6 + 2 * j)) = 0 <;> by_cases q5 : nI (d (p + 6 + 2 * j)) = nI (k + 1) <;> by_cases q6 : t 73 k = 0 <;> simp [q3, q4, q5, q6]
          · simp only [q1, q2, or_self, if_false]
      have eR : ∀ f, L_RM_isScan_83 56 b1 (nI cn) (f + 1) (nI j) t = (if nI cn ≤ 1 ∨ nI k = nI j then (if σ 55 k = 0 then (if nI (d (p + 6 + 2 * j)) = 0 then L_RM_isScan_83 56 b1 (nI cn) f (nI (j + 1)) t else (if nI (d (p + 6 + 2 * j)) = nI (k + 1) then (if t 73 k = 0 then some (.inr (f_RM_broken 56 4 (nI p) t)) else L_RM_isScan_83 56 b1 (nI cn) f (nI (j + 1)) t) else some (.inr (f_RM_broken 56 4 (nI p) t)))) else some (.inr (f_RM_broken 56 5 (nI p) t))) else some (.inr (f_RM_broken 56 4 (nI p) t))) := by
        intro f
        rw [cR f, ek, iy, if_neg (show ¬ (1 : Int32) = 0 by decide), ib, if_pos rfl, icl, if_pos rfl, nI_1]
        simp only [h78]
      have good : (cn ≤ 1 ∨ k = j) → σ 55 k = 0 → f_SR_faultOfPart 30 (nI j) (nI cn) (nI (k + 1)) (nI (d (p + 6 + 2 * j))) σ = 0 → (∀ f, L_RM_isScan_83 56 b1 (nI cn) (f + 1) (nI j) t = L_RM_isScan_83 56 b1 (nI cn) f (nI (j + 1)) t) → ∃ (s1 : Unit) (t1 : Mem), (∀ f, L_SR_takeScan_49 30 (nI p) b2 (nI cn) σ (f + 1) (nI j) = L_SR_takeScan_49 30 (nI p) b2 (nI cn) σ f (nI (j + 1))) ∧ (∀ f, L_RM_isScan_83 56 b1 (nI cn) (f + 1) (nI j) t = L_RM_isScan_83 56 b1 (nI cn) f (nI (j + 1)) t1) ∧ t1 = t ∧ ∀ i, i < j + 1 → ∃ k, k < c ∧ d (p + 5 + 2 * i) = k + 1 ∧ (cn ≤ 1 ∨ k = i) ∧ σ 55 k = 0 := by
        intro g1 g2 g3 g4
        refine ⟨(), t, fun f => by rw [cC f, g3, if_pos rfl], g4, rfl, ?_⟩
        intro i hi
        by_cases e : i = j
        · subst e
          exact ⟨k, hk, edn, g1, g2⟩
        · exact hs i (by omega)
      by_cases q1 : nI cn ≤ 1 ∨ nI k = nI j
      · have q1n : cn ≤ 1 ∨ k = j := q1.imp (fun q => (nI_leI (b := 1) (by omega) (by decide)).mp q) (fun q => nI_inj (by omega) (by omega) q)
        by_cases q3 : σ 55 k = 0
        · by_cases q4 : nI (d (p + 6 + 2 * j)) = 0
          · exact Or.inl (good q1n q3 (by rw [eF, if_pos q1, if_pos q3, if_pos q4]) (fun f => by rw [eR f, if_pos q1, if_pos q3, if_pos q4]))
          · by_cases q5 : nI (d (p + 6 + 2 * j)) = nI (k + 1)
            · by_cases q6 : t 73 k = 0
              · exact Or.inr (bad 4 (by decide) (by rw [eF, if_pos q1, if_pos q3, if_neg q4, if_pos q5, if_pos q6]) (fun f => by rw [eR f, if_pos q1, if_pos q3, if_neg q4, if_pos q5, if_pos q6]))
              · exact Or.inl (good q1n q3 (by rw [eF, if_pos q1, if_pos q3, if_neg q4, if_pos q5, if_neg q6]) (fun f => by rw [eR f, if_pos q1, if_pos q3, if_neg q4, if_pos q5, if_neg q6]))
            · exact Or.inr (bad 4 (by decide) (by rw [eF, if_pos q1, if_pos q3, if_neg q4, if_neg q5]) (fun f => by rw [eR f, if_pos q1, if_pos q3, if_neg q4, if_neg q5]))
        · exact Or.inr (bad 5 (by decide) (by rw [eF, if_pos q1, if_neg q3]) (fun f => by rw [eR f, if_pos q1, if_neg q3]))
      · exact Or.inr (bad 4 (by decide) (by rw [eF, if_neg q1]) (fun f => by rw [eR f, if_neg q1]))
