/-! reading: a segment's length, the frame -/
set_option maxRecDepth 100000 in
set_option maxHeartbeats 4000000 in
theorem loopB2 {α β γ δ : Type} {C : Nat → Nat → γ → Option α} {R : Nat → Nat → δ → Option β} {P : Nat → γ → δ → Prop} {Q : α → β → Prop} {hi : Nat}
    (fin : ∀ s t, P hi s t → ∀ n m, Both (C (n + 1) hi s) (R (m + 2) hi t) Q)
    (step : ∀ k s t, k < hi → P k s t → (∃ s1 t1, (∀ n, C (n + 1) k s = C n (k + 1) s1) ∧ (∀ n, R (n + 1) k t = R n (k + 1) t1) ∧ P (k + 1) s1 t1) ∨ ∀ n m, Both (C (n + 1) k s) (R (m + 2) k t) Q) :
    ∀ d n m lo s t, lo + d = hi → d < n → d + 1 < m → P lo s t → Both (C n lo s) (R m lo t) Q := by
  intro d
  induction d with
  | zero =>
    intro n m lo s t h0 h1 h2 hP
    obtain ⟨n, rfl⟩ := Nat.exists_eq_succ_of_ne_zero (show n ≠ 0 by omega)
    obtain ⟨m, rfl⟩ := Nat.exists_eq_add_of_le (show 2 ≤ m by omega)
    have : lo = hi := by omega
    subst this
    rw [Nat.add_comm 2 m]
    exact fin s t hP n m
  | succ d ih =>
    intro n m lo s t h0 h1 h2 hP
    obtain ⟨n, rfl⟩ := Nat.exists_eq_succ_of_ne_zero (show n ≠ 0 by omega)
    obtain ⟨m, rfl⟩ := Nat.exists_eq_add_of_le (show 2 ≤ m by omega)
    rw [Nat.add_comm 2 m]
    rcases step lo s t (by omega) hP with ⟨s1, t1, e1, e2, hP1⟩ | hQ
    · have h9 := ih n (m + 1) (lo + 1) s1 t1 (by omega) (by omega) (by omega) hP1
      rw [← e1, ← e2] at h9
      exact h9
    · exact hQ n m
set_option maxRecDepth 100000 in
set_option maxHeartbeats 4000000 in
theorem RFr.next {σ0 τ0 σ τ : Mem} {v : Int32} (F : RFr σ0 τ0 σ τ) : RFr σ0 τ0 (mput σ 30 6 v) τ := ⟨fun k hk => by rw [mput_cell (by omega), F.1 k hk], F.2⟩
set_option maxRecDepth 100000 in
set_option maxHeartbeats 4000000 in
theorem RH.next {σ τ : Mem} {w h b c rs st rt nn sc : Nat} {v : Int32} (H : RH σ τ w h b c rs st rt nn sc) : RH (mput σ 30 6 v) τ w h b c rs st rt nn sc := by
  unfold RH RHf RHp RHn RHt RHs RHz at H ⊢
  have e : ∀ j, ¬ j = 6 → mput σ 30 6 v 30 j = σ 30 j := fun j hj => mput_slot hj
  rw [e 7 (by decide), e 10 (by decide), e 11 (by decide), e 12 (by decide), e 13 (by decide), mput_cell (show ¬ 31 = 30 by decide), mput_cell (show ¬ 35 = 30 by decide), mput_cell (show ¬ 40 = 30 by decide), mput_cell (show ¬ 42 = 30 by decide), mput_cell (show ¬ 44 = 30 by decide), mput_cell (show ¬ 46 = 30 by decide), mput_cell (show ¬ 37 = 30 by decide), mput_cell (show ¬ 39 = 30 by decide), mput_cell (show ¬ 55 = 30 by decide), mput_cell (show ¬ 33 = 30 by decide), mput_cell (show ¬ 47 = 30 by decide)]
  exact H
set_option maxRecDepth 100000 in
set_option maxHeartbeats 4000000 in
theorem r_seg {σ0 τ0 σ τ : Mem} {m p : Nat} {d : Nat → Nat} (B : RB σ0 τ0 m d) (F : RFr σ0 τ0 σ τ) (Hz : RHz σ τ) (hss : σ 30 13 = τ 56 31) (hp : p + 2 ≤ m) (e32 : τ 56 32 = nI p) :
    Both (some (f_SR_lengthAt 30 (nI p) σ)) (f_RM_isSegment 56 τ) (fun a q => (q.1 = 0 ∧ FTm σ0 τ0 a.2 q.2) ∨ ∃ L, q = (1, τ) ∧ a = (nI L, σ) ∧ L = 256 * d (p + 2) + d (p + 3) ∧ p + 4 ≤ m ∧ 2 ≤ L ∧ p + 2 + L ≤ m) := by
  obtain ⟨m1, m2⟩ := rd_s B F
  have m6 : m ≤ 6000 := B.2.2.1
  have es : nI m - nI p = nI (m - p) := nI_sub (by omega)
  obtain ⟨s1, t1, es1, et1, f1⟩ := ft_meet (f := 1) (p := nI m) F Hz hss (by decide)
  obtain ⟨s3, t3, es3, et3, f3⟩ := ft_meet (f := 3) (p := nI p) F Hz hss (by decide)
  have e2 : nI p + 2 = nI (p + 2) := nI_add p 2
  rw [f_SR_lengthAt, f_RM_isSegment, wt_30_0, wt_30_2, f_BY_size, m1, m2, e32, es, e2, lt_eq]
  by_cases h4 : 4 ≤ m - p
  · have hd2 := (B.2.2.2 (p + 2) (by omega)).1
    have hd3 := (B.2.2.2 (p + 3) (by omega)).1
    rw [if_pos (show (4 : Int32) ≤ nI (m - p) from nI_le (a := 4) h4 (by omega)), if_pos (show (4 : Int32) ≤ nI (m - p) from nI_le (a := 4) h4 (by omega)), rd_wr B F (show p + 2 + 1 < m by omega), Option.bind_some, rd_wc B F (show p + 2 + 1 < m by omega), show p + 2 + 1 = p + 3 from rfl]
    generalize hL : 256 * d (p + 2) + d (p + 3) = L
    have hLb : L ≤ 65535 := by omega
    have e5 : nI (m - p) - 2 = nI (m - p - 2) := nI_sub (b := 2) (by omega)
    by_cases h2 : 2 ≤ L
    · rw [if_pos (show (2 : Int32) ≤ nI L from nI_le (a := 2) h2 (by omega)), if_pos (show (2 : Int32) ≤ nI L from nI_le (a := 2) h2 (by omega)), Option.bind_some, e5]
      by_cases h5 : L ≤ m - p - 2
      · rw [if_pos (nI_le h5 (by omega)), if_pos (nI_le h5 (by omega))]
        exact both_ret (Or.inr ⟨L, rfl, rfl, rfl, by omega, h2, by omega⟩)
      · rw [if_neg (nI_ge (by omega) (by omega)), if_neg (nI_ge (by omega) (by omega)), lt_eq, lt_eq, es1, et1]
        exact both_ret (Or.inl ⟨rfl, f1⟩)
    · rw [if_neg (show ¬ (2 : Int32) ≤ nI L from nI_ge (b := 2) (by omega) (by decide)), if_neg (show ¬ (2 : Int32) ≤ nI L from nI_ge (b := 2) (by omega) (by decide)), lt_eq, lt_eq, es3, et3]
      exact both_ret (Or.inl ⟨rfl, f3⟩)
  · rw [if_neg (show ¬ (4 : Int32) ≤ nI (m - p) from nI_ge (b := 4) (by omega) (by decide)), if_neg (show ¬ (4 : Int32) ≤ nI (m - p) from nI_ge (b := 4) (by omega) (by decide)), lt_eq, lt_eq, es1, et1]
    exact both_ret (Or.inl ⟨rfl, f1⟩)
/-- how a segment is taken: a fault at its own place, or what was heard grows -/
def TK (σ0 τ0 σ τ : Mem) (p : Nat) (a q : Int32 × Mem) : Prop := (∃ f, ¬ f ≤ 0 ∧ a = (f, σ) ∧ q = f_RM_broken 56 f (nI p) τ) ∨ (a.1 = 0 ∧ q.1 = 1 ∧ RFr σ0 τ0 a.2 q.2 ∧ a.2 30 = σ 30 ∧ q.2 56 32 = τ 56 32 ∧ ∃ w h b c rs st rt nn sc, RH a.2 q.2 w h b c rs st rt nn sc)
set_option maxRecDepth 100000 in
set_option maxHeartbeats 4000000 in
theorem r_parts {σ0 τ0 σ τ : Mem} {m p c : Nat} {d : Nat → Nat} {b2 b4 b5 b6 b1 : Int32} (B : RB σ0 τ0 m d) (F : RFr σ0 τ0 σ τ) (e32 : τ 56 32 = nI p) (hc : c ≤ 4) (h9 : d (p + 9) = c) (hm : p + 10 + 3 * c ≤ m) :
    Both (L_SR_takeFrame_85 30 (nI p) b2 (nI c) b4 b5 b6 σ 9999 0) (L_RM_isFrame_135 56 b1 τ 9999 1 0) (fun a q => (a = .inl (nI c) ∧ ¬ q.1 = 0) ∨ (a = .inr 4 ∧ q.1 = 0)) := by
  have m6 : m ≤ 6000 := B.2.2.1
  have e9 : nI p + 9 = nI (p + 9) := nI_add p 9
  refine loopB2 (C := fun f j (_ : Unit) => L_SR_takeFrame_85 30 (nI p) b2 (nI c) b4 b5 b6 σ f (nI j)) (R := fun f j (s : Int32) => L_RM_isFrame_135 56 b1 τ f s (nI j)) (P := fun _ _ s => s = 1) (hi := c) ?_ ?_ c 9999 9999 0 () 1 (by omega) (by omega) (by omega) rfl
  · intro _ s hs f g
    refine ⟨.inl (nI c), (s, nI c), ?_, ?_, Or.inl ⟨rfl, by rw [hs]; exact (by decide : ¬ (1 : Int32) = 0)⟩⟩
    · show L_SR_takeFrame_85 30 (nI p) b2 (nI c) b4 b5 b6 σ (f + 1) (nI c) = _
      rw [L_SR_takeFrame_85, if_pos (nI_le (Nat.le_refl _) (by omega))]
    · show L_RM_isFrame_135 56 b1 τ (g + 1 + 1) s (nI c) = _
      rw [L_RM_isFrame_135, e32, e9, wt_56_18, wl_64, if_pos (rd_i B (by omega)), rd_r B F (by omega), h9, if_pos (nI_le (Nat.le_refl _) (by omega))]
  · intro k _ s hk hs
    subst hs
    have e10 : nI p + 10 + 3 * nI k = nI (p + 10 + 3 * k) := by rw [show (3 : Int32) = nI 3 from rfl, show (10 : Int32) = nI 10 from rfl, nI_mul, nI_add, nI_add]
    have e11 : nI p + 11 + 3 * nI k = nI (p + 11 + 3 * k) := by rw [show (3 : Int32) = nI 3 from rfl, show (11 : Int32) = nI 11 from rfl, nI_mul, nI_add, nI_add]
    have e12 : nI p + 12 + 3 * nI k = nI (p + 12 + 3 * k) := by rw [show (3 : Int32) = nI 3 from rfl, show (12 : Int32) = nI 12 from rfl, nI_mul, nI_add, nI_add]
    have g1 : nI (p + 10 + 3 * k) + 1 = nI (p + 11 + 3 * k) := by rw [nI_1]; congr 1; omega
    have g2 : nI (p + 10 + 3 * k) + 2 = nI (p + 12 + 3 * k) := by rw [show (2 : Int32) = nI 2 from rfl, nI_add]; congr 1; omega
    have cC : ∀ f, L_SR_takeFrame_85 30 (nI p) b2 (nI c) b4 b5 b6 σ (f + 1) (nI k) = if nI (d (p + 10 + 3 * k)) = nI (k + 1) then (if nI (d (p + 11 + 3 * k)) = 17 then (if nI (d (p + 12 + 3 * k)) = 0 then L_SR_takeFrame_85 30 (nI p) b2 (nI c) b4 b5 b6 σ f (nI (k + 1)) else some (.inr 4)) else some (.inr 4)) else some (.inr 4) := by
      intro f
      rw [L_SR_takeFrame_85, if_neg (nI_ge hk (by omega)), lt_eq, e10, g1, g2, wt_30_0, rd_c B F (by omega), rd_c B F (by omega), rd_c B F (by omega), nI_1]
    have cR : ∀ f, L_RM_isFrame_135 56 b1 τ (f + 1) 1 (nI k) = L_RM_isFrame_135 56 b1 τ f (if nI (d (p + 10 + 3 * k)) = nI (k + 1) then (if nI (d (p + 11 + 3 * k)) = 17 then (if nI (d (p + 12 + 3 * k)) = 0 then 1 else 0) else 0) else 0) (nI (k + 1)) := by
      intro f
      rw [L_RM_isFrame_135, e32, e9, e10, e11, e12, wt_56_18, wl_64, if_pos (rd_i B (by omega)), rd_r B F (by omega), h9, if_neg (nI_ge hk (by omega)), if_neg (by decide), if_pos (rd_i B (by omega)), rd_r B F (by omega), rd_r B F (by omega), rd_r B F (by omega), nI_1]
      simp only [lt_eq]
      rw [if_pos (rd_i B (show p + 11 + 3 * k < m by omega)), if_pos (rd_i B (show p + 12 + 3 * k < m by omega))]
      by_cases z1 : nI (d (p + 10 + 3 * k)) = nI (k + 1) <;> by_cases z2 : nI (d (p + 11 + 3 * k)) = 17 <;> by_cases z3 : nI (d (p + 12 + 3 * k)) = 0 <;> simp only [z1, z2, z3, if_true, if_false]
    have bad : (if nI (d (p + 10 + 3 * k)) = nI (k + 1) then (if nI (d (p + 11 + 3 * k)) = 17 then (if nI (d (p + 12 + 3 * k)) = 0 then (1 : Int32) else 0) else 0) else 0) = 0 → ∀ f, ∃ x, L_RM_isFrame_135 56 b1 τ (f + 2) 1 (nI k) = some x ∧ x.1 = 0 := by
      intro z f
      rw [cR (f + 1), z, L_RM_isFrame_135, e32, e9, wt_56_18, wl_64, if_pos (rd_i B (by omega)), rd_r B F (by omega), h9]
      by_cases z2 : nI c ≤ nI (k + 1)
      · rw [if_pos z2]
        exact ⟨_, rfl, rfl⟩
      · rw [if_neg z2, if_pos rfl]
        exact ⟨_, rfl, rfl⟩
    by_cases z1 : nI (d (p + 10 + 3 * k)) = nI (k + 1)
    · by_cases z2 : nI (d (p + 11 + 3 * k)) = 17
      · by_cases z3 : nI (d (p + 12 + 3 * k)) = 0
        · left
          refine ⟨(), 1, fun f => ?_, fun f => ?_, rfl⟩
          · rw [cC f, if_pos z1, if_pos z2, if_pos z3]
          · rw [cR f, if_pos z1, if_pos z2, if_pos z3]
        · right
          intro f g
          obtain ⟨x, ex, hx⟩ := bad (by rw [if_pos z1, if_pos z2, if_neg z3]) g
          exact ⟨.inr 4, x, by rw [cC f, if_pos z1, if_pos z2, if_neg z3], ex, Or.inr ⟨rfl, hx⟩⟩
      · right
        intro f g
        obtain ⟨x, ex, hx⟩ := bad (by rw [if_pos z1, if_neg z2]) g
        exact ⟨.inr 4, x, by rw [cC f, if_pos z1, if_neg z2], ex, Or.inr ⟨rfl, hx⟩⟩
    · right
      intro f g
      obtain ⟨x, ex, hx⟩ := bad (by rw [if_neg z1]) g
      exact ⟨.inr 4, x, by rw [cC f, if_neg z1], ex, Or.inr ⟨rfl, hx⟩⟩
