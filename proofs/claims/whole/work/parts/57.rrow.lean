/-! reading: a row, told in two loops by the class and in one by the reference -/
set_option maxRecDepth 100000 in
set_option maxHeartbeats 4000000 in
theorem grid {O I : Nat} {Lo : Nat → Nat → Mem → Option (Int32 × Mem)} {Li : Nat → Nat → Nat → Mem → Option (Int32 × Mem)} {R : Nat → Nat → Mem → Option (Int32 × Mem)} {cs : Nat → Nat → Mem → Option Mem} {rs : Nat → Nat → Mem → Option Mem} {P : Nat → Nat → Mem → Mem → Prop} {Fl : Mem → Mem → Prop}
    (ho : ∀ n j s, j < O → Lo (n + 1) j s = (Li 9999 j 0 s).bind fun q => Lo n (j + 1) q.2) (ho0 : ∀ n s, Lo (n + 1) O s = some (nI O, s))
    (hi : ∀ n j k s t, j < O → k < I → P j k s t → Li (n + 1) j k s = (cs j k s).bind fun s1 => Li n j (k + 1) s1) (hi0 : ∀ n j s, Li (n + 1) j I s = some (nI I, s)) (hif : ∀ n j k s t, Fl s t → ∃ v, Li (n + 1) j k s = some (v, s))
    (hr : ∀ n j k s t, j < O → k < I → P j k s t → R (n + 1) (j * I + k) t = (rs j k t).bind fun t1 => R n (j * I + k + 1) t1) (hr0 : ∀ n t, R (n + 1) (O * I) t = some (nI (O * I), t)) (hrf : ∀ n z s t, Fl s t → ∃ v, R (n + 1) z t = some (v, t))
    (hs : ∀ j k s t, j < O → k < I → P j k s t → Both (cs j k s) (rs j k t) (fun a q => P j (k + 1) a q ∨ Fl a q)) (hw : ∀ j s t, P j I s t → P (j + 1) 0 s t) (hI : I < 9000) (hO : O < 9000) (hOI : O * I < 9000) :
    ∀ s t, P 0 0 s t → Both (Lo 9999 0 s) (R 9999 0 t) (fun a q => P O 0 a.2 q.2 ∨ Fl a.2 q.2) := by
  have inner : ∀ (e n j k : Nat) (s t : Mem), k + e = I → e < n → j < O → P j k s t → ∃ v s1 t1, Li n j k s = some (v, s1) ∧ ((P (j + 1) 0 s1 t1 ∧ ∀ g, R (g + e) (j * I + k) t = R g ((j + 1) * I) t1) ∨ (Fl s1 t1 ∧ ∀ g, ∃ w, R (g + e + 1) (j * I + k) t = some (w, t1))) := by
    intro e
    induction e with
    | zero =>
      intro n j k s t h1 h2 h3 hP
      obtain ⟨n, rfl⟩ := Nat.exists_eq_succ_of_ne_zero (show n ≠ 0 by omega)
      have : k = I := by omega
      subst this
      refine ⟨_, s, t, hi0 n j s, Or.inl ⟨hw j s t hP, fun g => ?_⟩⟩
      rw [Nat.add_zero, Nat.succ_mul]
    | succ e ih =>
      intro n j k s t h1 h2 h3 hP
      obtain ⟨n, rfl⟩ := Nat.exists_eq_succ_of_ne_zero (show n ≠ 0 by omega)
      obtain ⟨s1, t1, es, et, h9⟩ := hs j k s t h3 (by omega) hP
      have eL : Li (n + 1) j k s = Li n j (k + 1) s1 := by rw [hi n j k s t h3 (by omega) hP, es, Option.bind_some]
      have eR : ∀ g, R (g + 1) (j * I + k) t = R g (j * I + (k + 1)) t1 := fun g => by rw [hr g j k s t h3 (by omega) hP, et, Option.bind_some]; rfl
      rcases h9 with h9 | h9
      · obtain ⟨v, s2, t2, e1, e2⟩ := ih n j (k + 1) s1 t1 (by omega) (by omega) h3 h9
        refine ⟨v, s2, t2, by rw [eL, e1], ?_⟩
        rcases e2 with ⟨e2, e3⟩ | ⟨e2, e3⟩
        · exact Or.inl ⟨e2, fun g => by rw [show g + (e + 1) = (g + e) + 1 by omega, eR, e3]⟩
        · exact Or.inr ⟨e2, fun g => by rw [show g + (e + 1) + 1 = (g + e + 1) + 1 by omega, eR]; exact e3 g⟩
      · obtain ⟨n, rfl⟩ := Nat.exists_eq_succ_of_ne_zero (show n ≠ 0 by omega)
        obtain ⟨v, ev⟩ := hif n j (k + 1) s1 t1 h9
        refine ⟨v, s1, t1, by rw [eL]; exact ev, Or.inr ⟨h9, fun g => ?_⟩⟩
        rw [show g + (e + 1) + 1 = (g + e + 1) + 1 by omega, eR]
        exact hrf (g + e) _ s1 t1 h9
  have outF : ∀ (e n j : Nat) (s t : Mem), j + e = O → e < n → Fl s t → ∃ v, Lo n j s = some (v, s) := by
    intro e
    induction e with
    | zero =>
      intro n j s t h1 h2 hF
      obtain ⟨n, rfl⟩ := Nat.exists_eq_succ_of_ne_zero (show n ≠ 0 by omega)
      have : j = O := by omega
      subst this
      exact ⟨_, ho0 n s⟩
    | succ e ih =>
      intro n j s t h1 h2 hF
      obtain ⟨n, rfl⟩ := Nat.exists_eq_succ_of_ne_zero (show n ≠ 0 by omega)
      obtain ⟨v, ev⟩ := hif 9998 j 0 s t hF
      obtain ⟨w, ew⟩ := ih n (j + 1) s t (by omega) (by omega) hF
      exact ⟨w, by rw [ho n j s (by omega), ev, Option.bind_some, ew]⟩
  have outer : ∀ (e n g j : Nat) (s t : Mem), j + e = O → e < n → e * I + 1 < g → P j 0 s t → Both (Lo n j s) (R g (j * I) t) (fun a q => P O 0 a.2 q.2 ∨ Fl a.2 q.2) := by
    intro e
    induction e with
    | zero =>
      intro n g j s t h1 h2 h3 hP
      obtain ⟨n, rfl⟩ := Nat.exists_eq_succ_of_ne_zero (show n ≠ 0 by omega)
      obtain ⟨g, rfl⟩ := Nat.exists_eq_succ_of_ne_zero (show g ≠ 0 by omega)
      have : j = O := by omega
      subst this
      exact ⟨_, _, ho0 n s, hr0 g t, Or.inl hP⟩
    | succ e ih =>
      intro n g j s t h1 h2 h3 hP
      obtain ⟨n, rfl⟩ := Nat.exists_eq_succ_of_ne_zero (show n ≠ 0 by omega)
      have hm : (e + 1) * I = e * I + I := Nat.succ_mul e I
      obtain ⟨v, s1, t1, e1, e2⟩ := inner I 9999 j 0 s t (by omega) (by omega) (by omega) hP
      have eL : Lo (n + 1) j s = Lo n (j + 1) s1 := by rw [ho n j s (by omega), e1, Option.bind_some]
      rcases e2 with ⟨e2, e3⟩ | ⟨e2, e3⟩
      · obtain ⟨g2, rfl⟩ := Nat.exists_eq_add_of_le (show I ≤ g by omega)
        have e4 := e3 g2
        rw [show j * I + 0 = j * I from Nat.add_zero _] at e4
        rw [eL, Nat.add_comm I g2, e4]
        exact ih n g2 (j + 1) s1 t1 (by omega) (by omega) (by omega) e2
      · obtain ⟨g2, rfl⟩ := Nat.exists_eq_add_of_le (show I + 1 ≤ g by omega)
        obtain ⟨w, ew⟩ := e3 g2
        rw [show j * I + 0 = j * I from Nat.add_zero _] at ew
        obtain ⟨u, eu⟩ := outF e n (j + 1) s1 t1 (by omega) (by omega) e2
        exact ⟨_, _, by rw [eL, eu], by rw [show I + 1 + g2 = g2 + I + 1 by omega, ew], Or.inr e2⟩
  intro s t hP
  have h9 := outer O 9999 9999 0 s t (by omega) (by omega) (by omega) hP
  rw [Nat.zero_mul] at h9
  exact h9
/-- all that holds while samples are heard -/
def RXA (σs τs : Mem) (m lo cn xb ne tp rs st fr : Nat) (T : Nat → Nat → Nat → Prop) (σ τ : Mem) : Prop := ∃ x cur lf, RXF σs τs σ τ lo cn ∧ RXb σ τ m x cur lf ∧ xb ≤ x ∧ RXm σ τ ne tp rs st fr T
set_option maxRecDepth 100000 in
set_option maxHeartbeats 4000000 in
theorem RXA.monoT {σs τs σ τ : Mem} {m lo cn xb ne tp rs st fr : Nat} {T T1 : Nat → Nat → Nat → Prop} (H : RXA σs τs m lo cn xb ne tp rs st fr T σ τ) (h : ∀ c x y, T1 c x y → T c x y) : RXA σs τs m lo cn xb ne tp rs st fr T1 σ τ := by
  obtain ⟨x, cur, lf, h1, h2, h3, h4, h5, h6, h7⟩ := H
  exact ⟨x, cur, lf, h1, h2, h3, h4, h5, h6, fun c i y hT => h7 c i y (h c i y hT)⟩
set_option maxRecDepth 100000 in
set_option maxHeartbeats 4000000 in
theorem r_row {σ0 τ0 σs τs σ τ : Mem} {m lo cn xb ne tp rs st fr w y tn : Nat} {d : Nat → Nat} {a3 f5 : Int32} (S : BS σ0 τ0 σs τs m d) (hrs : τs 56 38 = nI rs) (hne : ne ≤ 3) (htp : tp ≤ 255) (hcn : 1 ≤ cn) (hc4 : lo + cn ≤ 4) (hw1 : 1 ≤ w) (hw : w ≤ 12) (hy : y < 12) (hfr : fr ≤ y) (htn : tn ≤ 2) (s8 : σs 30 8 = nI lo) (s9 : σs 30 9 = nI cn) (s11 : σs 30 11 = nI tn) (s5 : σs 31 5 = nI w) (t43 : τs 56 43 = nI tn) (t34 : τs 56 34 = nI w) (hf5 : f5 = if y = fr then 1 else 0)
    (H : RXA σs τs m lo cn xb ne tp rs st fr (TR lo cn w 0 y) σ τ) :
    Both (f_SR_takeRow 30 (nI y) f5 σ) (L_RM_hearData_72 56 (nI lo) (nI (lo + cn)) a3 (nI y) (nI (w * cn)) 9999 0 τ) (fun a q => RXA σs τs m lo cn xb ne tp rs st fr (TR lo cn w 0 (y + 1)) a q.2 ∨ FTm σ0 τ0 a q.2) := by
  subst hf5
  have hcw : w * cn ≤ 12 * 4 := Nat.mul_le_mul hw (by omega)
  have ftR : ∀ (n : Nat) (z : Int32) (s t : Mem), FTm σ0 τ0 s t → ∃ v, L_RM_hearData_72 56 (nI lo) (nI (lo + cn)) a3 (nI y) (nI (w * cn)) (n + 1) z t = some (v, t) := by
    intro n z s t hF
    refine ⟨z, ?_⟩
    rw [L_RM_hearData_72, if_neg (show ¬ t 56 28 = 0 by rw [← hF.2.1]; exact hF.2.2.1)]
    split <;> rfl
  have ftC : ∀ (b3 b4 b5 b6 a7 : Int32) (n : Nat) (s t : Mem), FTm σ0 τ0 s t → ∃ v, L_SR_takeRow_67 30 (nI y) (if y = fr then 1 else 0) b3 b4 b5 b6 (n + 1) a7 s = some (v, s) := by
    intro b3 b4 b5 b6 a7 n s t hF
    refine ⟨a7, ?_⟩
    rw [L_SR_takeRow_67, wt_30_2, hF.met, if_neg (show ¬ (1 : Int32) = 0 by decide)]
    split <;> rfl
  have rz : ∀ n t, L_RM_hearData_72 56 (nI lo) (nI (lo + cn)) a3 (nI y) (nI (w * cn)) (n + 1) (nI (w * cn)) t = some (nI (w * cn), t) := by
    intro n t
    rw [L_RM_hearData_72, if_pos (nI_le (Nat.le_refl _) (by omega))]
  have esub : nI (lo + cn) - nI lo = nI cn := by
    rw [nI_sub (by omega)]
    congr 1; omega
  have smp : ∀ (T T1 : Nat → Nat → Nat → Prop) (c i : Nat) (s t : Mem), lo ≤ c → c < lo + cn → i < w → (¬ y = fr → T c i (y - 1)) → (¬ i = 0 → T c (i - 1) y) → (¬ y = fr → ¬ i = 0 → T c (i - 1) (y - 1)) → (∀ c1 i1 y1, T1 c1 i1 y1 → T c1 i1 y1 ∨ (c1 = c ∧ i1 = i ∧ y1 = y)) → RXA σs τs m lo cn xb ne tp rs st fr T s t → Both (c_samp (nI c) (nI i) (nI y) (if y = fr then 1 else 0) s) (f_RM_hearSample 56 (nI c) (nI i) (nI y) t) (fun a q => RXA σs τs m lo cn xb ne tp rs st fr T1 a q ∨ FTm σ0 τ0 a q) := by
    intro T T1 c i s t h1 h2 h3 h4 h5 h6 h7 hA
    obtain ⟨x, cur, lf, g1, g2, g3, g4⟩ := hA
    refine (r_sample S g1 g2 g4 hrs hne htp h1 h2 (by omega) (by omega) hy hfr h4 h5 h6).mono (fun a q h9 => ?_)
    rcases h9 with ⟨x1, cur1, lf1, i1, i2, i3, i4⟩ | h9
    · exact Or.inl (RXA.monoT ⟨x1, cur1, lf1, i1, i2, by omega, i4⟩ h7)
    · exact Or.inr h9
  have s0 : ∀ (T : Nat → Nat → Nat → Prop) (s t : Mem), RXA σs τs m lo cn xb ne tp rs st fr T s t → s 30 8 = nI lo ∧ f_FA_met 47 s = 0 ∧ t 56 28 = 0 ∧ t 56 43 = nI tn ∧ t 56 34 = nI w := by
    intro T s t hA
    obtain ⟨x, cur, lf, g1, g2, g3, g4⟩ := hA
    obtain ⟨F, Z, -⟩ := g1.fr S
    exact ⟨by rw [g1.2.1 8 (by omega), s8], Z.met, Z.2.2.1, by rw [g1.2.2.2.2.1 43 (by omega), t43], by rw [g1.2.2.2.2.1 34 (by omega), t34]⟩
  have σ11 : σ 30 11 = nI tn ∧ σ 30 9 = nI cn ∧ σ 31 5 = nI w := by
    obtain ⟨x, cur, lf, g1, -⟩ := H
    exact ⟨by rw [g1.2.1 11 (by omega), s11], by rw [g1.2.1 9 (by omega), s9], by rw [g1.1 31 (by omega), s5]⟩
  rw [f_SR_takeRow, wt_30_1, σ11.1, σ11.2.1, σ11.2.2]
  simp only [lt_eq]
  by_cases h2 : tn = 2
  · subst h2
    simp only [show nI 2 = (2 : Int32) from rfl, if_true, show ¬ (1 : Int32) = 0 by decide, if_false]
    have h9 := grid (O := w) (I := cn) (Lo := fun n j s => L_SR_takeRow_57 30 (nI y) (if y = fr then 1 else 0) 1 (nI w) (nI cn) n (nI j) s) (Li := fun n j k s => L_SR_takeRow_67 30 (nI y) (if y = fr then 1 else 0) 1 (nI w) (nI cn) (nI j) n (nI k) s) (R := fun n z t => L_RM_hearData_72 56 (nI lo) (nI (lo + cn)) a3 (nI y) (nI (w * cn)) n (nI z) t) (cs := fun j k s => c_samp (nI (lo + k)) (nI j) (nI y) (if y = fr then 1 else 0) s) (rs := fun j k t => f_RM_hearSample 56 (nI (lo + k)) (nI j) (nI y) t) (P := fun j k s t => RXA σs τs m lo cn xb ne tp rs st fr (TS lo cn w 0 y j k) s t) (Fl := FTm σ0 τ0)
      (fun n j s hj => by
        show L_SR_takeRow_57 30 (nI y) (if y = fr then 1 else 0) 1 (nI w) (nI cn) (n + 1) (nI j) s = _
        rw [L_SR_takeRow_57, if_neg (nI_ge hj (by omega)), nI_1]
        rfl)
      (fun n s => by
        show L_SR_takeRow_57 30 (nI y) (if y = fr then 1 else 0) 1 (nI w) (nI cn) (n + 1) (nI w) s = _
        rw [L_SR_takeRow_57, if_pos (nI_le (Nat.le_refl _) (by omega))])
      (fun n j k s t hj hk hP => by
        obtain ⟨q1, q2, q3, q4, q5⟩ := s0 _ s t hP
        show L_SR_takeRow_67 30 (nI y) (if y = fr then 1 else 0) 1 (nI w) (nI cn) (nI j) (n + 1) (nI k) s = _
        rw [L_SR_takeRow_67, if_neg (nI_ge hk (by omega)), wt_30_2, wt_30_3, wt_30_4, q1, q2, if_pos rfl]
        simp only [lt_eq, show ¬ (1 : Int32) = 0 by decide, if_false]
        rw [nI_add, nI_1]
        unfold c_samp
        simp only [Option.bind_assoc, Option.bind_some])
      (fun n j s => by
        show L_SR_takeRow_67 30 (nI y) (if y = fr then 1 else 0) 1 (nI w) (nI cn) (nI j) (n + 1) (nI cn) s = _
        rw [L_SR_takeRow_67, if_pos (nI_le (Nat.le_refl _) (by omega))])
      (fun n j k s t hF => ftC 1 (nI w) (nI cn) (nI j) (nI k) n s t hF)
      (fun n j k s t hj hk hP => by
        obtain ⟨q1, q2, q3, q4, q5⟩ := s0 _ s t hP
        have hlt : j * cn + k < w * cn := by
          have : (j + 1) * cn ≤ w * cn := Nat.mul_le_mul_right _ hj
          rw [Nat.succ_mul] at this
          omega
        have ed : (j * cn + k) / cn = j := by
          rw [Nat.mul_comm, Nat.mul_add_div (by omega), Nat.div_eq_of_lt hk, Nat.add_zero]
        have em : (j * cn + k) % cn = k := by
          rw [Nat.mul_comm, Nat.mul_add_mod, Nat.mod_eq_of_lt hk]
        show L_RM_hearData_72 56 (nI lo) (nI (lo + cn)) a3 (nI y) (nI (w * cn)) (n + 1) (nI (j * cn + k)) t = _
        rw [L_RM_hearData_72, if_neg (nI_ge hlt (by omega)), q3, if_pos rfl, q4, esub]
        simp only [lt_eq, show nI 2 = (2 : Int32) from rfl, if_true]
        have e8 : (nI cn != 0) = true := by
          rw [bne_iff_ne]
          exact nI_ne0 (by omega) (by omega)
        simp only [e8, if_true]
        rw [nI_mod (by omega) (by omega), nI_div (by omega) (by omega), ed, em, nI_add, nI_1])
      rz (fun n z s t hF => ftR n (nI z) s t hF)
      (fun j k s t hj hk hP => smp _ _ (lo + k) j s t (by omega) (by omega) hj (by unfold TS TR; omega) (by unfold TS TR; omega) (by unfold TS TR; omega) (by unfold TS TR; omega) hP)
      (fun j s t hP => hP.monoT (by unfold TS TR; omega)) (by omega) (by omega) (by omega) σ τ (H.monoT (by unfold TS TR; omega))
    obtain ⟨a, q, ea, eq, h9⟩ := h9
    refine ⟨a.2, q, by show ((L_SR_takeRow_57 30 (nI y) (if y = fr then 1 else 0) 1 (nI w) (nI cn) 9999 (nI 0) σ).bind fun q => some q.2) = _; rw [ea, Option.bind_some], eq, ?_⟩
    rcases h9 with h9 | h9
    · exact Or.inl (h9.monoT (by unfold TS TR; omega))
    · exact Or.inr h9
  · have hn2 : ¬ nI tn = 2 := fun z => h2 (nI_inj (b := 2) (by omega) (by decide) z)
    simp only [hn2, if_false, if_true]
    have hcomm : w * cn = cn * w := Nat.mul_comm w cn
    have h9 := grid (O := cn) (I := w) (Lo := fun n j s => L_SR_takeRow_57 30 (nI y) (if y = fr then 1 else 0) 0 (nI cn) (nI w) n (nI j) s) (Li := fun n j k s => L_SR_takeRow_67 30 (nI y) (if y = fr then 1 else 0) 0 (nI cn) (nI w) (nI j) n (nI k) s) (R := fun n z t => L_RM_hearData_72 56 (nI lo) (nI (lo + cn)) a3 (nI y) (nI (w * cn)) n (nI z) t) (cs := fun j k s => c_samp (nI (lo + j)) (nI k) (nI y) (if y = fr then 1 else 0) s) (rs := fun j k t => f_RM_hearSample 56 (nI (lo + j)) (nI k) (nI y) t) (P := fun j k s t => RXA σs τs m lo cn xb ne tp rs st fr (TL lo cn w 0 y j k) s t) (Fl := FTm σ0 τ0)
      (fun n j s hj => by
        show L_SR_takeRow_57 30 (nI y) (if y = fr then 1 else 0) 0 (nI cn) (nI w) (n + 1) (nI j) s = _
        rw [L_SR_takeRow_57, if_neg (nI_ge hj (by omega)), nI_1]
        rfl)
      (fun n s => by
        show L_SR_takeRow_57 30 (nI y) (if y = fr then 1 else 0) 0 (nI cn) (nI w) (n + 1) (nI cn) s = _
        rw [L_SR_takeRow_57, if_pos (nI_le (Nat.le_refl _) (by omega))])
      (fun n j k s t hj hk hP => by
        obtain ⟨q1, q2, q3, q4, q5⟩ := s0 _ s t hP
        show L_SR_takeRow_67 30 (nI y) (if y = fr then 1 else 0) 0 (nI cn) (nI w) (nI j) (n + 1) (nI k) s = _
        rw [L_SR_takeRow_67, if_neg (nI_ge hk (by omega)), wt_30_2, wt_30_3, wt_30_4, q1, q2, if_pos rfl]
        simp only [lt_eq, if_true]
        rw [nI_add, nI_1]
        unfold c_samp
        simp only [Option.bind_assoc, Option.bind_some])
      (fun n j s => by
        show L_SR_takeRow_67 30 (nI y) (if y = fr then 1 else 0) 0 (nI cn) (nI w) (nI j) (n + 1) (nI w) s = _
        rw [L_SR_takeRow_67, if_pos (nI_le (Nat.le_refl _) (by omega))])
      (fun n j k s t hF => ftC 0 (nI cn) (nI w) (nI j) (nI k) n s t hF)
      (fun n j k s t hj hk hP => by
        obtain ⟨q1, q2, q3, q4, q5⟩ := s0 _ s t hP
        have hlt : j * w + k < w * cn := by
          have : (j + 1) * w ≤ cn * w := Nat.mul_le_mul_right _ hj
          rw [Nat.succ_mul] at this
          omega
        have ed : (j * w + k) / w = j := by
          rw [Nat.mul_comm, Nat.mul_add_div (by omega), Nat.div_eq_of_lt hk, Nat.add_zero]
        have em : (j * w + k) % w = k := by
          rw [Nat.mul_comm, Nat.mul_add_mod, Nat.mod_eq_of_lt hk]
        show L_RM_hearData_72 56 (nI lo) (nI (lo + cn)) a3 (nI y) (nI (w * cn)) (n + 1) (nI (j * w + k)) t = _
        rw [L_RM_hearData_72, if_neg (nI_ge hlt (by omega)), q3, if_pos rfl, q4, q5]
        simp only [lt_eq, hn2, if_false]
        have e8 : (nI w != 0) = true := by
          rw [bne_iff_ne]
          exact nI_ne0 (by omega) (by omega)
        simp only [e8, if_true]
        rw [nI_mod (by omega) (by omega), nI_div (by omega) (by omega), ed, em, nI_add, nI_1])
      (fun n t => by
        show L_RM_hearData_72 56 (nI lo) (nI (lo + cn)) a3 (nI y) (nI (w * cn)) (n + 1) (nI (cn * w)) t = _
        rw [← hcomm]
        exact rz n t) (fun n z s t hF => ftR n (nI z) s t hF)
      (fun j k s t hj hk hP => smp _ _ (lo + j) k s t (by omega) (by omega) hk (by unfold TL TR; omega) (by unfold TL TR; omega) (by unfold TL TR; omega) (by unfold TL TR; omega) hP)
      (fun j s t hP => hP.monoT (by unfold TL TR; omega)) (by omega) (by omega) (by omega) σ τ (H.monoT (by unfold TL TR; omega))
    obtain ⟨a, q, ea, eq, h9⟩ := h9
    refine ⟨a.2, q, by show ((L_SR_takeRow_57 30 (nI y) (if y = fr then 1 else 0) 0 (nI cn) (nI w) 9999 (nI 0) σ).bind fun q => some q.2) = _; rw [ea, Option.bind_some], eq, ?_⟩
    rcases h9 with h9 | h9
    · exact Or.inl (h9.monoT (by unfold TL TR; omega))
    · exact Or.inr h9
