/-! reading: the rows of a scan, with restarts -/
set_option maxRecDepth 100000 in
set_option maxHeartbeats 4000000 in
theorem r_between {σ0 τ0 σs τs σ τ : Mem} {m lo cn xb ne tp rs st fr h w rt y a : Nat} {d : Nat → Nat} (S : BS σ0 τ0 σs τs m d) (hst : τs 56 39 = nI st) (t35 : τs 56 35 = nI h) (t40 : τs 56 40 = nI rt) (s9 : σs 30 9 = nI cn) (s5 : σs 31 5 = nI w) (hrt : rt ≤ 12) (hh : h ≤ 12) (hfr : frOk rt fr y) (ha : a ≤ y) (hy : y + 1 < h) {T : Nat → Nat → Nat → Prop} (H : RXA σs τs m lo cn xb ne tp rs st fr T σ τ) :
    Both (C_rb (nI rt) (nI a) (nI (y + 1 - fr)) σ) (R_rb (nI a) (nI y) τ) (fun A D => ∃ a2 fr2, A.1 = nI a2 ∧ D.1 = nI a2 ∧ A.2.1 = nI (y + 1 - fr2) ∧ frOk rt fr2 (y + 1) ∧ a2 ≤ y + 1 ∧ (A.2.2 30 9 = nI cn ∧ A.2.2 31 5 = nI w) ∧ (RXA σs τs m lo cn xb ne tp rs st fr2 T A.2.2 D.2 ∨ FTm σ0 τ0 A.2.2 D.2)) := by
  obtain ⟨e28, e35, e40, e9, e5⟩ : τ 56 28 = 0 ∧ τ 56 35 = nI h ∧ τ 56 40 = nI rt ∧ σ 30 9 = nI cn ∧ σ 31 5 = nI w := by
    obtain ⟨x, cur, lf, g1, -⟩ := H
    obtain ⟨F, Z, -⟩ := g1.fr S
    exact ⟨Z.2.2.1, by rw [g1.2.2.2.2.1 35 (by omega), t35], by rw [g1.2.2.2.2.1 40 (by omega), t40], by rw [g1.2.1 9 (by omega), s9], by rw [g1.1 31 (by omega), s5]⟩
  unfold C_rb R_rb
  rw [e28, if_pos rfl, e35, e40, show nI y + 1 = nI (y + 1) from nI_1 y]
  by_cases hr : rt = 0
  · subst hr
    rw [if_pos (show nI 0 = 0 from rfl), if_pos (show nI 0 ≤ 0 by decide)]
    refine both_ret ⟨a, fr, rfl, rfl, rfl, ?_, by omega, ⟨e9, e5⟩, Or.inl H⟩
    exact ⟨by have := hfr.1; omega, fun _ => hfr.2.1 rfl, fun z => absurd z (by decide)⟩
  · obtain ⟨f1, f2, f3⟩ := frOk_cases hfr (show 0 < rt by omega)
    have hf0 := hfr.1
    rw [if_neg (nI_ne0 (by omega) (by omega)), if_neg (show ¬ nI rt ≤ 0 from nI_ge (a := 0) (b := rt) (by omega) (by omega)), nI_mod (by omega) (by omega)]
    by_cases z : y + 1 - fr = rt
    · have z2 := f1.mp z
      rw [if_pos (by rw [z]), z2, if_pos (show nI 0 = 0 from rfl), if_neg (nI_ge hy (by omega))]
      obtain ⟨A, D, eA, eD, k1, k2, k3⟩ := r_restart (y1 := y + 1) (a := a) S hst H
      refine ⟨(nI a + 1, 0, A), (nI a + 1, D), by rw [eA, Option.bind_some], by rw [eD, Option.bind_some], a + 1, y + 1, by rw [nI_1], by rw [nI_1], by rw [Nat.sub_self]; rfl, f2 z, by omega, ⟨?_, ?_⟩, k3⟩
      · show A 30 9 = _
        rw [k1 9 (by decide), e9]
      · show A 31 5 = _
        rw [k2, e5]
    · have z2 : ¬ (y + 1) % rt = 0 := fun z3 => z (f1.mpr z3)
      have hm : (y + 1) % rt < rt := Nat.mod_lt _ (by omega)
      rw [if_neg (fun z3 => z (nI_inj (by omega) (by omega) z3)), if_neg (nI_ne0 (by omega) (by omega))]
      exact both_ret ⟨a, fr, rfl, rfl, rfl, f3 z, by omega, ⟨e9, e5⟩, Or.inl H⟩
set_option maxRecDepth 100000 in
set_option maxHeartbeats 4000000 in
theorem r_rows {σ0 τ0 σs τs : Mem} {m lo cn xb ne tp rs st h w rt tn : Nat} {d : Nat → Nat} (S : BS σ0 τ0 σs τs m d) (hrs : τs 56 38 = nI rs) (hst : τs 56 39 = nI st) (t35 : τs 56 35 = nI h) (t40 : τs 56 40 = nI rt) (hrt : rt ≤ 12) (hne : ne ≤ 3) (htp : tp ≤ 255) (hcn : 1 ≤ cn) (hc4 : lo + cn ≤ 4) (hw1 : 1 ≤ w) (hw : w ≤ 12) (hh : h ≤ 12) (htn : tn ≤ 2) (s8 : σs 30 8 = nI lo) (s9 : σs 30 9 = nI cn) (s11 : σs 30 11 = nI tn) (s5 : σs 31 5 = nI w) (s6 : σs 31 6 = nI h) (t43 : τs 56 43 = nI tn) (t34 : τs 56 34 = nI w) :
    ∀ (e y fr a n g : Nat) (σ τ : Mem), y + e + 1 = h → frOk rt fr y → a ≤ y → e + 1 < n → e + 2 < g → (σ 30 9 = nI cn ∧ σ 31 5 = nI w) → (RXA σs τs m lo cn xb ne tp rs st fr (TR lo cn w 0 y) σ τ ∨ FTm σ0 τ0 σ τ) →
    Both ((f_SR_takeRow 30 (nI y) (if nI (y - fr) = 0 then 1 else 0) σ).bind fun s => L_SR_data_45 30 (nI rt) n (nI a) (nI (y - fr) + 1) (nI y + 1) s) (L_RM_hearData_43 56 (nI lo) (nI (lo + cn)) g (nI a) (nI y) τ) (fun A D => (∃ fr2, RXA σs τs m lo cn xb ne tp rs st fr2 (TR lo cn w 0 h) A.2.2.2 D.2.2) ∨ FTm σ0 τ0 A.2.2.2 D.2.2) := by
  intro e
  induction e with
  | zero =>
    intro y fr a n g σ τ h1 h2 h3 h5 h6 hk H
    obtain ⟨n, rfl⟩ := Nat.exists_eq_succ_of_ne_zero (show n ≠ 0 by omega)
    obtain ⟨g, rfl⟩ := Nat.exists_eq_succ_of_ne_zero (show g ≠ 0 by omega)
    obtain ⟨g, rfl⟩ := Nat.exists_eq_succ_of_ne_zero (show g ≠ 0 by omega)
    have hf0 := h2.1
    rcases H with H | H
    · have hq : (if nI (y - fr) = 0 then (1 : Int32) else 0) = if y = fr then 1 else 0 := by
        by_cases z : y = fr
        · rw [if_pos z, z, Nat.sub_self, if_pos (show nI 0 = 0 from rfl)]
        · rw [if_neg z, if_neg (nI_ne0 (by omega) (by omega))]
      obtain ⟨e28, e35, e34⟩ : τ 56 28 = 0 ∧ τ 56 35 = nI h ∧ τ 56 34 = nI w := by
        obtain ⟨x, cur, lf, g1, -⟩ := H
        obtain ⟨F, Z, -⟩ := g1.fr S
        exact ⟨Z.2.2.1, by rw [g1.2.2.2.2.1 35 (by omega), t35], by rw [g1.2.2.2.2.1 34 (by omega), t34]⟩
      rw [data43 (by rw [e35]; exact nI_ge (by omega) (by omega)) e28, e34, nI_sub (show lo ≤ lo + cn by omega), show lo + cn - lo = cn by omega, nI_mul]
      refine both_bind (r_row (a3 := nI a) S hrs hne htp hcn hc4 hw1 hw (by omega) hf0 htn s8 s9 s11 s5 t43 t34 hq H) (fun s q H1 => ?_)
      rcases H1 with H1 | H1
      · obtain ⟨u28, u35, u40, v6, vm⟩ : q.2 56 28 = 0 ∧ q.2 56 35 = nI h ∧ q.2 56 40 = nI rt ∧ s 31 6 = nI h ∧ f_FA_met 47 s = 0 := by
          obtain ⟨x, cur, lf, g1, -⟩ := H1
          obtain ⟨F, Z, -⟩ := g1.fr S
          exact ⟨Z.2.2.1, by rw [g1.2.2.2.2.1 35 (by omega), t35], by rw [g1.2.2.2.2.1 40 (by omega), t40], by rw [g1.1 31 (by omega), s6], Z.met⟩
        have eE : R_rb (nI a) (nI y) q.2 = some (nI a, q.2) := by
          unfold R_rb
          rw [u28, if_pos rfl, u35, show nI y + 1 = nI (y + 1) from nI_1 y, if_pos (nI_le (show h ≤ y + 1 by omega) (by omega))]
          split
          · rfl
          · split <;> rfl
        have eL : L_SR_data_45 30 (nI rt) (n + 1) (nI a) (nI (y - fr) + 1) (nI y + 1) s = some (nI a, nI (y - fr) + 1, nI y + 1, s) := by
          rw [L_SR_data_45, wt_30_1, v6, show nI y + 1 = nI (y + 1) from nI_1 y, if_pos (nI_le (show h ≤ y + 1 by omega) (by omega))]
        have eD : L_RM_hearData_43 56 (nI lo) (nI (lo + cn)) (g + 1) (nI a) (nI y + 1) q.2 = some (nI a, nI y + 1, q.2) := by
          rw [L_RM_hearData_43, u35, show nI y + 1 = nI (y + 1) from nI_1 y, if_pos (nI_le (show h ≤ y + 1 by omega) (by omega))]
        rw [eE, Option.bind_some]
        refine ⟨_, _, eL, eD, Or.inl ⟨fr, ?_⟩⟩
        rw [show h = y + 1 by omega]
        exact H1
      · have eE : R_rb (nI a) (nI y) q.2 = some (nI a, q.2) := by
          unfold R_rb
          rw [if_neg (show ¬ q.2 56 28 = 0 by rw [← H1.2.1]; exact H1.2.2.1)]
        rw [eE, Option.bind_some]
        exact ⟨_, _, data45_ft H1, data43_ft H1, Or.inr H1⟩
    · rw [takeRow_ft (cn := cn) (w := w) (tn := tn) H hk.1 hk.2 (by omega) hw, Option.bind_some]
      exact ⟨_, _, data45_ft H, data43_ft H, Or.inr H⟩
  | succ e ih =>
    intro y fr a n g σ τ h1 h2 h3 h5 h6 hk H
    obtain ⟨n, rfl⟩ := Nat.exists_eq_succ_of_ne_zero (show n ≠ 0 by omega)
    obtain ⟨g, rfl⟩ := Nat.exists_eq_succ_of_ne_zero (show g ≠ 0 by omega)
    have hf0 := h2.1
    rcases H with H | H
    · have hq : (if nI (y - fr) = 0 then (1 : Int32) else 0) = if y = fr then 1 else 0 := by
        by_cases z : y = fr
        · rw [if_pos z, z, Nat.sub_self, if_pos (show nI 0 = 0 from rfl)]
        · rw [if_neg z, if_neg (nI_ne0 (by omega) (by omega))]
      obtain ⟨e28, e35, e34⟩ : τ 56 28 = 0 ∧ τ 56 35 = nI h ∧ τ 56 34 = nI w := by
        obtain ⟨x, cur, lf, g1, -⟩ := H
        obtain ⟨F, Z, -⟩ := g1.fr S
        exact ⟨Z.2.2.1, by rw [g1.2.2.2.2.1 35 (by omega), t35], by rw [g1.2.2.2.2.1 34 (by omega), t34]⟩
      rw [data43 (by rw [e35]; exact nI_ge (by omega) (by omega)) e28, e34, nI_sub (show lo ≤ lo + cn by omega), show lo + cn - lo = cn by omega, nI_mul]
      refine both_bind (r_row (a3 := nI a) S hrs hne htp hcn hc4 hw1 hw (by omega) hf0 htn s8 s9 s11 s5 t43 t34 hq H) (fun s q H1 => ?_)
      rcases H1 with H1 | H1
      · obtain ⟨v6, vm⟩ : s 31 6 = nI h ∧ f_FA_met 47 s = 0 := by
          obtain ⟨x, cur, lf, g1, -⟩ := H1
          obtain ⟨F, Z, -⟩ := g1.fr S
          exact ⟨by rw [g1.1 31 (by omega), s6], Z.met⟩
        rw [data45 (by rw [v6, nI_1]; exact nI_ge (by omega) (by omega)) vm, show nI (y - fr) + 1 = nI (y + 1 - fr) by rw [nI_1]; congr 1; omega, show nI y + 1 = nI (y + 1) from nI_1 y]
        refine both_bind (r_between S hst t35 t40 s9 s5 hrt hh h2 h3 (by omega) H1) (fun A D H2 => ?_)
        obtain ⟨a2, fr2, k1, k2, k3, k4, k5, k6, H3⟩ := H2
        rw [k1, k2, k3]
        exact ih (y + 1) fr2 a2 n g A.2.2 D.2 (by omega) k4 k5 (by omega) (by omega) k6 H3
      · have eE : R_rb (nI a) (nI y) q.2 = some (nI a, q.2) := by
          unfold R_rb
          rw [if_neg (show ¬ q.2 56 28 = 0 by rw [← H1.2.1]; exact H1.2.2.1)]
        obtain ⟨g, rfl⟩ := Nat.exists_eq_succ_of_ne_zero (show g ≠ 0 by omega)
        rw [eE, Option.bind_some]
        exact ⟨_, _, data45_ft H1, data43_ft H1, Or.inr H1⟩
    · rw [takeRow_ft (cn := cn) (w := w) (tn := tn) H hk.1 hk.2 (by omega) hw, Option.bind_some]
      exact ⟨_, _, data45_ft H, data43_ft H, Or.inr H⟩
