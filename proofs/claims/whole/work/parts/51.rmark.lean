/-! reading: a mark -/
set_option maxRecDepth 100000 in
set_option maxHeartbeats 4000000 in
theorem r_all {σ : Mem} {c : Nat} (h8 : σ 31 8 = nI c) (hc : c ≤ 4) : ∃ r : Int32, f_SR_allScanned 30 σ = some r ∧ (r = 0 ↔ ¬ ∀ k, k < c → ¬ σ 55 k = 0) := by
  obtain ⟨a, ea, h9⟩ := loopS (C := fun f j (_ : Unit) => L_SR_allScanned_2 30 σ f (nI j)) (P := fun j _ => ∀ k, k < j → ¬ σ 55 k = 0) (Q := fun a => (a = .inl (nI c) ∧ ∀ k, k < c → ¬ σ 55 k = 0) ∨ (a = .inr 0 ∧ ¬ ∀ k, k < c → ¬ σ 55 k = 0)) (hi := c) (fun _ hs n => ⟨_, by
      show L_SR_allScanned_2 30 σ (n + 1) (nI c) = _
      rw [L_SR_allScanned_2, wt_30_1, h8, if_pos (nI_le (Nat.le_refl _) (by omega))], Or.inl ⟨rfl, hs⟩⟩) (fun k _ hk hs => by
      by_cases z : σ 55 k = 0
      · right
        intro n
        refine ⟨.inr 0, ?_, Or.inr ⟨rfl, fun z2 => z2 k hk z⟩⟩
        show L_SR_allScanned_2 30 σ (n + 1) (nI k) = _
        rw [L_SR_allScanned_2, wt_30_1, wt_30_5, h8, if_neg (nI_ge hk (by omega)), ro_get (k := 54) wt_54_0 wl_55 (by omega) (by decide), if_pos z]
      · left
        refine ⟨(), fun n => ?_, fun j hj => ?_⟩
        · show L_SR_allScanned_2 30 σ (n + 1) (nI k) = _
          rw [L_SR_allScanned_2, wt_30_1, wt_30_5, h8, if_neg (nI_ge hk (by omega)), ro_get (k := 54) wt_54_0 wl_55 (by omega) (by decide), if_neg z, nI_1]
        · by_cases e : j = k
          · rw [e]; exact z
          · exact hs j (by omega)) c 9999 0 () (by omega) (by omega) (fun k hk => by omega)
  rcases h9 with ⟨h1, h2⟩ | ⟨h1, h2⟩
  · exact ⟨1, by rw [f_SR_allScanned, show (0 : Int32) = nI 0 from rfl, ea, h1]; rfl, ⟨fun z => absurd z (by decide), fun z => absurd h2 z⟩⟩
  · exact ⟨0, by rw [f_SR_allScanned, show (0 : Int32) = nI 0 from rfl, ea, h1]; rfl, ⟨fun _ => h2, fun _ => rfl⟩⟩
set_option maxRecDepth 100000 in
set_option maxHeartbeats 4000000 in
theorem r_any {τ : Mem} {c : Nat} {b1 b2 : Int32} (h37 : τ 56 37 = nI c) (hc : c ≤ 4) : ∃ a l x : Int32, L_RM_isMark_170 56 b1 b2 τ 9999 0 (τ 56 33) 0 = some (a, l, x) ∧ (a = 0 ↔ ∀ k, k < c → τ 78 k = 0) ∧ (l = 0 ↔ τ 56 33 = 0 ∨ ¬ ∀ k, k < c → ¬ τ 78 k = 0) := by
  obtain ⟨q, eq, h9⟩ := loopS (C := fun f j (s : Int32 × Int32) => L_RM_isMark_170 56 b1 b2 τ f s.1 s.2 (nI j)) (P := fun j s => (s.1 = 0 ↔ ∀ k, k < j → τ 78 k = 0) ∧ (s.2 = 0 ↔ τ 56 33 = 0 ∨ ¬ ∀ k, k < j → ¬ τ 78 k = 0)) (Q := fun q => (q.1 = 0 ↔ ∀ k, k < c → τ 78 k = 0) ∧ (q.2.1 = 0 ↔ τ 56 33 = 0 ∨ ¬ ∀ k, k < c → ¬ τ 78 k = 0)) (hi := c) (fun s hs n => ⟨_, by
      show L_RM_isMark_170 56 b1 b2 τ (n + 1) s.1 s.2 (nI c) = _
      rw [L_RM_isMark_170, h37, if_pos (nI_le (Nat.le_refl _) (by omega))], hs⟩) (fun k s hk hs => by
      left
      refine ⟨(if s.1 = 0 then (if τ 78 k = 0 then 0 else 1) else 1, if s.2 = 0 then 0 else (if τ 78 k = 0 then 0 else 1)), fun n => ?_, ?_, ?_⟩
      · show L_RM_isMark_170 56 b1 b2 τ (n + 1) s.1 s.2 (nI k) = _
        rw [L_RM_isMark_170, h37, if_neg (nI_ge hk (by omega))]
        simp only [lt_eq, wt_0_1, wt_0_2, wt_0_3, wt_0_4, wt_0_5, wt_1_0, wt_1_1, wt_1_2, wt_1_3, wt_1_4, wt_2_0, wl_3, wt_4_0, wl_5, wt_6_0, wl_7, wt_8_0, wl_9, wt_10_0, wt_10_1, wt_10_2, wt_11_0, wl_12, wt_13_0, wl_14, wt_15_0, wl_16, wt_17_0, wl_18, wt_19_0, wl_20, wt_21_0, wt_21_1, wt_21_2, wt_21_3, wt_22_0, wt_22_1, wt_22_2, wt_23_0, wl_24, wt_25_0, wl_26, wt_27_0, wl_28, wt_29_0, wt_30_0, wt_30_1, wt_30_2, wt_30_3, wt_30_4, wt_30_5, wt_31_0, wt_31_1, wt_31_2, wt_31_3, wt_31_4, wt_32_0, wl_33, wt_34_0, wl_35, wt_36_0, wl_37, wt_38_0, wl_39, wt_40_0, wt_40_1, wt_40_2, wt_41_0, wl_42, wt_43_0, wl_44, wt_45_0, wl_46, wt_48_0, wt_48_1, wt_49_0, wt_49_1, wt_49_2, wt_50_0, wl_51, wt_52_0, wl_53, wt_54_0, wl_55, wt_56_6, wt_56_7, wt_56_8, wt_56_13, wt_56_14, wt_56_15, wt_56_16, wt_56_18, wt_56_21, wt_56_22, wt_56_23, wt_56_24, wt_56_25, wt_56_26, wt_56_27, wt_56_44, wt_56_45, wt_56_46, wt_56_47, wt_56_48, wt_56_49, wt_56_50, wt_56_51, wt_56_52, wt_56_53, wl_57, wl_58, wl_59, wl_60, wl_61, wl_62, wl_63, wl_64, wl_65, wl_66, wl_67, wl_68, wl_69, wl_70, wl_71, wl_72, wl_73, wl_74, wl_75, wl_76, wl_77, wl_78, wl_79, wl_80, wl_81, wl_82]
        rw [nI_1, nI_cl (n := 4) (by omega) (by decide)]
        simp only [inb_nI (show k < 4 by omega) (show 4 < 2 ^ 31 by decide), if_true]
        by_cases h1 : s.1 = 0 <;> by_cases h2 : τ 78 k = 0 <;> by_cases h3 : s.2 = 0 <;> simp only [h1, h2, h3, if_true, if_false]
      · show (if s.1 = 0 then (if τ 78 k = 0 then (0 : Int32) else 1) else 1) = 0 ↔ _
        have e : (∀ j, j < k + 1 → τ 78 j = 0) ↔ ((∀ j, j < k → τ 78 j = 0) ∧ τ 78 k = 0) := by
          constructor
          · intro h; exact ⟨fun j hj => h j (by omega), h k (by omega)⟩
          · rintro ⟨h1, h2⟩ j hj
            by_cases z : j = k
            · rw [z]; exact h2
            · exact h1 j (by omega)
        rw [e, ← hs.1]
        by_cases h1 : s.1 = 0 <;> by_cases h2 : τ 78 k = 0 <;> simp [h1, h2]
      · show (if s.2 = 0 then (0 : Int32) else (if τ 78 k = 0 then 0 else 1)) = 0 ↔ _
        have e : (τ 56 33 = 0 ∨ ¬ ∀ j, j < k + 1 → ¬ τ 78 j = 0) ↔ ((τ 56 33 = 0 ∨ ¬ ∀ j, j < k → ¬ τ 78 j = 0) ∨ τ 78 k = 0) := by
          constructor
          · rintro (h | h)
            · exact Or.inl (Or.inl h)
            · by_cases z : τ 78 k = 0
              · exact Or.inr z
              · refine Or.inl (Or.inr fun h2 => h fun j hj => ?_)
                by_cases z2 : j = k
                · rw [z2]; exact z
                · exact h2 j (by omega)
          · rintro ((h | h) | h)
            · exact Or.inl h
            · exact Or.inr fun h2 => h fun j hj => h2 j (by omega)
            · exact Or.inr fun h2 => h2 k (by omega) h
        rw [e, ← hs.2]
        by_cases h1 : s.2 = 0 <;> by_cases h2 : τ 78 k = 0 <;> simp [h1, h2]) c 9999 0 (0, τ 56 33) (by omega) (by omega) ⟨⟨fun _ k hk => by omega, fun _ => rfl⟩, ⟨fun z => Or.inl z, fun z => z.resolve_right fun z2 => z2 fun k hk => by omega⟩⟩
  exact ⟨q.1, q.2.1, q.2.2, eq, h9.1, h9.2⟩
/-- may the mark v stand here -/
def okM (v c sc : Nat) (S : Prop) : Prop := (v = 217 → ¬ c = 0 ∧ S) ∧ (v = 218 → ¬ c = 0) ∧ (v = 221 → ¬ c = 0 ∧ sc = 0) ∧ (v = 247 → c = 0) ∧ (v = 248 → ¬ c = 0 ∧ sc = 0)
def knM (x : Int32) : Int32 := (if (if x < (224 : Int32) then (0 : Int32) else (if (239 : Int32) < x then (0 : Int32) else (1 : Int32))) = 0 then (if x = (254 : Int32) then (1 : Int32) else (if x = (247 : Int32) then (1 : Int32) else (if x = (248 : Int32) then (1 : Int32) else (if x = (221 : Int32) then (1 : Int32) else (if x = (218 : Int32) then (1 : Int32) else (if x = (217 : Int32) then (1 : Int32) else (if x = (216 : Int32) then (1 : Int32) else (0 : Int32)))))))) else (1 : Int32))
def knC (x0 : Int32) : Int32 := (if (if x0 = (254 : Int32) then (1 : Int32) else (if x0 < (224 : Int32) then (0 : Int32) else (if (239 : Int32) < x0 then (0 : Int32) else (1 : Int32)))) = 0 then (if x0 = (216 : Int32) then (1 : Int32) else (if x0 = (247 : Int32) then (1 : Int32) else (if x0 = (248 : Int32) then (1 : Int32) else (if x0 = (221 : Int32) then (1 : Int32) else (if x0 = (218 : Int32) then (1 : Int32) else (if x0 = (217 : Int32) then (1 : Int32) else (0 : Int32))))))) else (1 : Int32))
set_option maxRecDepth 100000 in
set_option maxHeartbeats 4000000 in
theorem kn_eq : ∀ v, v < 256 → knC (nI v) = knM (nI v) ∧ (knM (nI v) = 0 ∨ (v = 216 ∨ v = 217 ∨ v = 218 ∨ v = 221 ∨ v = 247 ∨ v = 248 ∨ v = 254 ∨ (224 ≤ v ∧ v ≤ 239))) := by decide +kernel
set_option maxRecDepth 100000 in
set_option maxHeartbeats 4000000 in
theorem r_soon {σ τ : Mem} {w h b c sc v : Nat} (Hf : RHf σ τ w h b c) (Hs : RHs σ τ w h b c sc) (hv : v ≤ 255) : ∃ r : Int32, f_SR_isTooSoonOrLate 30 (nI v) σ = some r ∧ (r = 0 ↔ okM v c sc (∀ k, k < c → ¬ σ 55 k = 0)) := by
  have h8 : σ 31 8 = nI c := Hf.1.2.2.2
  have hc : c ≤ 4 := Hf.2.2.2.2
  have h13 : σ 30 13 = nI sc := Hs.2.2.1.1
  have hsc : sc ≤ 7000 := Hs.2.2.1.2.2
  have l : ∀ n : Nat, n < 256 → (nI v = nI n ↔ v = n) := fun n hn => nI_eq (by omega) (by omega)
  have l1 := l 217 (by decide)
  have l2 := l 218 (by decide)
  have l3 := l 221 (by decide)
  have l4 := l 247 (by decide)
  have l5 := l 248 (by decide)
  have c0 : nI c = 0 ↔ c = 0 := nI_eq (b := 0) (by omega) (by decide)
  have s0 : nI sc = 0 ↔ sc = 0 := nI_eq (b := 0) (by omega) (by decide)
  obtain ⟨ra, era, hra⟩ := r_all h8 hc
  rw [f_SR_isTooSoonOrLate, wt_30_1, h8, h13, era]
  simp only [lt_eq]
  rw [show (217 : Int32) = nI 217 from rfl, show (218 : Int32) = nI 218 from rfl, show (221 : Int32) = nI 221 from rfl, show (247 : Int32) = nI 247 from rfl, show (248 : Int32) = nI 248 from rfl]
  simp only [l1, l2, l3, l4, l5, c0, s0, Option.bind_some]
  unfold okM
  by_cases e1 : v = 217
  · subst e1
    by_cases z : c = 0
    · refine ⟨1, by simp [z], by simp [z]⟩
    · refine ⟨if ra = 0 then 1 else 0, by simp [z], ?_⟩
      by_cases z2 : ra = 0
      · have := hra.mp z2
        simp [z, z2]
        simpa using this
      · have : ∀ k, k < c → ¬ σ 55 k = 0 := Classical.not_not.mp fun z3 => z2 (hra.mpr z3)
        simp [z, z2]
        exact this
  · by_cases e2 : v = 218
    · subst e2
      refine ⟨if c = 0 then 1 else 0, by by_cases z : c = 0 <;> simp [z], ?_⟩
      by_cases z : c = 0 <;> simp [z]
    · by_cases e3 : v = 221
      · subst e3
        refine ⟨if c = 0 then 1 else (if sc = 0 then 0 else 1), by by_cases z : c = 0 <;> simp [z], ?_⟩
        by_cases z : c = 0 <;> by_cases z2 : sc = 0 <;> simp [z, z2]
      · by_cases e4 : v = 247
        · subst e4
          refine ⟨if c = 0 then 0 else 1, by by_cases z : c = 0 <;> simp [z], ?_⟩
          by_cases z : c = 0 <;> simp [z]
        · by_cases e5 : v = 248
          · subst e5
            refine ⟨if c = 0 then 1 else (if sc = 0 then 0 else 1), by by_cases z : c = 0 <;> simp [z], ?_⟩
            by_cases z : c = 0 <;> by_cases z2 : sc = 0 <;> simp [z, z2]
          · exact ⟨0, by simp [e1, e2, e3, e4, e5], by simp [e1, e2, e3, e4, e5]⟩
def refM {α : Type} (v3 hf a l : Int32) (X Y : α) : α :=
  if v3 = (247 : Int32) then
  (if hf = 0 then
  (if (if v3 = (248 : Int32) then (if hf = 0 then (1 : Int32) else (0 : Int32)) else (if v3 = (221 : Int32) then (if hf = 0 then (1 : Int32) else (0 : Int32)) else (if v3 = (218 : Int32) then (if hf = 0 then (1 : Int32) else (0 : Int32)) else (0 : Int32)))) = 0 then
  (if (if v3 = (248 : Int32) then (if a = 0 then (0 : Int32) else (1 : Int32)) else (if v3 = (221 : Int32) then (if a = 0 then (0 : Int32) else (1 : Int32)) else (0 : Int32))) = 0 then
  (if v3 = (217 : Int32) then (if l = 0 then Y else X) else X) else Y) else Y) else Y) else
  (if (if v3 = (248 : Int32) then (if hf = 0 then (1 : Int32) else (0 : Int32)) else (if v3 = (221 : Int32) then (if hf = 0 then (1 : Int32) else (0 : Int32)) else (if v3 = (218 : Int32) then (if hf = 0 then (1 : Int32) else (0 : Int32)) else (0 : Int32)))) = 0 then
  (if (if v3 = (248 : Int32) then (if a = 0 then (0 : Int32) else (1 : Int32)) else (if v3 = (221 : Int32) then (if a = 0 then (0 : Int32) else (1 : Int32)) else (0 : Int32))) = 0 then
  (if v3 = (217 : Int32) then (if l = 0 then Y else X) else X) else Y) else Y)
set_option maxRecDepth 100000 in
set_option maxHeartbeats 4000000 in
theorem refM_eq {α : Type} {v c sc : Nat} {hf a l : Int32} {X Y : α} {S : Prop} (hv : v ≤ 255) (h1 : hf = 0 ↔ c = 0) (h2 : ¬ c = 0 → (a = 0 ↔ sc = 0)) (h3 : l = 0 ↔ c = 0 ∨ ¬ S) : (okM v c sc S → refM (nI v) hf a l X Y = X) ∧ (¬ okM v c sc S → refM (nI v) hf a l X Y = Y) := by
  have l0 : ∀ n : Nat, n < 256 → (nI v = nI n ↔ v = n) := fun n hn => nI_eq (by omega) (by omega)
  have l1 := l0 217 (by decide)
  have l2 := l0 218 (by decide)
  have l3 := l0 221 (by decide)
  have l4 := l0 247 (by decide)
  have l5 := l0 248 (by decide)
  unfold refM okM
  rw [show (217 : Int32) = nI 217 from rfl, show (218 : Int32) = nI 218 from rfl, show (221 : Int32) = nI 221 from rfl, show (247 : Int32) = nI 247 from rfl, show (248 : Int32) = nI 248 from rfl]
  simp only [l1, l2, l3, l4, l5, h1]
  by_cases z : c = 0
  · have hl : l = 0 := h3.mpr (Or.inl z)
    by_cases e1 : v = 217
    · simp [e1, z, hl]
    · by_cases e2 : v = 218
      · simp [e2, z]
      · by_cases e3 : v = 221
        · simp [e3, z]
        · by_cases e4 : v = 247
          · simp [e4, z]
          · by_cases e5 : v = 248
            · simp [e5, z]
            · simp [e1, e2, e3, e4, e5]
  · have h2 := h2 z
    simp only [h2]
    by_cases z2 : sc = 0
    · by_cases e1 : v = 217
      · by_cases z3 : S
        · have hl : ¬ l = 0 := fun q => (h3.mp q).elim z (fun q2 => q2 z3)
          simp [e1, z, z3, hl]
        · have hl : l = 0 := h3.mpr (Or.inr z3)
          simp [e1, z, z3, hl]
      · by_cases e2 : v = 218
        · simp [e2, z]
        · by_cases e3 : v = 221
          · simp [e3, z, z2]
          · by_cases e4 : v = 247
            · simp [e4, z]
            · by_cases e5 : v = 248
              · simp [e5, z, z2]
              · simp [e1, e2, e3, e4, e5]
    · by_cases e1 : v = 217
      · by_cases z3 : S
        · have hl : ¬ l = 0 := fun q => (h3.mp q).elim z (fun q2 => q2 z3)
          simp [e1, z, z3, hl]
        · have hl : l = 0 := h3.mpr (Or.inr z3)
          simp [e1, z, z3, hl]
      · by_cases e2 : v = 218
        · simp [e2, z]
        · by_cases e3 : v = 221
          · simp [e3, z, z2]
          · by_cases e4 : v = 247
            · simp [e4, z]
            · by_cases e5 : v = 248
              · simp [e5, z, z2]
              · simp [e1, e2, e3, e4, e5]
set_option maxRecDepth 100000 in
set_option maxHeartbeats 4000000 in
theorem r_mark {σ0 τ0 σ τ : Mem} {m p w h b c rs st rt nn sc : Nat} {d : Nat → Nat} (B : RB σ0 τ0 m d) (F : RFr σ0 τ0 σ τ) (H : RH σ τ w h b c rs st rt nn sc) (hp : p ≤ m) (e32 : τ 56 32 = nI p) :
    Both (f_SR_markAt 30 (nI p) σ) (f_RM_isMark 56 τ) (fun a q => (q.1 = 0 ∧ FTm σ0 τ0 a.2 q.2) ∨ (q = (1, τ) ∧ a = (nI (d (p + 1)), σ) ∧ p + 2 ≤ m ∧ (d (p + 1) = 216 ↔ p = 0) ∧ okM (d (p + 1)) c sc (∀ k, k < c → ¬ σ 55 k = 0) ∧ (d (p + 1) = 216 ∨ d (p + 1) = 217 ∨ d (p + 1) = 218 ∨ d (p + 1) = 221 ∨ d (p + 1) = 247 ∨ d (p + 1) = 248 ∨ d (p + 1) = 254 ∨ (224 ≤ d (p + 1) ∧ d (p + 1) ≤ 239)))) := by
  obtain ⟨Hf, Hp, Hn, Ht, Hs, Hz⟩ := H
  obtain ⟨m1, m2⟩ := rd_s B F
  have m6 : m ≤ 6000 := B.2.2.1
  have hss : σ 30 13 = τ 56 31 := by rw [Hs.2.2.1.1, Hs.2.2.1.2.1]
  have es : nI m - nI p = nI (m - p) := nI_sub hp
  rw [f_SR_markAt, f_RM_isMark, wt_30_0, wt_30_2, f_BY_size, m1, m2, e32, es]
  by_cases h2 : 2 ≤ m - p
  · rw [if_pos (show (2 : Int32) ≤ nI (m - p) from nI_le (a := 2) h2 (by omega)), if_pos (show (2 : Int32) ≤ nI (m - p) from nI_le (a := 2) h2 (by omega)), nI_1, wt_56_18, wl_64, if_pos (rd_i B (show p + 1 < m by omega)), rd_r B F (show p + 1 < m by omega), rd_c B F (show p + 1 < m by omega), rd_c B F (show p < m by omega)]
    simp only [lt_eq]
    rw [if_pos (rd_i B (show p < m by omega)), rd_r B F (show p < m by omega)]
    have hv : d (p + 1) ≤ 255 := (B.2.2.2 (p + 1) (by omega)).1
    obtain ⟨k1, k2⟩ := kn_eq (d (p + 1)) (by omega)
    obtain ⟨s2, t2, es2, et2, f2⟩ := ft_meet (f := 2) (p := nI p) F Hz hss (by decide)
    obtain ⟨s5, t5, es5, et5, f5⟩ := ft_meet (f := 5) (p := nI p) F Hz hss (by decide)
    have eN : f_SR_isKnown (nI (d (p + 1))) σ = knC (nI (d (p + 1))) := rfl
    rw [eN, k1]
    show Both _ (if nI (d p) = 255 then (if knM (nI (d (p + 1))) = 0 then _ else _) else _) _
    by_cases ha : nI (d p) = 255
    · rw [if_pos ha, if_pos ha]
      by_cases hk : knM (nI (d (p + 1))) = 0
      · rw [if_pos hk, if_pos hk, es2, e32, et2]
        exact both_ret (Or.inl ⟨rfl, f2⟩)
      · rw [if_neg hk, if_neg hk]
        have l1 : nI (d (p + 1)) = 216 ↔ d (p + 1) = 216 := nI_eq (b := 216) (by omega) (by decide)
        have l2 : nI p = 0 ↔ p = 0 := nI_eq (b := 0) (by omega) (by decide)
        have lc : ((if nI (d (p + 1)) = 216 then (1 : Int32) else 0) = if nI p = 0 then 1 else 0) ↔ (d (p + 1) = 216 ↔ p = 0) := by
          simp only [l1, l2]
          by_cases z1 : d (p + 1) = 216 <;> by_cases z2 : p = 0 <;> simp [z1, z2]
        have lr : ((if nI p = 0 then (1 : Int32) else 0) = if nI (d (p + 1)) = 216 then 1 else 0) ↔ (d (p + 1) = 216 ↔ p = 0) := by
          rw [← lc]
          exact ⟨fun z => z.symm, fun z => z.symm⟩
        by_cases hs : d (p + 1) = 216 ↔ p = 0
        · rw [if_pos (lc.mpr hs), if_pos (lr.mpr hs)]
          obtain ⟨r, er, hr⟩ := r_soon Hf Hs hv
          obtain ⟨a, l, x, ea, ha1, hl1⟩ := r_any (b1 := nI (d (p + 1))) (b2 := knM (nI (d (p + 1)))) Hf.2.1 Hf.2.2.2.2
          have q1 : τ 56 33 = 0 ↔ c = 0 := by
            constructor
            · intro z
              by_cases z2 : c = 0
              · exact z2
              · rw [(Hf.2.2.2.1 z2).1.1] at z
                exact absurd z (by decide)
            · exact Hf.2.2.1
          have hc4 : c ≤ 4 := Hf.2.2.2.2
          have q2 : ¬ c = 0 → (a = 0 ↔ sc = 0) := by
            intro _
            rw [ha1]
            constructor
            · intro z
              by_cases z2 : sc = 0
              · exact z2
              · obtain ⟨k, hk1, hk2⟩ := (Hs.2.2.2.2 z2).2
                exact absurd ((Hs.1 k (by omega)).mpr (z k hk1)) hk2
            · intro z k hk1
              exact (Hs.1 k (by omega)).mp (Hs.2.2.2.1 z k (by omega))
          have q3 : l = 0 ↔ c = 0 ∨ ¬ ∀ k, k < c → ¬ σ 55 k = 0 := by
            rw [hl1, q1]
            have : (∀ k, k < c → ¬ τ 78 k = 0) ↔ ∀ k, k < c → ¬ σ 55 k = 0 := by
              constructor
              · intro z k hk1 z2
                exact z k hk1 ((Hs.1 k (by omega)).mp z2)
              · intro z k hk1 z2
                exact z k hk1 ((Hs.1 k (by omega)).mpr z2)
            rw [this]
          obtain ⟨g1, g2⟩ := refM_eq (α := Option (Int32 × Mem)) (X := some (1, τ)) (Y := some ((f_RM_broken 56 5 (nI p) τ).1, (f_RM_broken 56 5 (nI p) τ).2)) hv q1 q2 q3
          rw [er, Option.bind_some]
          show Both _ ((L_RM_isMark_170 56 (nI (d (p + 1))) (knM (nI (d (p + 1)))) τ 9999 0 (τ 56 33) 0).bind _) _
          rw [ea, Option.bind_some]
          show Both _ (refM (nI (d (p + 1))) (τ 56 33) a l (some (1, τ)) (some ((f_RM_broken 56 5 (nI p) τ).1, (f_RM_broken 56 5 (nI p) τ).2))) _
          by_cases ho : okM (d (p + 1)) c sc (∀ k, k < c → ¬ σ 55 k = 0)
          · rw [g1 ho, if_pos (hr.mpr ho)]
            exact both_ret (Or.inr ⟨rfl, rfl, by omega, hs, ho, k2.resolve_left hk⟩)
          · rw [g2 ho, if_neg (fun z => ho (hr.mp z)), et5, es5]
            exact both_ret (Or.inl ⟨rfl, f5⟩)
        · rw [if_neg (fun z => hs (lc.mp z)), if_neg (fun z => hs (lr.mp z)), es2, e32, et2]
          exact both_ret (Or.inl ⟨rfl, f2⟩)
    · rw [if_neg ha, if_neg ha, es2, e32, et2]
      exact both_ret (Or.inl ⟨rfl, f2⟩)
  · rw [if_neg (show ¬ (2 : Int32) ≤ nI (m - p) from nI_ge (b := 2) (by omega) (by decide)), if_neg (show ¬ (2 : Int32) ≤ nI (m - p) from nI_ge (b := 2) (by omega) (by decide))]
    obtain ⟨s1, t1, es1, et1, f1⟩ := ft_meet (f := 1) (p := nI m) F Hz hss (by decide)
    rw [lt_eq, lt_eq, es1, et1]
    exact both_ret (Or.inl ⟨rfl, f1⟩)
