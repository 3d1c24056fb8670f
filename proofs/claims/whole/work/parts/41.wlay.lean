/-! writing: bytes laid side by side -/
set_option maxRecDepth 100000 in
set_option maxHeartbeats 4000000 in
theorem lt_eq {α β : Type} {e : α} {K : α → β} : lt e K = K e := Eq.trans rfl rfl
def byt (x : Int32) : Prop := ∃ v : Nat, v ≤ 255 ∧ x = nI v
def WF (fz : Nat) (σ0 σ : Mem) : Prop := ∀ k, ¬ (k = 17 ∨ k = 18 ∨ k = 22 ∨ k = 24 ∨ k = 26 ∨ k = 28 ∨ (k = 29 ∧ fz = 0)) → σ k = σ0 k
def WG (τ0 τ : Mem) : Prop := (∀ k, ¬ (k = 56 ∨ k = 63 ∨ k = 79 ∨ k = 80 ∨ k = 81) → τ k = τ0 k) ∧ ∀ j, ¬ (j = 17 ∨ (56 ≤ j ∧ j ≤ 59)) → τ 56 j = τ0 56 j
def WS (fz : Nat) (σ0 τ0 σ τ : Mem) (n : Nat) : Prop := WF fz σ0 σ ∧ WG τ0 τ ∧ RSt σ τ n
set_option maxRecDepth 100000 in
set_option maxHeartbeats 4000000 in
theorem WF.put {fz : Nat} {σ0 σ : Mem} {k j : Nat} {v : Int32} (h : WF fz σ0 σ) (hk : k = 17 ∨ k = 18 ∨ k = 22 ∨ k = 24 ∨ k = 26 ∨ k = 28 ∨ (k = 29 ∧ fz = 0)) : WF fz σ0 (mput σ k j v) := by
  intro a ha
  rw [mput_cell (by intro z; subst z; exact ha hk), h a ha]
set_option maxRecDepth 100000 in
set_option maxHeartbeats 4000000 in
theorem WG.put {τ0 τ : Mem} {k j : Nat} {v : Int32} (h : WG τ0 τ) (hk : k = 63 ∨ k = 79 ∨ k = 80 ∨ k = 81) : WG τ0 (mput τ k j v) :=
  ⟨fun a ha => by rw [mput_cell (by omega), h.1 a ha], fun i hi => by rw [mput_cell (by omega), h.2 i hi]⟩
set_option maxRecDepth 100000 in
set_option maxHeartbeats 4000000 in
theorem WG.put56 {τ0 τ : Mem} {j : Nat} {v : Int32} (h : WG τ0 τ) (hj : j = 17 ∨ (56 ≤ j ∧ j ≤ 59)) : WG τ0 (mput τ 56 j v) :=
  ⟨fun a ha => by rw [mput_cell (by omega), h.1 a ha], fun i hi => by rw [mput_app, if_neg (by intro z; exact hi (z.2 ▸ hj)), h.2 i hi]⟩
set_option maxRecDepth 100000 in
set_option maxHeartbeats 4000000 in
theorem WS.pic {fz : Nat} {σ0 τ0 σ τ : Mem} {n w h b c nn rs st rt : Nat} (H : WS fz σ0 τ0 σ τ n) (P : RPic σ0 τ0 w h b c nn rs st rt) : RPic σ τ w h b c nn rs st rt :=
  P.congr (fun k _ _ => H.1 k (by omega)) (fun j _ _ => H.2.1.2 j (by omega)) (fun k _ _ => H.2.1.1 k (by omega))
set_option maxRecDepth 100000 in
set_option maxHeartbeats 4000000 in
theorem rm_lay {τ : Mem} {n : Nat} {x : Int32} (h : τ 56 17 = nI n) (hn : n < 9000) : f_RM_lay 56 x τ = some (mput (mput τ 63 n x) 56 17 (nI (n + 1))) := by
  unfold f_RM_lay lt
  simp only [wt_0_1, wt_0_2, wt_0_3, wt_0_4, wt_0_5, wt_1_0, wt_1_1, wt_1_2, wt_1_3, wt_1_4, wt_2_0, wl_3, wt_4_0, wl_5, wt_6_0, wl_7, wt_8_0, wl_9, wt_10_0, wt_10_1, wt_10_2, wt_11_0, wl_12, wt_13_0, wl_14, wt_15_0, wl_16, wt_17_0, wl_18, wt_19_0, wl_20, wt_21_0, wt_21_1, wt_21_2, wt_21_3, wt_22_0, wt_22_1, wt_22_2, wt_23_0, wl_24, wt_25_0, wl_26, wt_27_0, wl_28, wt_29_0, wt_30_0, wt_30_1, wt_30_2, wt_30_3, wt_30_4, wt_30_5, wt_31_0, wt_31_1, wt_31_2, wt_31_3, wt_31_4, wt_32_0, wl_33, wt_34_0, wl_35, wt_36_0, wl_37, wt_38_0, wl_39, wt_40_0, wt_40_1, wt_40_2, wt_41_0, wl_42, wt_43_0, wl_44, wt_45_0, wl_46, wt_48_0, wt_48_1, wt_49_0, wt_49_1, wt_49_2, wt_50_0, wl_51, wt_52_0, wl_53, wt_54_0, wl_55, wt_56_6, wt_56_7, wt_56_8, wt_56_13, wt_56_14, wt_56_15, wt_56_16, wt_56_18, wt_56_21, wt_56_22, wt_56_23, wt_56_24, wt_56_25, wt_56_26, wt_56_27, wt_56_44, wt_56_45, wt_56_46, wt_56_47, wt_56_48, wt_56_49, wt_56_50, wt_56_51, wt_56_52, wt_56_53, wl_57, wl_58, wl_59, wl_60, wl_61, wl_62, wl_63, wl_64, wl_65, wl_66, wl_67, wl_68, wl_69, wl_70, wl_71, wl_72, wl_73, wl_74, wl_75, wl_76, wl_77, wl_78, wl_79, wl_80, wl_81, wl_82, h]
  rw [if_pos (inb_nI hn (by decide)), nI_clamp (by omega), mput_cell (by decide), h, nI_1]
set_option maxRecDepth 100000 in
set_option maxHeartbeats 4000000 in
theorem w_add {σ : Mem} {n : Nat} {x : Int32} (h : σ 17 1 = nI n) (hn : n < 6000) : f_BY_add 17 x σ = mput (mput σ 18 n x) 17 1 (nI (n + 1)) :=
  by_add (k := 17) (a := 18) (by decide +kernel) (by decide +kernel) h hn (by decide)
set_option maxRecDepth 100000 in
set_option maxHeartbeats 4000000 in
theorem RSt.lay {σ τ : Mem} {n : Nat} {x : Int32} (H : RSt σ τ n) (hn : n < 6000) (hx : byt x) : RSt (mput (mput σ 18 n x) 17 1 (nI (n + 1))) (mput (mput τ 63 n x) 56 17 (nI (n + 1))) (n + 1) := by
  obtain ⟨h1, h2, h3, h4, h5⟩ := H
  obtain ⟨v, hv, rfl⟩ := hx
  unfold RSt
  simp only [mput_row, mput_cell, Nat.reduceEqDiff, not_false_eq_true]
  exact ⟨by simp [upd], by simp [upd], by omega, eqn_upd h4, bnd_upd h5 hv⟩
set_option maxRecDepth 100000 in
set_option maxHeartbeats 4000000 in
theorem WS.lay {fz : Nat} {σ0 τ0 σ τ : Mem} {n : Nat} {x : Int32} (H : WS fz σ0 τ0 σ τ n) (hn : n < 6000) (hx : byt x) : WS fz σ0 τ0 (mput (mput σ 18 n x) 17 1 (nI (n + 1))) (mput (mput τ 63 n x) 56 17 (nI (n + 1))) (n + 1) :=
  ⟨(H.1.put (by omega)).put (by omega), (H.2.1.put (by decide)).put56 (by decide), H.2.2.lay hn hx⟩
set_option maxRecDepth 100000 in
set_option maxHeartbeats 4000000 in
theorem b_lay {γ δ : Type} {fz : Nat} {σ0 τ0 σ τ : Mem} {n : Nat} {x : Int32} {f : Mem → Option γ} {g : Mem → Option δ} {Q : γ → δ → Prop} (H : WS fz σ0 τ0 σ τ n) (hn : n < 6000) (hx : byt x) (K : ∀ σ1 τ1, WS fz σ0 τ0 σ1 τ1 (n + 1) → Both (f σ1) (g τ1) Q) : Both (lt (f_BY_add 17 x σ) f) ((f_RM_lay 56 x τ).bind g) Q := by
  rw [rm_lay H.2.2.2.1 (by omega), w_add H.2.2.1 hn]
  exact K _ _ (H.lay hn hx)
set_option maxRecDepth 100000 in
set_option maxHeartbeats 4000000 in
theorem shn_31 : ∀ r, r < 32 → ((nI r &&& 31).toBitVec.smod 32).toNat = r := by decide +kernel
set_option maxRecDepth 100000 in
set_option maxHeartbeats 4000000 in
theorem nI_shr {v r : Nat} (hv : v < 2 ^ 31) (hr : r < 32) : nI v >>> (nI r &&& 31) = nI (v / 2 ^ r) := by
  have hq : v / 2 ^ r < 2 ^ 31 := Nat.lt_of_le_of_lt (Nat.div_le_self _ _) hv
  rw [← Int32.toInt_inj, nI_toInt hq]
  show (nI v >>> (nI r &&& 31)).toBitVec.toInt = _
  rw [Int32.toBitVec_shiftRight, BitVec.sshiftRight_eq', shn_31 r hr, BitVec.toInt_sshiftRight]
  show (nI v).toInt >>> r = _
  rw [nI_toInt hv, Int.shiftRight_eq_div_pow]
  rfl
set_option maxRecDepth 100000 in
set_option maxHeartbeats 4000000 in
theorem nI_and {v r : Nat} (hv : v < 2 ^ 31) (hr : r < 31) : nI v &&& nI (2 ^ r - 1) = nI (v % 2 ^ r) := by
  have h1 : 2 ^ r ≤ 2 ^ 30 := Nat.pow_le_pow_right (by decide) (by omega)
  have h2 : 1 ≤ 2 ^ r := Nat.one_le_two_pow
  have h3 : v % 2 ^ r < 2 ^ r := Nat.mod_lt _ (by omega)
  rw [← Int32.toBitVec_inj, Int32.toBitVec_and]
  apply BitVec.eq_of_toNat_eq
  have e : ∀ x, x < 2 ^ 31 → (nI x).toBitVec.toNat = x := by
    intro x hx
    show (BitVec.ofNat 32 x).toNat = x
    rw [BitVec.toNat_ofNat, Nat.mod_eq_of_lt (by omega)]
  rw [BitVec.toNat_and, e _ hv, e _ (by omega), e _ (by omega), Nat.and_two_pow_sub_one_eq_mod]
set_option maxRecDepth 100000 in
set_option maxHeartbeats 4000000 in
theorem nI_div {a b : Nat} (ha : a < 2 ^ 31) (hb : b < 2 ^ 31) : nI a / nI b = nI (a / b) := (Int32.ofNat_div ha hb).symm
set_option maxRecDepth 100000 in
set_option maxHeartbeats 4000000 in
theorem nI_mod {a b : Nat} (ha : a < 2 ^ 31) (hb : b < 2 ^ 31) : nI a - nI a / nI b * nI b = nI (a % b) := by
  rw [nI_div ha hb, nI_mul, nI_sub (Nat.div_mul_le_self a b)]
  congr 1
  have := Nat.div_add_mod a b
  rw [Nat.mul_comm] at this
  omega
set_option maxRecDepth 100000 in
set_option maxHeartbeats 4000000 in
theorem byt_n {v : Nat} (h : v ≤ 255) : byt (nI v) := ⟨v, h, rfl⟩
set_option maxRecDepth 100000 in
set_option maxHeartbeats 4000000 in
theorem byt_255 : byt 255 := ⟨255, Nat.le_refl _, rfl⟩
set_option maxRecDepth 100000 in
set_option maxHeartbeats 4000000 in
theorem b_wide {γ δ : Type} {fz : Nat} {σ0 τ0 σ τ : Mem} {n v : Nat} {f : Mem → Option γ} {g : Mem → Option δ} {Q : γ → δ → Prop} (H : WS fz σ0 τ0 σ τ n) (hn : n + 1 < 6000) (hv : v ≤ 65535) (K : ∀ σ1 τ1, WS fz σ0 τ0 σ1 τ1 (n + 2) → Both (f σ1) (g τ1) Q) : Both (lt (f_BY_addWide 17 (nI v) σ) f) ((f_RM_layWide 56 (nI v) τ).bind g) Q := by
  have e1 : nI v >>> ((8 : Int32) &&& 31) = nI (v / 256) := nI_shr (r := 8) (by omega) (by decide)
  have e2 : nI v &&& 255 = nI (v % 256) := nI_and (r := 8) (by omega) (by decide)
  have e3 : nI v / 256 = nI (v / 256) := nI_div (b := 256) (by omega) (by decide)
  have e4 : nI v - nI v / 256 * 256 = nI (v % 256) := nI_mod (b := 256) (by omega) (by decide)
  have e5 : lt (f_BY_addWide 17 (nI v) σ) f = lt (f_BY_add 17 (nI (v / 256)) σ) fun σ1 => lt (f_BY_add 17 (nI (v % 256)) σ1) f := by
    rw [lt_eq, lt_eq, lt_eq, f_BY_addWide, lt_eq, lt_eq, e1, e2]
  have e6 : (f_RM_layWide 56 (nI v) τ).bind g = (f_RM_lay 56 (nI (v / 256)) τ).bind fun τ1 => (f_RM_lay 56 (nI (v % 256)) τ1).bind g := by
    unfold f_RM_layWide
    rw [e4, e3]
    simp only [Option.bind_assoc, Option.bind_some]
  rw [e5, e6]
  exact b_lay H (by omega) (byt_n (by omega)) fun σ1 τ1 H1 => b_lay H1 (by omega) (byt_n (by omega)) K
set_option maxRecDepth 100000 in
set_option maxHeartbeats 4000000 in
theorem b_mark {γ δ : Type} {fz : Nat} {σ0 τ0 σ τ : Mem} {n : Nat} {x : Int32} {f : Mem → Option γ} {g : Mem → Option δ} {Q : γ → δ → Prop} (H : WS fz σ0 τ0 σ τ n) (hn : n + 1 < 6000) (hx : byt x) (K : ∀ σ1 τ1, WS fz σ0 τ0 σ1 τ1 (n + 2) → Both (f σ1) (g τ1) Q) : Both (lt (f_SW_mark 21 x σ) f) ((f_RM_lay 56 255 τ).bind fun τ1 => (f_RM_lay 56 x τ1).bind g) Q := by
  have e5 : lt (f_SW_mark 21 x σ) f = lt (f_BY_add 17 255 σ) fun σ1 => lt (f_BY_add 17 x σ1) f := by
    rw [lt_eq, lt_eq, lt_eq, f_SW_mark, lt_eq, lt_eq, wt_21_1]
  rw [e5]
  exact b_lay H (by omega) byt_255 fun σ1 τ1 H1 => b_lay H1 (by omega) hx K
set_option maxRecDepth 100000 in
set_option maxHeartbeats 4000000 in
theorem b_seg {γ δ : Type} {fz : Nat} {σ0 τ0 σ τ : Mem} {n v : Nat} {x y : Int32} {f : Mem → Option γ} {g : Mem → Option δ} {Q : γ → δ → Prop} (H : WS fz σ0 τ0 σ τ n) (hn : n + 3 < 6000) (hx : byt x) (hy : y = nI v) (hv : v ≤ 65535) (K : ∀ σ1 τ1, WS fz σ0 τ0 σ1 τ1 (n + 4) → Both (f σ1) (g τ1) Q) : Both (lt (f_SW_segment 21 x y σ) f) ((f_RM_mark 56 x y τ).bind g) Q := by
  subst hy
  have e1 : lt (f_SW_segment 21 x (nI v) σ) f = lt (f_SW_mark 21 x σ) fun σ1 => lt (f_BY_addWide 17 (nI v) σ1) f := by
    rw [lt_eq, lt_eq, lt_eq, f_SW_segment, lt_eq, lt_eq, wt_21_1]
  have e2 : (f_RM_mark 56 x (nI v) τ).bind g = (f_RM_lay 56 255 τ).bind fun τ1 => (f_RM_lay 56 x τ1).bind fun τ2 => (f_RM_layWide 56 (nI v) τ2).bind g := by
    unfold f_RM_mark
    simp only [Option.bind_assoc, Option.bind_some]
  rw [e1, e2]
  refine b_mark H (by omega) hx (fun σ1 τ1 H1 => ?_)
  have H2 := b_wide (f := f) (g := g) (Q := Q) H1 (by omega) hv
  rw [show n + 2 + 2 = n + 4 by omega] at H2
  exact H2 K
