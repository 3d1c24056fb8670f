def O_picture (Inv : Mem → Prop) : Prop := ∀ σ p1 p2 p3 p4, Inv σ → ∃ t k σ1 q, f_LF_picture 0 p1 p2 p3 p4 σ = some t ∧ HRes [(3, 1)] (xrIM t) k σ1 ∧ f_RM_picture 56 p1 p2 p3 p4 σ1 = some q ∧ q.2 56 1 = k ∧ (k = 0 → q.2 82 0 = q.1) ∧ Inv q.2
def O_put (Inv : Mem → Prop) : Prop := ∀ σ p1 p2 p3 p4, Inv σ → ∃ k σ1 q, HRes [(1, 1), (2, 2), (3, 3)] (xrIM (f_LF_put 0 p1 p2 p3 p4 σ)) k σ1 ∧ f_RM_put 56 p1 p2 p3 p4 σ1 = some q ∧ q.2 56 1 = k ∧ (k = 0 → q.2 82 0 = q.1) ∧ Inv q.2
def O_preset (Inv : Mem → Prop) : Prop := ∀ σ p1 p2, Inv σ → ∃ k σ1, HRes [(1, 1), (3, 2)] (xrIM (f_LF_preset 0 p1 p2 σ)) k σ1 ∧ (f_RM_preset 56 p1 p2 σ1).2 56 1 = k ∧ (k = 0 → (f_RM_preset 56 p1 p2 σ1).2 82 0 = (f_RM_preset 56 p1 p2 σ1).1) ∧ Inv (f_RM_preset 56 p1 p2 σ1).2
def O_table (Inv : Mem → Prop) : Prop := ∀ σ p1 p2 p3, Inv σ → ∃ t k σ1 q, f_LF_table 0 p1 p2 p3 σ = some t ∧ HRes [(1, 1), (2, 2), (3, 3)] (xrIM t) k σ1 ∧ f_RM_table 56 p1 p2 p3 σ1 = some q ∧ q.2 56 1 = k ∧ (k = 0 → q.2 82 0 = q.1) ∧ Inv q.2
def O_note (Inv : Mem → Prop) : Prop := ∀ σ p1, Inv σ → ∃ k σ1 q, HRes [(1, 1), (3, 2), (4, 3)] (xrIM (f_LF_note 0 p1 σ)) k σ1 ∧ f_RM_note 56 p1 σ1 = some q ∧ q.2 56 1 = k ∧ (k = 0 → q.2 82 0 = q.1) ∧ Inv q.2
def O_byteOf (Inv : Mem → Prop) : Prop := ∀ σ p1 p2, Inv σ → ∃ k σ1 q, HRes [(1, 1), (2, 2), (3, 3), (4, 4)] (xrIM (f_LF_byteOf 0 p1 p2 σ)) k σ1 ∧ f_RM_byteOf 56 p1 p2 σ1 = some q ∧ q.2 56 1 = k ∧ (k = 0 → q.2 82 0 = q.1) ∧ Inv q.2
def O_write (Inv : Mem → Prop) : Prop := ∀ σ p1, Inv σ → ∃ t k σ1 q, f_LF_write 0 p1 σ = some t ∧ HRes [(1, 1), (3, 2)] (xrIM t) k σ1 ∧ f_RM_write 56 p1 σ1 = some q ∧ q.2 56 1 = k ∧ (k = 0 → q.2 82 0 = q.1) ∧ Inv q.2
def O_byteAt (Inv : Mem → Prop) : Prop := ∀ σ p1, Inv σ → ∃ k σ1 q, HRes [(2, 1)] (xrI (f_LF_byteAt 0 p1 σ) σ) k σ1 ∧ f_RM_byteAt 56 p1 σ1 = some q ∧ q.2 56 1 = k ∧ (k = 0 → q.2 82 0 = q.1) ∧ Inv q.2
def O_feed (Inv : Mem → Prop) : Prop := ∀ σ p1, Inv σ → ∃ k σ1 q, HRes [(3, 1), (4, 2)] (xrIM (f_LF_feed 0 p1 σ)) k σ1 ∧ f_RM_feed 56 p1 σ1 = some q ∧ q.2 56 1 = k ∧ (k = 0 → q.2 82 0 = q.1) ∧ Inv q.2
def O_pass (Inv : Mem → Prop) : Prop := ∀ σ p1 p2, Inv σ → ∃ t k σ1 q, f_LF_pass 0 p1 p2 σ = some t ∧ HRes [(2, 1), (3, 2), (4, 3)] (xrIM t) k σ1 ∧ f_RM_pass 56 p1 p2 σ1 = some q ∧ q.2 56 1 = k ∧ (k = 0 → q.2 82 0 = q.1) ∧ Inv q.2
def O_alter (Inv : Mem → Prop) : Prop := ∀ σ p1 p2, Inv σ → ∃ k σ1 q, HRes [(2, 1), (3, 2)] (xrIM (f_LF_alter 0 p1 p2 σ)) k σ1 ∧ f_RM_alter 56 p1 p2 σ1 = some q ∧ q.2 56 1 = k ∧ (k = 0 → q.2 82 0 = q.1) ∧ Inv q.2
def O_read (Inv : Mem → Prop) : Prop := ∀ σ, Inv σ → ∃ q1 q2, f_LF_read 0 σ = some q1 ∧ f_RM_read 56 q1.2 = some q2 ∧ q1.1 = q2.1 ∧ Inv q2.2
def O_at_ (Inv : Mem → Prop) : Prop := ∀ σ p1 p2 p3 p4, (p4 = 0 ∨ p4 = 1) → Inv σ → ∃ k σ1 q, HRes [(1, 1), (2, 2)] (xrI (f_LF_at 0 p1 p2 p3 p4 σ) σ) k σ1 ∧ f_RM_at 56 p1 p2 p3 p4 σ1 = some q ∧ q.2 56 1 = k ∧ (k = 0 → q.2 82 0 = q.1) ∧ Inv q.2
def O_found (Inv : Mem → Prop) : Prop := ∀ σ p1, Inv σ → ∃ k σ1 q, HRes [(1, 1)] (xrI (f_LF_found 0 p1 σ) σ) k σ1 ∧ f_RM_found 56 p1 σ1 = some q ∧ q.2 56 1 = k ∧ (k = 0 → q.2 82 0 = q.1) ∧ Inv q.2
def O_noteAt (Inv : Mem → Prop) : Prop := ∀ σ p1 p2, Inv σ → ∃ k σ1 q, HRes [(1, 1), (2, 2)] (xrI (f_LF_noteAt 0 p1 p2 σ) σ) k σ1 ∧ f_RM_noteAt 56 p1 p2 σ1 = some q ∧ q.2 56 1 = k ∧ (k = 0 → q.2 82 0 = q.1) ∧ Inv q.2
def O_told (Inv : Mem → Prop) : Prop := ∀ σ p1, Inv σ → f_LF_told 0 p1 σ = (f_RM_told 56 p1 σ).1 ∧ Inv (f_RM_told 56 p1 σ).2
def O_drop (Inv : Mem → Prop) : Prop := ∀ σ, Inv σ → Inv (f_RM_drop 56 (f_LF_drop 0 σ))
def Owed (Inv : Mem → Prop) : Prop := O_picture Inv ∧ O_put Inv ∧ O_preset Inv ∧ O_table Inv ∧ O_note Inv ∧ O_byteOf Inv ∧ O_write Inv ∧ O_byteAt Inv ∧ O_feed Inv ∧ O_pass Inv ∧ O_alter Inv ∧ O_read Inv ∧ O_at_ Inv ∧ O_found Inv ∧ O_noteAt Inv ∧ O_told Inv ∧ O_drop Inv
theorem Owed.picture {Inv : Mem → Prop} (h : Owed Inv) : O_picture Inv := h.1
theorem Owed.put {Inv : Mem → Prop} (h : Owed Inv) : O_put Inv := h.2.1
theorem Owed.preset {Inv : Mem → Prop} (h : Owed Inv) : O_preset Inv := h.2.2.1
theorem Owed.table {Inv : Mem → Prop} (h : Owed Inv) : O_table Inv := h.2.2.2.1
theorem Owed.note {Inv : Mem → Prop} (h : Owed Inv) : O_note Inv := h.2.2.2.2.1
theorem Owed.byteOf {Inv : Mem → Prop} (h : Owed Inv) : O_byteOf Inv := h.2.2.2.2.2.1
theorem Owed.write {Inv : Mem → Prop} (h : Owed Inv) : O_write Inv := h.2.2.2.2.2.2.1
theorem Owed.byteAt {Inv : Mem → Prop} (h : Owed Inv) : O_byteAt Inv := h.2.2.2.2.2.2.2.1
theorem Owed.feed {Inv : Mem → Prop} (h : Owed Inv) : O_feed Inv := h.2.2.2.2.2.2.2.2.1
theorem Owed.pass {Inv : Mem → Prop} (h : Owed Inv) : O_pass Inv := h.2.2.2.2.2.2.2.2.2.1
theorem Owed.alter {Inv : Mem → Prop} (h : Owed Inv) : O_alter Inv := h.2.2.2.2.2.2.2.2.2.2.1
theorem Owed.read {Inv : Mem → Prop} (h : Owed Inv) : O_read Inv := h.2.2.2.2.2.2.2.2.2.2.2.1
theorem Owed.at_ {Inv : Mem → Prop} (h : Owed Inv) : O_at_ Inv := h.2.2.2.2.2.2.2.2.2.2.2.2.1
theorem Owed.found {Inv : Mem → Prop} (h : Owed Inv) : O_found Inv := h.2.2.2.2.2.2.2.2.2.2.2.2.2.1
theorem Owed.noteAt {Inv : Mem → Prop} (h : Owed Inv) : O_noteAt Inv := h.2.2.2.2.2.2.2.2.2.2.2.2.2.2.1
theorem Owed.told {Inv : Mem → Prop} (h : Owed Inv) : O_told Inv := h.2.2.2.2.2.2.2.2.2.2.2.2.2.2.2.1
theorem Owed.drop {Inv : Mem → Prop} (h : Owed Inv) : O_drop Inv := h.2.2.2.2.2.2.2.2.2.2.2.2.2.2.2.2
set_option maxHeartbeats 4000000 in
set_option maxRecDepth 100000 in
theorem law_turn {F : Lx} {Inv : Mem → Prop} {σ : Mem} {cells slots : Nat} {i : Int32} (C : LCtx F) (O : Owed Inv) (hI : Inv σ) (hc : cells + 1 ≤ 601024) (hs : slots + 6 ≤ 7293000) (h0 : vp_in i (lL F)) (h1 : vp_in (i + 1) (lL F)) (h2 : vp_in (i + 2) (lL F)) (h3 : vp_in (i + 3) (lL F)) (h4 : vp_in (i + 4) (lL F)) (K : ∀ σ2, Inv σ2 → LW F σ2 (cells + 1) (slots + 6) 1173 [(4, .int i), (3, .ref (lad F 82)), (2, .ref (lad F 56)), (1, .ref (lad F 0)), (0, .ref (lb F))] []) : LW F σ cells slots 42 [(4, .int i), (3, .ref (lad F 82)), (2, .ref (lad F 56)), (1, .ref (lad F 0)), (0, .ref (lb F))] [] := by
  have hc0 : cells ≤ 601024 := Nat.le_of_succ_le hc
  have hs0 : slots ≤ 7293000 := Nat.le_trans (Nat.le_add_right _ _) hs
  have K0 : ∀ σ2, Inv σ2 → LW F σ2 cells slots 1173 [(4, .int i), (3, .ref (lad F 82)), (2, .ref (lad F 56)), (1, .ref (lad F 0)), (0, .ref (lb F))] [] := fun σ2 h => l_widen (Nat.le_succ _) (Nat.le_add_right _ _) (K σ2 h)
  refine l_aload_n C d_law_42 4 rfl ?_
  refine l_iload C d_law_43 0 rfl ?_
  refine l_sld C h0 d_law_45 ?_
  refine l_bipush (v := 31) C d_law_46 (by decide) ?_
  refine l_iand C d_law_48 ?_
  generalize (lxs F i.toNatClampNeg) &&& 31 = x
  by_cases e0 : x = 0
  · refine l_tin (tgt := 132) C d_law_49 e0 (by decide) (by decide) rfl (by decide) ?_
    obtain ⟨t, k, σ1, q, a0, a1, a2, a3, a4, a5⟩ := O.picture σ (sA F i 1) (sA F i 2) (sA F i 3) (sA F i 4) hI
    exact law_0 C hc hs h1 h2 h3 h4 a0 a1 a2 a3 a4 (K _ a5)
  by_cases e1 : x = 1
  · refine l_tin (tgt := 224) C d_law_49 e1 (by decide) (by decide) rfl (by decide) ?_
    obtain ⟨k, σ1, q, a1, a2, a3, a4, a5⟩ := O.put σ (sA F i 1) (sA F i 2) (sA F i 3) (sA F i 4) hI
    exact law_1 C hc hs h1 h2 h3 h4 a1 a2 a3 a4 (K _ a5)
  by_cases e2 : x = 2
  · refine l_tin (tgt := 316) C d_law_49 e2 (by decide) (by decide) rfl (by decide) ?_
    obtain ⟨k, σ1, a1, a3, a4, a5⟩ := O.preset σ (sA F i 1) (sA F i 2) hI
    exact law_2 C hc hs h1 h2 a1 a3 a4 (K _ a5)
  by_cases e3 : x = 3
  · refine l_tin (tgt := 384) C d_law_49 e3 (by decide) (by decide) rfl (by decide) ?_
    obtain ⟨t, k, σ1, q, a0, a1, a2, a3, a4, a5⟩ := O.table σ (sA F i 1) (sA F i 2) (sA F i 3) hI
    exact law_3 C hc hs h1 h2 h3 a0 a1 a2 a3 a4 (K _ a5)
  by_cases e4 : x = 4
  · refine l_tin (tgt := 464) C d_law_49 e4 (by decide) (by decide) rfl (by decide) ?_
    obtain ⟨k, σ1, q, a1, a2, a3, a4, a5⟩ := O.note σ (sA F i 1) hI
    exact law_4 C hc hs h1 a1 a2 a3 a4 (K _ a5)
  by_cases e5 : x = 5
  · refine l_tin (tgt := 520) C d_law_49 e5 (by decide) (by decide) rfl (by decide) ?_
    obtain ⟨k, σ1, q, a1, a2, a3, a4, a5⟩ := O.byteOf σ (sA F i 1) (sA F i 2) hI
    exact law_5 C hc hs h1 h2 a1 a2 a3 a4 (K _ a5)
  by_cases e6 : x = 6
  · refine l_tin (tgt := 588) C d_law_49 e6 (by decide) (by decide) rfl (by decide) ?_
    obtain ⟨t, k, σ1, q, a0, a1, a2, a3, a4, a5⟩ := O.write σ (sA F i 1) hI
    exact law_6 C hc hs h1 a0 a1 a2 a3 a4 (K _ a5)
  by_cases e7 : x = 7
  · refine l_tin (tgt := 644) C d_law_49 e7 (by decide) (by decide) rfl (by decide) ?_
    obtain ⟨k, σ1, q, a1, a2, a3, a4, a5⟩ := O.byteAt σ (sA F i 1) hI
    exact law_7 C hc hs h1 a1 a2 a3 a4 (K _ a5)
  by_cases e8 : x = 8
  · refine l_tin (tgt := 700) C d_law_49 e8 (by decide) (by decide) rfl (by decide) ?_
    obtain ⟨k, σ1, q, a1, a2, a3, a4, a5⟩ := O.feed σ (sA F i 1) hI
    exact law_8 C hc hs h1 a1 a2 a3 a4 (K _ a5)
  by_cases e9 : x = 9
  · refine l_tin (tgt := 756) C d_law_49 e9 (by decide) (by decide) rfl (by decide) ?_
    obtain ⟨t, k, σ1, q, a0, a1, a2, a3, a4, a5⟩ := O.pass σ (sA F i 1) (sA F i 2) hI
    exact law_9 C hc hs h1 h2 a0 a1 a2 a3 a4 (K _ a5)
  by_cases e10 : x = 10
  · refine l_tin (tgt := 824) C d_law_49 e10 (by decide) (by decide) rfl (by decide) ?_
    obtain ⟨k, σ1, q, a1, a2, a3, a4, a5⟩ := O.alter σ (sA F i 1) (sA F i 2) hI
    exact law_10 C hc hs h1 h2 a1 a2 a3 a4 (K _ a5)
  by_cases e11 : x = 11
  · refine l_tin (tgt := 892) C d_law_49 e11 (by decide) (by decide) rfl (by decide) ?_
    obtain ⟨q1, q2, a1, a2, a3, a4⟩ := O.read σ hI
    exact law_11 C hc0 hs0 a1 a2 a3 (K0 _ a4)
  by_cases e12 : x = 12
  · refine l_tin (tgt := 905) C d_law_49 e12 (by decide) (by decide) rfl (by decide) ?_
    by_cases hz : sA F i 4 = 0
    · obtain ⟨k, σ1, q, a1, a2, a3, a4, a5⟩ := O.at_ σ (sA F i 1) (sA F i 2) (sA F i 3) 0 (Or.inl rfl) hI
      exact law_12a C hc hs h1 h2 h3 h4 hz a1 a2 a3 a4 (K _ a5)
    · obtain ⟨k, σ1, q, a1, a2, a3, a4, a5⟩ := O.at_ σ (sA F i 1) (sA F i 2) (sA F i 3) 1 (Or.inr rfl) hI
      exact law_12b C hc hs h1 h2 h3 h4 hz a1 a2 a3 a4 (K _ a5)
  by_cases e13 : x = 13
  · refine l_tin (tgt := 1013) C d_law_49 e13 (by decide) (by decide) rfl (by decide) ?_
    obtain ⟨k, σ1, q, a1, a2, a3, a4, a5⟩ := O.found σ (sA F i 1) hI
    exact law_13 C hc hs h1 a1 a2 a3 a4 (K _ a5)
  by_cases e14 : x = 14
  · refine l_tin (tgt := 1069) C d_law_49 e14 (by decide) (by decide) rfl (by decide) ?_
    obtain ⟨k, σ1, q, a1, a2, a3, a4, a5⟩ := O.noteAt σ (sA F i 1) (sA F i 2) hI
    exact law_14 C hc hs h1 h2 a1 a2 a3 a4 (K _ a5)
  by_cases e15 : x = 15
  · refine l_tin (tgt := 1137) C d_law_49 e15 (by decide) (by decide) rfl (by decide) ?_
    obtain ⟨a1, a2⟩ := O.told σ (sA F i 1) hI
    exact law_15 C hc0 hs0 h1 a1 (K0 _ a2)
  by_cases e16 : x = 16
  · refine l_tin (tgt := 1162) C d_law_49 e16 (by decide) (by decide) rfl (by decide) ?_
    exact law_16 C hc0 hs0 (K0 _ (O.drop σ hI))
  refine l_tout (tgt := 1173) C d_law_49 (by decide) ?_ (K0 _ hI)
  have f0 := lv_neT e0 (a := 0) (by decide)
  have f1 := lv_neT e1 (a := 1) (by decide)
  have f2 := lv_neT e2 (a := 2) (by decide)
  have f3 := lv_neT e3 (a := 3) (by decide)
  have f4 := lv_neT e4 (a := 4) (by decide)
  have f5 := lv_neT e5 (a := 5) (by decide)
  have f6 := lv_neT e6 (a := 6) (by decide)
  have f7 := lv_neT e7 (a := 7) (by decide)
  have f8 := lv_neT e8 (a := 8) (by decide)
  have f9 := lv_neT e9 (a := 9) (by decide)
  have f10 := lv_neT e10 (a := 10) (by decide)
  have f11 := lv_neT e11 (a := 11) (by decide)
  have f12 := lv_neT e12 (a := 12) (by decide)
  have f13 := lv_neT e13 (a := 13) (by decide)
  have f14 := lv_neT e14 (a := 14) (by decide)
  have f15 := lv_neT e15 (a := 15) (by decide)
  have f16 := lv_neT e16 (a := 16) (by decide)
  omega
theorem law_gt {L i : Nat} (hL : L ≤ 2561) (hi : i ≤ 9999) (h : L < i + 5) : nI L - 5 < nI i := by
  rw [Int32.lt_iff_toInt_lt, Int32.toInt_sub, nI_toInt (by omega), nI_toInt (by omega), show (5 : Int32).toInt = 5 from rfl, Int.bmod_eq_of_le (by omega) (by omega)]
  omega
theorem law_loop {F : Lx} {Inv : Mem → Prop} (C : LCtx F) (O : Owed Inv) (hL : lL F ≤ 2561) : ∀ (n t : Nat) (σ : Mem) (cells slots : Nat), Inv σ → 5 * t ≤ 2561 → lL F + 5 ≤ 5 * t + 5 * n + 1 + 5 → cells + n ≤ 601024 → slots + 6 * n ≤ 7293000 → LW F σ cells slots 33 [(4, .int (nI (5 * t + 1))), (3, .ref (lad F 82)), (2, .ref (lad F 56)), (1, .ref (lad F 0)), (0, .ref (lb F))] [] := by
  intro n
  have hl5 : Int32.ofNat (lL F) = nI (lL F) := rfl
  induction n with
  | zero =>
    intro t σ cells slots hI ht hn hc hs
    refine l_iload C d_law_33 0 rfl ?_
    refine l_aload_n C d_law_35 4 rfl ?_
    refine l_slen C d_law_36 ?_
    refine l_iconst (v := 5) C d_law_37 (by decide) ?_
    refine l_isub C d_law_38 ?_
    refine l_icmp_gt (tgt := 1179) C d_law_39 (by decide) (fun _ => l_ret C (by omega) (by omega) d_law_1179 d_law_1180) (fun c9 => ?_)
    exact absurd (law_gt (by omega) (by omega) (by omega)) c9
  | succ n ih =>
    intro t σ cells slots hI ht hn hc hs
    refine l_iload C d_law_33 0 rfl ?_
    refine l_aload_n C d_law_35 4 rfl ?_
    refine l_slen C d_law_36 ?_
    refine l_iconst (v := 5) C d_law_37 (by decide) ?_
    refine l_isub C d_law_38 ?_
    refine l_icmp_gt (tgt := 1179) C d_law_39 (by decide) (fun _ => l_ret C (by omega) (by omega) d_law_1179 d_law_1180) (fun c9 => ?_)
    have hlt : 5 * t + 1 + 5 ≤ lL F := by
      rcases Nat.lt_or_ge (lL F) (5 * t + 1 + 5) with q | q
      · exact absurd (law_gt (by omega) (by omega) q) c9
      · exact q
    have hv : ∀ c : Nat, c < 5 → vp_in (nI (5 * t + 1 + c)) (lL F) := fun c h => nI_in (by omega) (by omega)
    refine law_turn C O hI (by omega) (by omega) (hv 0 (by omega)) (by rw [show nI (5 * t + 1) + 1 = nI (5 * t + 1 + 1) from nI_add _ 1]; exact hv 1 (by omega)) (by rw [show nI (5 * t + 1) + 2 = nI (5 * t + 1 + 2) from nI_add _ 2]; exact hv 2 (by omega)) (by rw [show nI (5 * t + 1) + 3 = nI (5 * t + 1 + 3) from nI_add _ 3]; exact hv 3 (by omega)) (by rw [show nI (5 * t + 1) + 4 = nI (5 * t + 1 + 4) from nI_add _ 4]; exact hv 4 (by omega)) (fun σ2 h2 => ?_)
    refine l_iinc (k := 0) (v := nI (5 * (t + 1) + 1)) C d_law_1173 rfl (by rw [show (Int32.ofInt 5 : Int32) = nI 5 from rfl, nI_add]; congr 1) (by decide) rfl ?_
    refine l_goto (tgt := 33) C d_law_1176 (by decide) ?_
    exact ih (t + 1) σ2 (cells + 1) (slots + 6) h2 (by omega) (by omega) (by omega) (by omega)
