/-! a constructor called by a constructor -/
def MI (own : String) (idx : Nat) (y : MethodName) (bytes : ByteArray) (mL n : Nat) : Prop := MC own idx y bytes mL none n ∧ Cond.instanceMethod y ∈ lw_tbl ∧ y.name = "<init>"
theorem fm_map {α β : Type} {f : α → Option β} : ∀ {l : List α} {r : List β}, l.map f = r.map some → l.filterMap f = r
  | [], r, h => by cases r with | nil => rfl | cons a t => cases h
  | a :: l, r, h => by
    cases r with
    | nil => cases h
    | cons b t =>
      simp only [List.map_cons, List.cons.injEq] at h
      rw [List.filterMap_cons, h.1]
      simp only [fm_map h.2]
theorem i_call {F : Ix} {cc : ByteArray} {nL : Nat} {own : String} {fr lo mc ms : Nat} {w wr w0 : va_W} {cells slots pc : Nat} {lv : List (Nat × Value)} {stk : List Value} {idx n mL1 fr1 lo1 mc1 ms1 h : Nat} {y : MethodName} {bytes : ByteArray} {post : va_W → Prop} (C : ICtx F cc nL own fr lo mc ms) (hm : MI own idx y bytes mL1 n) (As st : List Value) (hct : CtrI F.1.2.1 F.2.2.1 F.2.2.2.1 y bytes mL1 fr1 lo1 mc1 ms1 (.ref h :: As) w0 post)
    (isC isR : List Nat) (hC : isC.map (fun i => w[i]?) = w0.map some) (hR : isR.map (fun i => w[i]?) = wr.map some) (hnC : va_nd isC = true) (hnR : va_nd isR = true) (hdis : ∀ i ∈ isR, i ∉ isC) (hn : As.length = n) (hRm : fr1 + 1 ≤ fr ∧ 8 + (mL1 + 11) + lo1 ≤ lo) (hc : cells + mc1 ≤ mc) (hs : slots + ms1 ≤ ms) (hst : stk = As.reverse ++ .ref h :: st) (hw : (st.map fun v => v.category).sum ≤ 8) (d : decode cc pc = .ok (.invokespecial idx, 3))
    (K : ∀ w1, post w1 → IW F nL (wr ++ w1) (cells + mc1) (slots + ms1) (pc + 3) lv st) : IW F nL w cells slots pc lv stk := by
  subst hst
  intro H locs ls hP hD hS hl T hT X
  have hRoom : F.1.2.2.2.1 = rmI fr lo mc ms := C.2.2.2.2.2.2.2.1
  obtain ⟨hmc, hi, hyn⟩ := hm
  have hpl : F.1.2.2.1.platform.magicAccessors = ({} : Platform).magicAccessors := by rw [X.admits.platform]
  have hlen : ∀ sig, parseMethodDescriptor y.desc = some sig → As.length = sig.parameters.length := by
    intro sig hsig
    have h2 := hmc.2.2.2.2
    rw [hsig] at h2
    rw [hn]
    exact (Option.some.inj h2).symm
  have hgo : ∃ mk vm', F.1.2.2.2.2.methodNamed? y = some mk ∧ F.1.2.2.2.2.WarmedH vm' ∧ ∀ target, (∀ acts, Steps F.1.1.tables F.1.2.2.1 F.2.1.2.2.1 (doInvoke F.1.2.2.1 ((T.setVm vm').setTop { F0 F.2.1.1 pc ls (As.reverse ++ .ref h :: st) with stack := st }) acts mk (.ref h :: As).toArray).1 target) → Steps F.1.1.tables F.1.2.2.1 F.2.1.2.2.1 (T.setTop (F0 F.2.1.1 pc ls (As.reverse ++ .ref h :: st))) target := by
    rcases hmc.1 with hlk | ⟨ho, hlk⟩
    · obtain ⟨mk, methM, cM, kP, vm₁, hnamed, -, -, -, -, -, -, -, hW₁, hst⟩ := Steps.initColdArgs (e := F.1.2.2.1) X.here C.1 X.warmed hpl C.2.2.2.1 hyn hmc.2.2.2.1 (C.wds hlk stb_ml) (C.wds hi stb_inst) (C.wds hmc.2.2.1 stb_code) (f := F0 F.2.1.1 pc ls (As.reverse ++ .ref h :: st)) rfl hlen rfl (by rw [C.2.1]; exact d)
      exact ⟨mk, vm₁, hnamed, hW₁, hst⟩
    · obtain ⟨mk, methM, cM, kP, vm₁, hnamed, -, -, -, -, -, -, -, hW₁, hst⟩ := Steps.initColdArgsNest (e := F.1.2.2.1) X.here C.1 X.warmed hpl C.2.2.2.1 hyn hmc.2.2.2.1 (C.wds hlk rfl) (C.wds hi stb_inst) (C.wds hmc.2.2.1 stb_code) (f := F0 F.2.1.1 pc ls (As.reverse ++ .ref h :: st)) rfl hlen rfl (by rw [C.2.1]; exact d)
      exact ⟨mk, vm₁, hnamed, hW₁, hst⟩
  obtain ⟨mk, vm₁, hnamed, hW₁, hst⟩ := hgo
  have X₁ := X.noted hW₁
  have hE2 : EnvI F.2.2.1 F.2.2.2.1 (T.setVm vm₁) := C.2.2.2.2.2.2.2.2.warm hW₁
  have hTH : (T.setVm vm₁).heap = H := hT
  have hPc : va_P F.2.2.1 vcl w0 (T.setVm vm₁).heap := by rw [hTH]; exact hP.sub isC (fm_map hC)
  obtain ⟨T', L, w1, X', hL, hpost, hP1, hD1, ⟨hF1, hF2⟩, hsteps⟩ := ct_goI X₁ (g := F0 F.2.1.1 pc ls st) (ig := .invokespecial idx) rfl (by show ls.size = _; rw [hl.1, C.2.2.1]) (by rw [C.2.1]; exact d) (lv_room hw) (X₁.named hnamed) hct (hE2.2.1 _ hmc.2.2.1 stb_code _) (hE2.2.1 _ hmc.2.1 stb_ini _) (by rw [hRoom]; exact hRm.1) (by rw [hRoom]; exact hRm.2) (by rw [hRoom]; exact hc) (by rw [hRoom]; exact hs) hPc ((hD.sub isC hnC hC).weaken (fun _ _ _ _ => trivial)) hE2
  rw [hTH] at hL hD1 hF1 hF2
  have hfree := va_free (wc := w0) hD hS va_A_new isC hC
  obtain ⟨hPj, hDj⟩ := va_join (wr := wr) (w1 := w1) hP hD isC isR hC hR hnR hdis hF2 hfree hP1 hD1
  have hS' : va_S (va_A F.2.2.2.2.1 F.1.2.2.2.2.heap.size) F.1.2.2.2.2.heap T'.heap (locs ++ L) := by
    refine ⟨Nat.le_trans hS.1 hF1, fun q h1 h2 => ?_, fun q hq => ?_⟩
    · rw [hF2 q (Nat.lt_of_lt_of_le h1 hS.1) (fun z => h2 (hfree q z))]
      exact hS.2.1 q h1 h2
    · rcases List.mem_append.mp hq with h | h
      · exact hS.2.2 q h
      · exact hfree _ (hL q h)
  obtain ⟨t, a1, b1⟩ := K w1 hpost T'.heap (locs ++ L) ls hPj hDj hS' hl T' rfl X'
  exact ⟨t, hst t (fun acts => by rw [doInvoke_state]; exact hsteps.trans a1), b1⟩
theorem imax_nI {N : Nat} (h : N < 2 ^ 31) : imax 0 (nI N) = nI N := by
  unfold imax
  by_cases h0 : (0 : Int32) < nI N
  · rw [if_pos h0]
  · rw [if_neg h0]
    have := Int32.not_lt.mp h0
    exact Int32.le_antisymm (nI_pos' h) this
