/-! ROWS over the world: fields, arrays -/
def Is (k c : Nat) : Prop := k < wN ∧ wkd k = c
def FL (own : String) (idx c j : Nat) : Prop := ∃ q : vw_C, vcl[c]? = some q ∧ j < q.2.2 ∧ q.2.2 = wnf c ∧ c < 100 ∧ (Cond.fieldLink own idx (q.2.1 j).1 (q.2.1 j).2.1 (q.2.1 j).2.2.1 ∈ lw_tbl ∨ ∃ h, Cond.fieldLinkNest own idx (q.2.1 j).1 (q.2.1 j).2.1 (q.2.1 j).2.2.1 h ∈ lw_tbl)
section JH
variable {β : Type} {F : Fx} {nL : Nat} {cv : β → Option Rs} {E A B : β} {σ : Mem} {pc : Nat} {lv : List (Nat × Value)} {st : List Value} {cc : ByteArray} {own : String} {ret : Option FieldType} {fr lo : Nat} {x y v i : Int32} {k c j idx : Nat}
theorem Ctx.wds (C : Ctx F cc nL own ret fr lo) {w : Cond} (h : w ∈ lw_tbl) (hg : stb w = true) : w.before F.2.1.2.1 F.1.2.2.2.2 = true := C.2.2.2.2.2.2.2.2.1.2.1 w h hg _
theorem Ctx.hown (C : Ctx F cc nL own ret fr lo) : F.1.2.2.2.2.vm.findClass own = some F.2.1.1.cls := C.2.2.2.1
theorem Ctx.env (C : Ctx F cc nL own ret fr lo) : Env0 F.2.2.1 F.2.2.2.1 F.2.2.2.2.1 F.1.2.2.2.2 F.1.2.2.2.2.heap := C.2.2.2.2.2.2.2.2.1
theorem Ctx.K (C : Ctx F cc nL own ret fr lo) : va_K F.2.2.1 vcl (wtys F.2.2.2.1) F.1.2.2.2.2 := C.env.1
theorem Ctx.D (C : Ctx F cc nL own ret fr lo) (σ : Mem) : va_D (wA F.2.2.2.2.1 F.1.2.2.2.2.heap.size) (wld F.2.2.2.1 F.2.2.2.2.1 σ) := wld_D C.env.2.2.2.2.2
theorem Ctx.us (C : Ctx F cc nL own ret fr lo) {q : vw_C} (hq : vcl[c]? = some q) : ∀ w ∈ u_ws q.1 q.2.1 q.2.2, w.before F.2.1.2.1 F.1.2.2.2.2 = true := fun w hw => C.wds (us_all c q hq w hw).1 (us_all c q hq w hw).2
theorem j_getV (C : Ctx F cc nL own ret fr lo) {z : Value} (h : Is k c) (f : FL own idx c j) (hz : (if wrf c j = true then Value.ref (fad F (wtg k j)) else .int (σ k j)) = z) (d : decode cc pc = .ok (.getfield idx, 3)) (K : J F nL cv E σ (pc + 3) lv (z :: st)) : J F nL cv E σ pc lv (.ref (fad F k) :: st) := by
  intro hE H locs ls hP hS hl
  obtain ⟨q, hq, hj, hN, h100, hlk⟩ := f
  have hat := wld_obj (G := F.2.2.2.1) (ad := F.2.2.2.2.1) (σ := σ) h.1 h.2 h100
  have hv : (wfl F.2.2.2.2.1 σ k)[j]? = some z := by rw [wfl_at h.2 (hN ▸ hj)]; exact congrArg some hz
  rcases hlk with hlk | ⟨ho, hlk⟩
  · exact va_get C.1 C.2.1 (C.us hq) (fun _ h => h) C.hown C.K hP k hat hq j hj (C.wds hlk rfl) (fun _ h => h) hv d (K hE H locs ls hP hS hl)
  · exact va_getN C.1 C.2.1 (C.us hq) (fun _ h => h) C.hown C.K hP k hat hq j hj (C.wds hlk rfl) (fun _ h => h) hv d (K hE H locs ls hP hS hl)
theorem j_getI (C : Ctx F cc nL own ret fr lo) (h : Is k c) (f : FL own idx c j) (hr : wrf c j = false) (d : decode cc pc = .ok (.getfield idx, 3)) (K : J F nL cv E σ (pc + 3) lv (.int (σ k j) :: st)) : J F nL cv E σ pc lv (.ref (fad F k) :: st) := j_getV C h f (by rw [hr]; rfl) d K
theorem j_getR (C : Ctx F cc nL own ret fr lo) (h : Is k c) (f : FL own idx c j) (hr : wrf c j = true) (d : decode cc pc = .ok (.getfield idx, 3)) (K : J F nL cv E σ (pc + 3) lv (.ref (fad F (wtg k j)) :: st)) : J F nL cv E σ pc lv (.ref (fad F k) :: st) := j_getV C h f (by rw [hr]; rfl) d K
/-- a field that may be written, and of which kind -/
def FW (c j : Nat) (ty : FieldType) : Prop := ∃ q : vw_C, vcl[c]? = some q ∧ (q.2.1 j).2.2.2 = false ∧ parseFieldDescriptor (q.2.1 j).2.2.1 = some ty
theorem j_put {Kf : Mem → β} {ty : FieldType} (C : Ctx F cc nL own ret fr lo) (h : Is k c) (f : FL own idx c j) (fw : FW c j ty) (hr : wrf c j = false) (hn : narrow ty (.int v) = .int v) (hfit : fits ty (.int v) = true) (d : decode cc pc = .ok (.putfield idx, 3)) (K : ∀ σ', J F nL cv (Kf σ') σ' (pc + 3) lv st) : J F nL cv (lt (mput σ k j v) Kf) σ pc lv (.int v :: .ref (fad F k) :: st) := by
  intro hE H locs ls hP hS hl
  obtain ⟨q, hq, hj, hN, h100, hlk⟩ := f
  obtain ⟨q', hq', hfin, hd⟩ := fw
  cases Option.some.inj (hq.symm.trans hq')
  obtain ⟨ty0, hty, hnm⟩ := ty_all c q hq
  have hat := wld_obj (G := F.2.2.2.1) (ad := F.2.2.2.2.1) (σ := σ) h.1 h.2 h100
  have hset := wld_put (G := F.2.2.2.1) (ad := F.2.2.2.2.1) (σ := σ) (v := v) h.1 h.2 h100 (hN ▸ hj) hr
  have hlen : j < (wfl F.2.2.2.2.1 σ k).length := by rw [wfl_len h.2]; exact hN ▸ hj
  rcases hlk with hlk | ⟨ho, hlk⟩
  · exact va_put C.1 C.2.1 (C.us hq) (fun _ h => h) ty0 hty hnm C.hown C.K hP (C.D σ) hS k hat hq j hj (C.wds hlk rfl) (fun _ h => h) hfin hd hn hfit hlen d (fun H1 locs1 hP1 _ hS1 => K _ hE H1 locs1 ls (by rw [hset] at hP1; exact hP1) hS1 hl)
  · exact va_putN C.1 C.2.1 (C.us hq) (fun _ h => h) ty0 hty hnm C.hown C.K hP (C.D σ) hS k hat hq j hj (C.wds hlk rfl) (fun _ h => h) hfin hd hn hfit hlen d (fun H1 locs1 hP1 _ hS1 => K _ hE H1 locs1 ls (by rw [hset] at hP1; exact hP1) hS1 hl)
theorem nz01 (h : v = 0 ∨ v = 1) : narrow .boolean (.int v) = .int v := by rcases h with rfl | rfl <;> rfl
theorem j_alen (C : Ctx F cc nL own ret fr lo) (h : Is k 100) (d : decode cc pc = .ok (.arraylength, 1)) (K : J F nL cv E σ (pc + 1) lv (.int (nI (wln k)) :: st)) : J F nL cv E σ pc lv (.ref (fad F k) :: st) := by
  intro hE H locs ls hP hS hl
  exact va_alen C.1 C.2.1 C.K hP k 0 (wld_int h.1 h.2) rfl rfl d (K hE H locs ls hP hS hl)
theorem j_iald (C : Ctx F cc nL own ret fr lo) (h : Is k 100) (hin : vp_in i (wln k)) (d : decode cc pc = .ok (.iaload, 1)) (K : J F nL cv E σ (pc + 1) lv (.int (σ k i.toNatClampNeg) :: st)) : J F nL cv E σ pc lv (.int i :: .ref (fad F k) :: st) := by
  intro hE H locs ls hP hS hl
  exact va_iald C.1 C.2.1 C.K hP k 0 (wld_int h.1 h.2) rfl hin d (K hE H locs ls hP hS hl)
theorem j_zald (C : Ctx F cc nL own ret fr lo) (h : Is k 101) (hin : vp_in i (wln k)) (d : decode cc pc = .ok (.baload, 1)) (K : J F nL cv E σ (pc + 1) lv (.int (σ k i.toNatClampNeg) :: st)) : J F nL cv E σ pc lv (.int i :: .ref (fad F k) :: st) := by
  intro hE H locs ls hP hS hl
  exact va_zald C.1 C.2.1 C.K hP k 1 (wld_bool h.1 h.2) rfl hin d (K hE H locs ls hP hS hl)
theorem j_iast {Kf : Mem → β} (C : Ctx F cc nL own ret fr lo) (h : Is k 100) (hin : vp_in i (wln k)) (d : decode cc pc = .ok (.iastore, 1)) (K : ∀ σ', J F nL cv (Kf σ') σ' (pc + 1) lv st) : J F nL cv (lt (mput σ k i.toNatClampNeg v) Kf) σ pc lv (.int v :: .int i :: .ref (fad F k) :: st) := by
  intro hE H locs ls hP hS hl
  exact va_iast C.1 C.2.1 C.K hP (C.D σ) hS k 0 (wld_int h.1 h.2) rfl hin d (fun H1 locs1 hP1 _ hS1 => K _ hE H1 locs1 ls (by rw [wld_iput h.1 h.2] at hP1; exact hP1) hS1 hl)
def nz (v : Int32) : Int32 := vp_nar .boolean v
theorem j_zast {Kf : Mem → β} (C : Ctx F cc nL own ret fr lo) (h : Is k 101) (hin : vp_in i (wln k)) (d : decode cc pc = .ok (.bastore, 1)) (K : ∀ σ', J F nL cv (Kf σ') σ' (pc + 1) lv st) : J F nL cv (lt (mput σ k i.toNatClampNeg (nz v)) Kf) σ pc lv (.int v :: .int i :: .ref (fad F k) :: st) := by
  intro hE H locs ls hP hS hl
  exact va_zast C.1 C.2.1 C.K hP (C.D σ) hS k 1 (wld_bool h.1 h.2) rfl hin d (fun H1 locs1 hP1 _ hS1 => K _ hE H1 locs1 ls (by rw [show vp_nar .boolean v = nz v from rfl, wld_zput h.1 h.2] at hP1; exact hP1) hS1 hl)
/-- an index that the walk must still look at -/
def inb (i : Int32) (n : Nat) : Bool := decide (0 ≤ i) && decide (i.toNatClampNeg < n)
theorem inb_in {n : Nat} (h : inb i n = true) : vp_in i n := by
  simp only [inb, Bool.and_eq_true, decide_eq_true_eq] at h
  intro z
  rcases z with z | z
  · exact absurd h.1 (Int32.not_le.mpr z)
  · omega
theorem j_need {c : Bool} (h0 : cv B = none) (K : c = true → J F nL cv A σ pc lv st) : J F nL cv (if c = true then A else B) σ pc lv st := by
  intro hE
  by_cases h : c = true
  · rw [if_pos h] at hE
    exact K h hE
  · rw [if_neg h, h0] at hE
    cases hE
theorem vp_gd {n : Nat} (h1 : ¬ i < 0) (h2 : ¬ nI n ≤ i) (hn : n < 2 ^ 31) : vp_in i n := by
  rw [vp_in_iff]
  have a := Int32.not_lt.mp h1
  have b := Int32.not_le.mp h2
  rw [Int32.le_iff_toInt_le, Int32.toInt_zero] at a
  rw [Int32.lt_iff_toInt_lt, nI_toInt hn] at b
  exact ⟨a, b⟩
/-- a named number -/
theorem j_lt {α : Type} {e : α} {Kf : α → β} (K : J F nL cv (Kf e) σ pc lv st) : J F nL cv (lt e Kf) σ pc lv st := K
theorem j_bind {α γ : Type} {cv : Option γ → Option Rs} {g : Option α} {Kf : α → Option γ} (h0 : cv none = none) (K : ∀ q, g = some q → J F nL cv (Kf q) σ pc lv st) : J F nL cv (g.bind Kf) σ pc lv st := by
  intro hE
  cases hg : g with
  | none => rw [hg] at hE; exact absurd (hE.symm.trans h0) (fun h => by cases h)
  | some q => exact K q hg (by rw [hg] at hE; exact hE)
theorem ne_pos (h : ¬ x ≤ 0) : ¬ x = 0 := fun e => h (by rw [e]; exact Int32.le_refl 0)
theorem ne_lt (h : 0 < x) : ¬ x = 0 := fun e => absurd h (by rw [e]; decide)
end JH
