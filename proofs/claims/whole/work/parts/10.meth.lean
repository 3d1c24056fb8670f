/-! METHODS: a contract out of a walk; calls in walks; throws; Math -/
def MV (own : String) (idx : Nat) (y : MethodName) (bytes : ByteArray) (mL : Nat) (ret : Option FieldType) (n c : Nat) : Prop := MC own idx y bytes mL ret n ∧ Cond.instanceMethod y ∈ lw_tbl ∧ Cond.selects y.cls y y ∈ lw_tbl ∧ ∃ z, vcl[c]? = some z ∧ z.1 = y.cls
def MS (own : String) (idx : Nat) (y : MethodName) (bytes : ByteArray) (mL : Nat) (ret : Option FieldType) (n : Nat) : Prop := MC own idx y bytes mL ret n ∧ Cond.static y ∈ lw_tbl
theorem ctr_of {l : Launch} {D : va_G} {G : GC} {ad : Nat → Nat} {y : MethodName} {bytes : ByteArray} {mL : Nat} {ret : Option FieldType} {fr lo : Nat} {av : List Value} {σ : Mem} {ρ : Rs} (hy : plainName y.cls = true) (hent : (lg_sl av).length ≤ mL)
    (body : ∀ F : Fx, F.1.2.1 = l → F.2.2 = (D, G, ad, ρ) → Ctx F bytes mL y.cls ret fr lo → V F mL σ 0 (lv_args 0 av) []) : Ctr l D G ad y bytes mL ret fr lo av σ ρ := by
  intro sz hnt
  refine MetFree.of_bodyS (code := bytes) (maxLocals := mL) (ret := ret) hy ?_ ?_
  · intro args s m h hn
    obtain ⟨meth, c, h1, h2, h3, h4, h5, h6, -, -⟩ := Cond.code_spec hn (atoms_spec (ws := [.code y bytes mL ret]) h _ List.mem_cons_self)
    exact ⟨meth, c, h1, h2, h3, h4, h5, h6⟩
  · intro p e s m args below meth c s₁ B hml hPre _
    obtain ⟨rfl, rfl, hP, hEnv⟩ := hPre
    have htab : ∀ x ∈ c.exceptionTable.toList, False := by
      obtain ⟨meth9, c9, h1, h2, -, -, -, -, h7, -⟩ := Cond.code_spec B.named (atoms_spec (ws := [.code y bytes mL ret]) B.pre _ List.mem_cons_self)
      cases Option.some.inj (h1.symm.trans B.method)
      cases Option.some.inj (h2.symm.trans (Stand.of_body B).code)
      intro x hx
      rw [Array.isEmpty_iff.mp h7] at hx
      cases hx
    have hh0 : s₁.heap = s.heap := by rw [B.state]; rfl
    have hV := body ((p, l, e, rmOf fr lo ρ, s), (m, av.toArray, below, meth, c), (D, G, ad, ρ)) rfl rfl ⟨B.exec, B.bytes, hml, findClass_of_methodNamed B.named, B.returns, B.notSynchronized, htab, rfl, hEnv, hnt, σ, hP⟩
    obtain ⟨t, a1, o, b1, b2, b3, b4⟩ := hV s.heap [] _ hP va_S.rf (lv_entry av hent) s₁ hh0 (Stand.of_body B)
    exact ⟨t, o, by rw [lg_entry_eq]; exact a1, b1, b2, b3, b4⟩
theorem ctr_J {β : Type} {cv : β → Option Rs} {E : β} {l : Launch} {D : va_G} {G : GC} {ad : Nat → Nat} {y : MethodName} {bytes : ByteArray} {mL : Nat} {ret : Option FieldType} {fr lo : Nat} {av : List Value} {σ : Mem} {ρ : Rs} (hy : plainName y.cls = true) (hent : (lg_sl av).length ≤ mL) (hE : cv E = some ρ)
    (body : ∀ F : Fx, ad = fad F → Ctx F bytes mL y.cls ret fr lo → J F mL cv E σ 0 (lv_args 0 av) []) : Ctr l D G ad y bytes mL ret fr lo av σ ρ :=
  ctr_of hy hent fun F h1 h2 C => body F (by rw [fad, h2]) C (by rw [hE, h2])
section JM
variable {β : Type} {F : Fx} {nL : Nat} {cv : β → Option Rs} {E : β} {σ σ1 : Mem} {pc : Nat} {lv : List (Nat × Value)} {st stk : List Value} {cc : ByteArray} {own : String} {ret rt : Option FieldType} {fr lo fr1 lo1 : Nat} {k c idx n mL : Nat} {y : MethodName} {bytes : ByteArray} {r x z : Int32}
abbrev CtrF (F : Fx) (y : MethodName) (bytes : ByteArray) (mL : Nat) (rt : Option FieldType) (fr1 lo1 : Nat) (av : List Value) (σ : Mem) (ρ : Rs) : Prop := Ctr F.1.2.1 F.2.2.1 F.2.2.2.1 F.2.2.2.2.1 y bytes mL rt fr1 lo1 av σ ρ
theorem j_callVi (C : Ctx F cc nL own ret fr lo) (hm : MV own idx y bytes mL rt n c) (As : List Value) (st : List Value) (h : Is k c) (hct : CtrF F y bytes mL rt fr1 lo1 (.ref (fad F k) :: As) σ (.inl (some (.int r)), σ1)) (hs : stk = As.reverse ++ .ref (fad F k) :: st) (hn : As.length = n) (hR : fr1 + 1 ≤ fr ∧ 8 + (mL + 11) + lo1 ≤ lo) (hw : (st.map fun v => v.category).sum ≤ 8) (d : decode cc pc = .ok (.invokevirtual idx, 3)) (K : J F nL cv E σ1 (pc + 3) lv (.int r :: st)) : J F nL cv E σ pc lv stk := by
  obtain ⟨hmc, hi, hse, w, hw1, hw2⟩ := hm
  subst hs
  exact fun hE => v_callV C hmc hi hse h hw1 hw2 hn hct hR ⟨Nat.zero_le _, Nat.zero_le _⟩ hw d (fun v σ' h => by cases h; exact K hE) (fun n σ' h => by cases h)
theorem j_callVv (C : Ctx F cc nL own ret fr lo) (hm : MV own idx y bytes mL rt n c) (As : List Value) (st : List Value) (h : Is k c) (hct : CtrF F y bytes mL rt fr1 lo1 (.ref (fad F k) :: As) σ (.inl none, σ1)) (hs : stk = As.reverse ++ .ref (fad F k) :: st) (hn : As.length = n) (hR : fr1 + 1 ≤ fr ∧ 8 + (mL + 11) + lo1 ≤ lo) (hw : (st.map fun v => v.category).sum ≤ 8) (d : decode cc pc = .ok (.invokevirtual idx, 3)) (K : J F nL cv E σ1 (pc + 3) lv st) : J F nL cv E σ pc lv stk := by
  obtain ⟨hmc, hi, hse, w, hw1, hw2⟩ := hm
  subst hs
  exact fun hE => v_callV C hmc hi hse h hw1 hw2 hn hct hR ⟨Nat.zero_le _, Nat.zero_le _⟩ hw d (fun v σ' h => by cases h; exact K hE) (fun n σ' h => by cases h)
theorem j_callVx {e : Nat} (C : Ctx F cc nL own ret fr lo) (hm : MV own idx y bytes mL rt n c) (As : List Value) (st : List Value) (h : Is k c) (hct : CtrF F y bytes mL rt fr1 lo1 (.ref (fad F k) :: As) σ (.inr e, σ1)) (hs : stk = As.reverse ++ .ref (fad F k) :: st) (hn : As.length = n) (hR : fr1 + 1 ≤ fr ∧ 8 + (mL + 11) + lo1 ≤ lo) (hw : (st.map fun v => v.category).sum ≤ 8) (d : decode cc pc = .ok (.invokevirtual idx, 3)) (hx : ∀ ρ, cv E = some ρ → ρ = (.inr e, σ1)) : J F nL cv E σ pc lv stk := by
  obtain ⟨hmc, hi, hse, w, hw1, hw2⟩ := hm
  subst hs
  intro hE
  have hρ := hx _ hE
  exact v_callV C hmc hi hse h hw1 hw2 hn hct hR (by rw [hρ]; exact ⟨Nat.le_refl _, Nat.le_refl _⟩) hw d (fun v σ' h => by cases h) (fun n σ' h => hρ)
theorem j_callSi (C : Ctx F cc nL own ret fr lo) (hm : MS own idx y bytes mL rt n) (As : List Value) (st : List Value) (hct : CtrF F y bytes mL rt fr1 lo1 As σ (.inl (some (.int r)), σ1)) (hs : stk = As.reverse ++ st) (hn : As.length = n) (hR : fr1 + 1 ≤ fr ∧ 8 + (mL + 11) + lo1 ≤ lo) (hw : (st.map fun v => v.category).sum ≤ 8) (d : decode cc pc = .ok (.invokestatic idx, 3)) (K : J F nL cv E σ1 (pc + 3) lv (.int r :: st)) : J F nL cv E σ pc lv stk := by
  subst hs
  exact fun hE => v_callS C hm.1 hm.2 hn hct hR ⟨Nat.zero_le _, Nat.zero_le _⟩ hw d (fun v σ' h => by cases h; exact K hE) (fun n σ' h => by cases h)
theorem j_callSv (C : Ctx F cc nL own ret fr lo) (hm : MS own idx y bytes mL rt n) (As : List Value) (st : List Value) (hct : CtrF F y bytes mL rt fr1 lo1 As σ (.inl none, σ1)) (hs : stk = As.reverse ++ st) (hn : As.length = n) (hR : fr1 + 1 ≤ fr ∧ 8 + (mL + 11) + lo1 ≤ lo) (hw : (st.map fun v => v.category).sum ≤ 8) (d : decode cc pc = .ok (.invokestatic idx, 3)) (K : J F nL cv E σ1 (pc + 3) lv st) : J F nL cv E σ pc lv stk := by
  subst hs
  exact fun hE => v_callS C hm.1 hm.2 hn hct hR ⟨Nat.zero_le _, Nat.zero_le _⟩ hw d (fun v σ' h => by cases h; exact K hE) (fun n σ' h => by cases h)
theorem j_callSx {e : Nat} (C : Ctx F cc nL own ret fr lo) (hm : MS own idx y bytes mL rt n) (As : List Value) (st : List Value) (hct : CtrF F y bytes mL rt fr1 lo1 As σ (.inr e, σ1)) (hs : stk = As.reverse ++ st) (hn : As.length = n) (hR : fr1 + 1 ≤ fr ∧ 8 + (mL + 11) + lo1 ≤ lo) (hw : (st.map fun v => v.category).sum ≤ 8) (d : decode cc pc = .ok (.invokestatic idx, 3)) (hx : ∀ ρ, cv E = some ρ → ρ = (.inr e, σ1)) : J F nL cv E σ pc lv stk := by
  subst hs
  intro hE
  have hρ := hx _ hE
  exact v_callS C hm.1 hm.2 hn hct hR (by rw [hρ]; exact ⟨Nat.le_refl _, Nat.le_refl _⟩) hw d (fun v σ' h => by cases h) (fun n σ' h => hρ)
/-- Math -/
def imax (x y : Int32) : Int32 := if x < y then y else x
def imin (x y : Int32) : Int32 := if y < x then y else x
def iabs (x : Int32) : Int32 := if 0 ≤ x then x else 0 - x
def MM (own : String) (idx : Nat) (y : MethodName) (bytes : ByteArray) (n : Nat) : Prop := Cond.methodLink own idx y ∈ lw_tbl ∧ Cond.static y ∈ lw_tbl ∧ Cond.initialized "java/lang/Math" ∈ lw_tbl ∧ Cond.code y bytes n (some .int) ∈ lw_tbl
theorem j_max {y : Int32} (C : Ctx F cc nL own ret fr lo) (hm : MM own idx Lib.Math.max.name Lib.Math.max.code 2) (hR : 1 ≤ fr ∧ (st.map fun v => v.category).sum + 13 ≤ lo) (d : decode cc pc = .ok (.invokestatic idx, 3)) (K : J F nL cv E σ (pc + 3) lv (.int (imax x y) :: st)) : J F nL cv E σ pc lv (.int y :: .int x :: st) := by
  intro hE H locs ls hP hS hl
  have hRm : F.1.2.2.2.1 = rmOf fr lo F.2.2.2.2.2 := C.2.2.2.2.2.2.2.1
  exact va_mmax C.1 C.2.1 (by rw [C.2.2.1, hl.1]) C.hown (C.wds hm.1 stb_ml) (C.wds hm.2.1 stb_static) (C.wds hm.2.2.1 stb_ini) (C.wds hm.2.2.2 stb_code) (by rw [hRm]; exact hR.1) (by rw [hRm]; exact hR.2) (Nat.zero_le _) (Nat.zero_le _) d (K hE H locs ls hP hS hl)
theorem j_min {y : Int32} (C : Ctx F cc nL own ret fr lo) (hm : MM own idx Lib.Math.min.name Lib.Math.min.code 2) (hR : 1 ≤ fr ∧ (st.map fun v => v.category).sum + 13 ≤ lo) (d : decode cc pc = .ok (.invokestatic idx, 3)) (K : J F nL cv E σ (pc + 3) lv (.int (imin x y) :: st)) : J F nL cv E σ pc lv (.int y :: .int x :: st) := by
  intro hE H locs ls hP hS hl
  have hRm : F.1.2.2.2.1 = rmOf fr lo F.2.2.2.2.2 := C.2.2.2.2.2.2.2.1
  exact va_mmin C.1 C.2.1 (by rw [C.2.2.1, hl.1]) C.hown (C.wds hm.1 stb_ml) (C.wds hm.2.1 stb_static) (C.wds hm.2.2.1 stb_ini) (C.wds hm.2.2.2 stb_code) (by rw [hRm]; exact hR.1) (by rw [hRm]; exact hR.2) (Nat.zero_le _) (Nat.zero_le _) d (K hE H locs ls hP hS hl)
theorem j_abs (C : Ctx F cc nL own ret fr lo) (hm : MM own idx Lib.Math.abs.name Lib.Math.abs.code 1) (hR : 1 ≤ fr ∧ (st.map fun v => v.category).sum + 13 ≤ lo) (d : decode cc pc = .ok (.invokestatic idx, 3)) (K : J F nL cv E σ (pc + 3) lv (.int (iabs x) :: st)) : J F nL cv E σ pc lv (.int x :: st) := by
  intro hE H locs ls hP hS hl
  have hRm : F.1.2.2.2.1 = rmOf fr lo F.2.2.2.2.2 := C.2.2.2.2.2.2.2.1
  exact va_mabs C.1 C.2.1 (by rw [C.2.2.1, hl.1]) C.hown (C.wds hm.1 stb_ml) (C.wds hm.2.1 stb_static) (C.wds hm.2.2.1 stb_ini) (C.wds hm.2.2.2 stb_code) (by rw [hRm]; exact hR.1) (by rw [hRm]; exact hR.2) (Nat.zero_le _) (Nat.zero_le _) d (K hE H locs ls hP hS hl)
theorem j_ldc (C : Ctx F cc nL own ret fr lo) (hm : Cond.constant own idx z ∈ lw_tbl) (d : decode cc pc = .ok (.ldc idx, 2)) (K : J F nL cv E σ (pc + 2) lv (.int z :: st)) : J F nL cv E σ pc lv st := fun hE H locs ls hP hS hl => lv_ldc C.1 C.2.1 C.hown (C.wds hm (by first | rfl | simp [stb, Cond.onTables, Cond.keeps, Cond.steady])) d (K hE H locs ls hP hS hl)
end JM
