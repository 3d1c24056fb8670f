/-! the helpers' walk -/
def HCtx (p : Program) (l : Launch) (s : State) (m : MethodId) (meth : Method) (c : Code) (cc : ByteArray) (mL : Nat) (hs : List (Nat × Nat × Nat × Nat)) (D : va_G) (G : GC) (ad : Nat → Nat) (σ : Mem) : Prop :=
  p.tables.exec = Jvm.exec ∧ c.code = cc ∧ c.maxLocals = mL ∧ s.vm.findClass "LineFramesLaw" = some m.cls ∧ meth.sig.returnType = some .int ∧ meth.locks = false ∧ c.exceptionTable.toList = tableOf hs ∧ Env0 D G ad s s.heap ∧ Nx s ∧ l.stackTraces = false ∧ va_P D vcl (wld G ad σ) s.heap
def QH (below : List Frame) (D : va_G) (G : GC) (ad : Nat → Nat) (k : Int32) (σ1 : Mem) (s : State) : State → Prop := fun t =>
  ∃ o, t.status = .running ∧ Ended t below o ∧ (o = .returned (some (.int k)) ∧ va_P D vcl (wld G ad σ1) t.heap ∧ va_F (wA ad s.heap.size) s t) ∧ ∃ L, FE s t L 1 6 ∧ ∀ q ∈ L, wA ad s.heap.size q.base
theorem ctrH_of {l : Launch} {D : va_G} {G : GC} {ad : Nat → Nat} {y : MethodName} {bytes : ByteArray} {mL : Nat} {hs : List (Nat × Nat × Nat × Nat)} {fr lo : Nat} {av : List Value} {σ σ1 : Mem} {k : Int32} (hy : plainName y.cls = true) (hyl : y.cls = "LineFramesLaw") (hent : (lg_sl av).length ≤ mL)
    (body : ∀ (p : Program) (e : Env) (s : State) (m : MethodId) (below : List Frame) (meth : Method) (c : Code) (ls : Array Slot), HCtx p l s m meth c bytes mL hs D G ad σ → lv_has ls mL (lv_args 0 av) → W p l e (rmH fr lo) s m av.toArray below meth c s.heap [] 0 0 (QH below D G ad k σ1 s) (F0 m 0 ls [])) : CtrH l D G ad y bytes mL hs fr lo av σ k σ1 := by
  intro sz hnt
  refine MetFree.of_bodyS (code := bytes) (maxLocals := mL) (ret := some .int) hy ?_ ?_
  · intro args s m h hn
    obtain ⟨m9, meth, c, h0, h1, h2, h3, h4, -, h5, h6, -⟩ := Cond.codeWith_spec (atoms_spec (ws := [.codeWith y bytes mL (some .int) hs]) h _ List.mem_cons_self)
    cases Option.some.inj (h0.symm.trans hn)
    exact ⟨meth, c, h1, h2, h3, h4, h5, h6⟩
  · intro p e s m args below meth c s₁ B hml hPre _
    obtain ⟨rfl, rfl, hP, hEnv, hNx⟩ := hPre
    have htab : c.exceptionTable.toList = tableOf hs := by
      obtain ⟨m9, meth9, c9, h0, h1, h2, -, -, h7, -⟩ := Cond.codeWith_spec (atoms_spec (ws := [.codeWith y bytes mL (some .int) hs]) B.pre _ List.mem_cons_self)
      cases Option.some.inj (h0.symm.trans B.named)
      cases Option.some.inj (h1.symm.trans B.method)
      cases Option.some.inj (h2.symm.trans (Stand.of_body B).code)
      rw [← h7, table_eq]
    have hh0 : s₁.heap = s.heap := by rw [B.state]; rfl
    obtain ⟨t, a1, o, b1, b2, b3, b4⟩ := body p e s m below meth c _ ⟨B.exec, B.bytes, hml, by rw [← hyl]; exact findClass_of_methodNamed B.named, B.returns, B.notSynchronized, htab, hEnv, hNx, hnt, hP⟩ (lv_entry av hent) s₁ hh0 (Stand.of_body B)
    exact ⟨t, o, by rw [lg_entry_eq]; exact a1, b1, b2, b3, b4⟩
theorem sees_list {pl : Platform} (hpl : pl.magicAccessors = ({} : Platform).magicAccessors) {s : State} {m : MethodId} {own : String} {D : va_G} {G : GC} {ad : Nat → Nat} {n pc : Nat} {cls : ClassId} (hown : s.vm.findClass own = some m.cls) (hE : Env0 D G ad s s.heap) (hNx : Nx s) (hcl : s.vm.findClass (xNm n) = some cls) (hcast : Cond.castable (xNm n) (xNm n) ∈ lw_tbl) :
    ∀ es : List ((Nat × Nat × Nat × Nat) × Nat), (∀ x ∈ es, (x.1.1 ≤ pc ∧ pc < x.1.2.1) ∧ x.1.2.2.2 ≠ 0 ∧ (1 ≤ x.2 ∧ x.2 ≤ 4) ∧ Cond.classLink own x.1.2.2.2 (xNm x.2) ∈ lw_tbl) → (1 ≤ n ∧ n ≤ 4) → ∀ hp, (es.find? (fun x => x.2 == n)).map (fun x => x.1.2.2.1) = some hp → Sees pl s m.cls pc cls (tableOf (es.map (fun x => x.1))) hp := by
  intro es
  induction es with
  | nil => intro _ _ hp h; simp at h
  | cons x t ih =>
    intro hall hn hp h
    obtain ⟨⟨h1, h2⟩, h0, h3, h4⟩ := hall x List.mem_cons_self
    obtain ⟨c', hc', hlk⟩ := Cond.classLink_spec hown (hE.2.1 _ h4 (by first | rfl | simp [stb, Cond.onTables, Cond.keeps, Cond.steady]) #[]) pl hpl
    show covers ⟨x.1.1, x.1.2.1, x.1.2.2.1, x.1.2.2.2⟩ pc = true ∧ x.1.2.2.2 ≠ 0 ∧ ∃ c, s.vm.ClassLinks pl m.cls x.1.2.2.2 c ∧ ((s.vm.assignable cls c = true ∧ hp = x.1.2.2.1) ∨ (s.vm.assignable cls c = false ∧ Sees pl s m.cls pc cls (tableOf (t.map (fun x => x.1))) hp))
    refine ⟨by simp [covers, h1, h2], h0, c', hlk, ?_⟩
    by_cases hx : x.2 = n
    · left
      obtain ⟨c3, c4, hc3, hc4, hasg⟩ := Cond.castable_spec (hE.2.1 _ hcast rfl #[])
      cases Option.some.inj (hc3.symm.trans hcl)
      rw [hx] at hc'
      cases Option.some.inj (hc4.symm.trans hc')
      refine ⟨hasg, ?_⟩
      rw [List.find?_cons, show (x.2 == n) = true by simp [hx]] at h
      simpa using h.symm
    · right
      obtain ⟨a8, b8, g1, g2, g3⟩ := hNx n x.2 hn.1 hn.2 h3.1 h3.2 (fun z => hx z.symm)
      cases Option.some.inj (g1.symm.trans hcl)
      cases Option.some.inj (g2.symm.trans hc')
      refine ⟨g3, ih (fun y hy => hall y (List.mem_cons_of_mem _ hy)) hn hp ?_⟩
      rw [List.find?_cons, show (x.2 == n) = false by simp [hx]] at h
      exact h
section HP
variable {p : Program} {l : Launch} {e : Env} {s : State} {m : MethodId} {args : Array Value} {below : List Frame} {meth : Method} {c : Code} {cc : ByteArray} {mL : Nat} {hs : List (Nat × Nat × Nat × Nat)} {D : va_G} {G : GC} {ad : Nat → Nat} {σ σ0 σ1 : Mem} {fr lo : Nat} {H : Heap} {locs : List Loc} {ls : Array Slot} {cells slots pc : Nat} {k : Int32}
/-- a helper's end: its number, and home -/
theorem hp_ret (C : HCtx p l s m meth c cc mL hs D G ad σ0) (hP : va_P D vcl (wld G ad σ1) H) (hS : va_S (wA ad s.heap.size) s.heap H locs) (hc : cells ≤ 1) (hsl : slots ≤ 6) {n : Int} (d1 : decode cc pc = .ok (.iconst n, 1)) (hn : Int32.ofInt n = k) (d2 : decode cc (pc + 1) = .ok (.ireturn, 1)) : W p l e (rmH fr lo) s m args below meth c H locs cells slots (QH below D G ad k σ1 s) (F0 m pc ls []) := by
  refine lv_iconst C.1 C.2.1 d1 hn ?_
  refine W.widen hc hsl ?_
  have hlk := C.2.2.2.2.2.1
  have h := W.iret (p := p) (l := l) (e := e) (R := rmH fr lo) (s := s) (m := m) (args := args) (below := below) (meth := meth) (c := c) (H := H) (locs := locs) (cells := 1) (slots := 6) (v := k) (ls := ls) (Qc := fun _ st o t => o = .returned (some (.int k)) ∧ va_P D vcl (wld G ad σ1) t.heap ∧ va_F (wA ad st.heap.size) st t) (free := wA ad s.heap.size) C.1 C.2.1 C.2.2.2.2.1 (fun t ht hW => ⟨rfl, by rw [ht]; exact hP, hS.F ht⟩) hS.2.2 d2 hlk
  intro T hT X
  obtain ⟨t, a1, oc, b1, b2, b3, L, b4, b5⟩ := h T hT X
  exact ⟨t, a1, oc, b1, b2, b3, L, ⟨b4.2.1, b4.2.2⟩, b5⟩
/-- the call inside try, and what follows it either way -/
theorem hp_call {idx n : Nat} {y : MethodName} {bytes : ByteArray} {mL1 fr1 lo1 : Nat} {rt : Option FieldType} {ρ : Rs} {As : List Value} (C : HCtx p l s m meth c cc mL hs D G ad σ) (hm : MV "LineFramesLaw" idx y bytes mL1 rt n 0) (hn : As.length = n) (hct : Ctr l D G ad y bytes mL1 rt fr1 lo1 (.ref (ad 0) :: As) σ ρ) (hR : fr1 + 1 ≤ fr ∧ 8 + (mL1 + 11) + lo1 ≤ lo) (d : decode cc pc = .ok (.invokevirtual idx, 3)) (hl : ls.size = mL)
    (es : List ((Nat × Nat × Nat × Nat) × Nat)) (hes : hs = es.map (fun x => x.1)) (hall : ∀ x ∈ es, (x.1.1 ≤ pc ∧ pc < x.1.2.1) ∧ x.1.2.2.2 ≠ 0 ∧ (1 ≤ x.2 ∧ x.2 ≤ 4) ∧ Cond.classLink "LineFramesLaw" x.1.2.2.2 (xNm x.2) ∈ lw_tbl) (hcast : ∀ n, 1 ≤ n → n ≤ 4 → Cond.castable (xNm n) (xNm n) ∈ lw_tbl)
    (kr : ∀ (r : Int32) (σ2 : Mem) (H1 : Heap) (locs1 : List Loc), ρ = (.inl (some (.int r)), σ2) → va_P D vcl (wld G ad σ2) H1 → va_S (wA ad s.heap.size) s.heap H1 locs1 → W p l e (rmH fr lo) s m args below meth c H1 locs1 0 0 (QH below D G ad k σ1 s) (F0 m (pc + 3) ls [.int r, .int 0, .ref (ad 82)]))
    (kn : ∀ σ2, ρ ≠ (.inl none, σ2)) (kv : ∀ v σ2, ρ = (.inl (some v), σ2) → ∃ r, v = .int r)
    (kx : ∀ (n : Nat) (σ2 : Mem), ρ = (.inr n, σ2) → (1 ≤ n ∧ n ≤ 4) ∧ ∃ hp, (es.find? (fun x => x.2 == n)).map (fun x => x.1.2.2.1) = some hp ∧ ∀ (q : Nat) (H1 : Heap) (locs1 : List Loc), va_P D vcl (wld G ad σ2) H1 → va_S (wA ad s.heap.size) s.heap H1 locs1 → W p l e (rmH fr lo) s m args below meth c H1 locs1 1 6 (QH below D G ad k σ1 s) (F0 m hp ls [.ref q])) :
    W p l e (rmH fr lo) s m args below meth c s.heap [] 0 0 (QH below D G ad k σ1 s) (F0 m pc ls (As.reverse ++ .ref (ad 0) :: [.int 0, .ref (ad 82)])) := by
  intro T hT X
  obtain ⟨hx, hb, hml, hown, hr, hlk, htab, hEnv, hNx, hnt, hP⟩ := C
  have hrc : 0 + rc ρ ≤ (rmH fr lo).cells := by show 0 + rc ρ ≤ 1; unfold rc; split <;> omega
  have hrs : 0 + rsl ρ ≤ (rmH fr lo).slots := by show 0 + rsl ρ ≤ 6; unfold rsl; split <;> omega
  have hS0 : va_S (wA ad s.heap.size) s.heap T.heap [] := by rw [hT]; exact va_S.rf
  obtain ⟨o, T', L, X', hS', hP', ho, hret, hthr⟩ := cg_V (rest := [.int 0, .ref (ad 82)]) (pc := pc) (ls := ls) X hx hown hEnv hnt hS0 (by rw [hT]; exact hP) hm (by exact ⟨by decide, by decide +kernel⟩) hn hct hR.1 hR.2 hrc hrs (Nat.le_of_ble_eq_true rfl) (by rw [hb]; exact d) (by rw [hl, hml])
  obtain ⟨oc, σ2⟩ := ρ
  cases oc with
  | inl v =>
    have ho' : o = .returned v := ho
    cases v with
    | none => exact absurd rfl (kn σ2)
    | some v =>
      obtain ⟨r, rfl⟩ := kv v σ2 rfl
      obtain ⟨t, a1, b1⟩ := kr r σ2 T'.heap ([] ++ L) rfl hP' hS' T' rfl X'
      exact ⟨t, hret _ ho' t a1, b1⟩
  | inr n =>
    obtain ⟨q, ce, ho', hce, hcv, hcl⟩ := ho
    obtain ⟨hn4, hp, hfind, kk⟩ := kx n σ2 rfl
    have hpl : e.platform.magicAccessors = ({} : Platform).magicAccessors := by rw [X.admits.platform]
    have hsee := sees_list (pc := pc) hpl hown hEnv hNx hcl (hcast n hn4.1 hn4.2) es hall hn4 hp hfind
    rw [← hes, ← htab] at hsee
    obtain ⟨vm', X2, hst⟩ := st_caught X' (g := F0 m pc ls [.int 0, .ref (ad 82)]) rfl hce hcv (by obtain ⟨k9, h9, -⟩ := Vm.findClass_spec hcl; exact ⟨k9, h9⟩) hsee
    obtain ⟨t, a1, b1⟩ := kk q T'.heap ([] ++ L) hP' hS' (T'.setVm vm') rfl X2
    exact ⟨t, hthr q ho' t (hst t a1), b1⟩
/-- out[0] = (long) r -/
theorem hp_out {r : Int32} (C : HCtx p l s m meth c cc mL hs D G ad σ0) (hP : va_P D vcl (wld G ad σ) H) (hS : va_S (wA ad s.heap.size) s.heap H locs) (d1 : decode cc pc = .ok (.i2l, 1)) (d2 : decode cc (pc + 1) = .ok (.lastore, 1))
    (kk : ∀ (H1 : Heap) (locs1 : List Loc), va_P D vcl (wld G ad (mput σ 82 0 r)) H1 → va_S (wA ad s.heap.size) s.heap H1 locs1 → W p l e (rmH fr lo) s m args below meth c H1 locs1 cells slots (QH below D G ad k σ1 s) (F0 m (pc + 2) ls [])) : W p l e (rmH fr lo) s m args below meth c H locs cells slots (QH below D G ad k σ1 s) (F0 m pc ls [.int r, .int 0, .ref (ad 82)]) := by
  refine lv_i2l C.1 C.2.1 d1 rfl ?_
  have hEnv := C.2.2.2.2.2.2.2.1
  exact va_last C.1 C.2.1 hEnv.1 hP (wld_D hEnv.2.2.2.2.2) hS 82 2 (wld_long (by decide) (by decide +kernel)) rfl (inb_in (by decide +kernel)) d2 (fun H1 locs1 hP1 _ hS1 => kk H1 locs1 (by
    have h9 := wld_lput (G := G) (ad := ad) (σ := σ) (k := 82) (j := 0) (v := r) (by decide) (by decide +kernel)
    rw [show (0 : Int32).toNatClampNeg = 0 from rfl, h9] at hP1
    exact hP1) hS1)
end HP
