def R_law : String := "LineFramesLaw"
def lw_P (b : Addr) (xs : List Int32) (args : Array Value) (s : State) : Prop := args = #[.ref b] ∧ s.IntsAt b xs ∧ xs.length ≤ 2561 ∧ (Jvm.Cond.and given_1 narrow_1).before args s = true
def lw_Q (_ : Array Value) (s : State) (o : Outcome) (t : State) : Prop := o = .returned (some (.int 1)) ∧ Framed s o t [] 601024 7293000
def lw_Z (below : List Frame) (a : Array Value) (s : State) : State → Prop := fun t => ∃ o, t.status = .running ∧ Ended t below o ∧ lw_Q a s o t
/-- the law's own end, with 1 on the stack, nothing written that was there before, its room as the claim has it -/
theorem lw_ret {p : Program} {l : Launch} {e : Env} {s : State} {m : MethodId} {below : List Frame} {meth : Method} {c : Code} {b : Nat} (hx : p.tables.exec = Jvm.exec) (hb : c.code = code) (hr : meth.sig.returnType = ret) (hlocks : meth.locks = false) {pc : Nat} {H : Heap} {ls : Array Slot} (hdg : decode code pc = .ok (.ireturn, 1)) : W p l e room_1 s m #[Value.ref b] below meth c H [] 601024 7293000 (lw_Z below #[Value.ref b] s) (F0 m pc ls [.int 1]) := by
  intro T hT X
  obtain ⟨fs, hret, hrun, hended, hW, hframe⟩ := X.leave (v := some (.int 1)) (hlocks := hlocks) (fun h => by rw [hr] at h; cases h)
  have hmeth' : T.vm.method? m = some meth := X.method'
  refine ⟨T.setFrames fs, ?_, .returned (some (.int 1)), hrun, hended, rfl, ⟨_, rfl⟩, hW, hframe⟩
  jvm_step X.here [X.here.top, hx, hb, hdg, hmeth', hr, ret, narrow_b1]
  (try refine ⟨rfl, ?_⟩); (try refine ⟨rfl, ?_⟩)
  first | (intro acts; rw [hret _ acts rfl rfl rfl]) | rw [hret _ _ rfl rfl rfl]
  exact Steps.refl _
/-- what holds at the law's entry: the machine, the code, the tables' words (any of lw_tbl by 'hts w (by decide +kernel)'), the script of L ints xs at the cell b, what the Statement gives of the start (any of its parts by flat_of_before) -/
def lw_At (p : Program) (s : State) (m : MethodId) (meth : Method) (c : Code) (b L : Nat) (xs : Nat → Int32) : Prop :=
  p.tables.exec = Jvm.exec ∧ c.code = code ∧ meth.sig.returnType = ret ∧ c.maxLocals = 7 ∧ s.vm.findClass R_law = some m.cls ∧ (∀ w ∈ lw_tbl, w.before #[Value.ref b] s = true) ∧ va_X b L xs s s.heap ∧ b < s.heap.size ∧ meth.locks = false ∧ (Jvm.Cond.and given_1 narrow_1).before #[Value.ref b] s = true
/-! the law's walk over the world -/
abbrev Lx : Type := (Program × Launch × Env × State) × (MethodId × List Frame × Method × Code) × (va_G × GC × (Nat → Nat)) × (Nat × Nat × (Nat → Int32))
abbrev lad (F : Lx) : Nat → Nat := F.2.2.1.2.2
abbrev lxs (F : Lx) : Nat → Int32 := F.2.2.2.2.2
abbrev lL (F : Lx) : Nat := F.2.2.2.2.1
abbrev lb (F : Lx) : Nat := F.2.2.2.1
def LCtx (F : Lx) : Prop :=
  lw_At F.1.1 F.1.2.2.2 F.2.1.1 F.2.1.2.2.1 F.2.1.2.2.2 F.2.2.2.1 F.2.2.2.2.1 F.2.2.2.2.2 ∧ Env0 F.2.2.1.1 F.2.2.1.2.1 F.2.2.1.2.2 F.1.2.2.2 F.1.2.2.2.heap ∧ Nx F.1.2.2.2 ∧ F.1.2.1.stackTraces = false ∧ (∀ k, k < wN → F.1.2.2.2.heap.size ≤ F.2.2.1.2.2 k)
def LW (F : Lx) (σ : Mem) (cells slots pc : Nat) (lv : List (Nat × Value)) (st : List Value) : Prop :=
  ∀ (H : Heap) (locs : List Loc) (ls : Array Slot), va_P F.2.2.1.1 vcl (wld F.2.2.1.2.1 F.2.2.1.2.2 σ) H → va_S (wA F.2.2.1.2.2 F.1.2.2.2.heap.size) F.1.2.2.2.heap H locs → lv_has ls 7 lv →
    W F.1.1 F.1.2.1 F.1.2.2.1 room_1 F.1.2.2.2 F.2.1.1 #[Value.ref F.2.2.2.1] F.2.1.2.1 F.2.1.2.2.1 F.2.1.2.2.2 H locs cells slots (lw_Z F.2.1.2.1 #[Value.ref F.2.2.2.1] F.1.2.2.2) (F0 F.2.1.1 pc ls st)
section LR
variable {F : Lx} {σ σ' σ9 : Mem} {cells slots pc : Nat} {lv lv9 : List (Nat × Value)} {st stk : List Value} {x y v r : Int32}
theorem LCtx.ex (C : LCtx F) : F.1.1.tables.exec = Jvm.exec := C.1.1
theorem LCtx.bc (C : LCtx F) : F.2.1.2.2.2.code = code := C.1.2.1
theorem LCtx.own (C : LCtx F) : F.1.2.2.2.vm.findClass "LineFramesLaw" = some F.2.1.1.cls := C.1.2.2.2.2.1
theorem LCtx.out (C : LCtx F) : ¬ wA F.2.2.1.2.2 F.1.2.2.2.heap.size F.2.2.2.1 := by
  have hb : F.2.2.2.1 < F.1.2.2.2.heap.size := C.1.2.2.2.2.2.2.2.1
  rintro (⟨k, hk, hq⟩ | h)
  · have := C.2.2.2.2 k hk
    omega
  · omega
theorem l_iconst (C : LCtx F) {n : Int} (d : decode code pc = .ok (.iconst n, 1)) (hv : Int32.ofInt n = v) (K : LW F σ cells slots (pc + 1) lv (.int v :: st)) : LW F σ cells slots pc lv st := fun H locs ls hP hS hl => lv_iconst C.ex C.bc d hv (K H locs ls hP hS hl)
theorem l_bipush (C : LCtx F) {n : Int} (d : decode code pc = .ok (.bipush n, 2)) (hv : (Int8.ofInt n).toInt32 = v) (K : LW F σ cells slots (pc + 2) lv (.int v :: st)) : LW F σ cells slots pc lv st := fun H locs ls hP hS hl => lv_bipush C.ex C.bc d hv (K H locs ls hP hS hl)
theorem l_aload_n (C : LCtx F) {i : Fin 4} {a : Nat} (d : decode code pc = .ok (.aload_n i, 1)) (q : Nat) (hq : lv[q]? = some ((i : Nat), .ref a)) (K : LW F σ cells slots (pc + 1) lv (.ref a :: st)) : LW F σ cells slots pc lv st := fun H locs ls hP hS hl => lv_aload_n C.ex C.bc d rfl (lv_at hl q hq) (K H locs ls hP hS hl)
theorem l_iload (C : LCtx F) {i : Nat} (d : decode code pc = .ok (.iload i, 2)) (q : Nat) (hq : lv[q]? = some (i, .int x)) (K : LW F σ cells slots (pc + 2) lv (.int x :: st)) : LW F σ cells slots pc lv st := fun H locs ls hP hS hl => lv_iload C.ex C.bc d (lv_at hl q hq) (K H locs ls hP hS hl)
theorem l_iadd (C : LCtx F) (d : decode code pc = .ok (.iadd, 1)) (K : LW F σ cells slots (pc + 1) lv (.int (x + y) :: st)) : LW F σ cells slots pc lv (.int y :: .int x :: st) := fun H locs ls hP hS hl => lv_iadd C.ex C.bc d (K H locs ls hP hS hl)
theorem l_isub (C : LCtx F) (d : decode code pc = .ok (.isub, 1)) (K : LW F σ cells slots (pc + 1) lv (.int (x - y) :: st)) : LW F σ cells slots pc lv (.int y :: .int x :: st) := fun H locs ls hP hS hl => lv_isub C.ex C.bc d (K H locs ls hP hS hl)
theorem l_iand (C : LCtx F) (d : decode code pc = .ok (.iand, 1)) (K : LW F σ cells slots (pc + 1) lv (.int (x &&& y) :: st)) : LW F σ cells slots pc lv (.int y :: .int x :: st) := fun H locs ls hP hS hl => lv_iand C.ex C.bc d (K H locs ls hP hS hl)
theorem l_istore (C : LCtx F) {i : Nat} (d : decode code pc = .ok (.istore i, 2)) (hn : i < 7) (hl9 : (i, Value.int x) :: lv.filter (fun q => !(q.1 == i) && !(q.1 + 1 == i && q.2.category == 2)) = lv9) (K : LW F σ cells slots (pc + 2) lv9 st) : LW F σ cells slots pc lv (.int x :: st) := fun H locs ls hP hS hl => lv_istore C.ex C.bc d hl hn hl9 (fun ls2 hl2 => K H locs ls2 hP hS hl2)
theorem l_iinc (C : LCtx F) {i k : Nat} {n : Int} (d : decode code pc = .ok (.iinc i n, 3)) (hk : lv[k]? = some (i, .int x)) (hv : x + Int32.ofInt n = v) (hn : i < 7) (hl9 : (i, Value.int v) :: lv.filter (fun q => !(q.1 == i) && !(q.1 + 1 == i && q.2.category == 2)) = lv9) (K : LW F σ cells slots (pc + 3) lv9 st) : LW F σ cells slots pc lv st := fun H locs ls hP hS hl => lv_iinc C.ex C.bc d hl hk hv hn hl9 (fun ls2 hl2 => K H locs ls2 hP hS hl2)
theorem l_goto (C : LCtx F) {off : Int} {tgt : Nat} (d : decode code pc = .ok (.goto off, 3)) (ht : (pc : Int) + off = (tgt : Int)) (K : LW F σ cells slots tgt lv st) : LW F σ cells slots pc lv st := fun H locs ls hP hS hl => lv_goto C.ex C.bc d ht (K H locs ls hP hS hl)
theorem l_icmp_eq (C : LCtx F) {off : Int} {tgt : Nat} (d : decode code pc = .ok (.if_icmp .eq off, 3)) (ht : (pc : Int) + off = (tgt : Int)) (h : x = y) (K : LW F σ cells slots tgt lv st) : LW F σ cells slots pc lv (.int y :: .int x :: st) := fun H locs ls hP hS hl => lv_icmp_eq C.ex C.bc d ht (fun _ => K H locs ls hP hS hl) (fun c => absurd h c)
theorem l_icmp_gt (C : LCtx F) {off : Int} {tgt : Nat} (d : decode code pc = .ok (.if_icmp .gt off, 3)) (ht : (pc : Int) + off = (tgt : Int)) (k1 : y < x → LW F σ cells slots tgt lv st) (k2 : ¬ y < x → LW F σ cells slots (pc + 3) lv st) : LW F σ cells slots pc lv (.int y :: .int x :: st) := fun H locs ls hP hS hl => lv_icmp_gt C.ex C.bc d ht (fun c => k1 c H locs ls hP hS hl) (fun c => k2 c H locs ls hP hS hl)
theorem l_if_ne (C : LCtx F) {off : Int} {tgt : Nat} (d : decode code pc = .ok (.ifCond .ne off, 3)) (ht : (pc : Int) + off = (tgt : Int)) (k1 : ¬ x = 0 → LW F σ cells slots tgt lv st) (k2 : x = 0 → LW F σ cells slots (pc + 3) lv st) : LW F σ cells slots pc lv (.int x :: st) := fun H locs ls hP hS hl => lv_if_ne C.ex C.bc d ht (fun c => k1 c H locs ls hP hS hl) (fun c => k2 c H locs ls hP hS hl)
theorem l_if_eq (C : LCtx F) {off : Int} {tgt : Nat} (d : decode code pc = .ok (.ifCond .eq off, 3)) (ht : (pc : Int) + off = (tgt : Int)) (k1 : x = 0 → LW F σ cells slots tgt lv st) (k2 : ¬ x = 0 → LW F σ cells slots (pc + 3) lv st) : LW F σ cells slots pc lv (.int x :: st) := fun H locs ls hP hS hl => lv_if_eq C.ex C.bc d ht (fun c => k1 c H locs ls hP hS hl) (fun c => k2 c H locs ls hP hS hl)
theorem l_i2l (C : LCtx F) (d : decode code pc = .ok (.i2l, 1)) (K : LW F σ cells slots (pc + 1) lv (.long x.toInt64 :: st)) : LW F σ cells slots pc lv (.int x :: st) := fun H locs ls hP hS hl => lv_i2l C.ex C.bc d rfl (K H locs ls hP hS hl)
theorem l_out (C : LCtx F) (d : decode code pc = .ok (.laload, 1)) (K : LW F σ cells slots (pc + 1) lv (.long (σ 82 0).toInt64 :: st)) : LW F σ cells slots pc lv (.int 0 :: .ref (lad F 82) :: st) := fun H locs ls hP hS hl => va_lald C.ex C.bc C.2.1.1 hP 82 2 (wld_long (by decide) (by decide +kernel)) rfl (inb_in (by decide +kernel)) d (K H locs ls hP hS hl)
theorem l_sld (C : LCtx F) {i : Int32} (hin : vp_in i (lL F)) (d : decode code pc = .ok (.iaload, 1)) (K : LW F σ cells slots (pc + 1) lv (.int (lxs F i.toNatClampNeg) :: st)) : LW F σ cells slots pc lv (.int i :: .ref (lb F) :: st) := fun H locs ls hP hS hl => va_sld C.ex C.bc C.1.2.2.2.2.2.2.1 C.1.2.2.2.2.2.2.2.1 C.out hS hin d (K H locs ls hP hS hl)
theorem l_slen (C : LCtx F) (d : decode code pc = .ok (.arraylength, 1)) (K : LW F σ cells slots (pc + 1) lv (.int (Int32.ofNat (lL F)) :: st)) : LW F σ cells slots pc lv (.ref (lb F) :: st) := fun H locs ls hP hS hl => va_slen C.ex C.bc C.1.2.2.2.2.2.2.1 C.1.2.2.2.2.2.2.2.1 C.out hS d (K H locs ls hP hS hl)
theorem l_sub (ks : List Nat) (h : lv_pick lv ks = lv9) (K : LW F σ cells slots pc lv9 st) : LW F σ cells slots pc lv st := fun H locs ls hP hS hl => K H locs ls hP hS (lv_sub hl ks h)
theorem l_widen {c2 s2 : Nat} (hc : cells ≤ c2) (hs : slots ≤ s2) (K : LW F σ c2 s2 pc lv st) : LW F σ cells slots pc lv st := fun H locs ls hP hS hl => W.widen hc hs (K H locs ls hP hS hl)
theorem l_re (h : σ = σ9) (K : LW F σ9 cells slots pc lv st) : LW F σ cells slots pc lv st := h ▸ K
theorem l_ret (C : LCtx F) (hc : cells ≤ 601024) (hs : slots ≤ 7293000) (d1 : decode code pc = .ok (.iconst 1, 1)) (d2 : decode code (pc + 1) = .ok (.ireturn, 1)) : LW F σ cells slots pc lv [] := by
  intro H locs ls hP hS hl
  refine lv_iconst (v := 1) C.ex C.bc d1 (by decide) ?_
  refine va_forget (fun q hq => ?_) ?_
  · rcases hS.2.2 q hq with ⟨k, hk, h⟩ | h
    · rw [h]; exact C.2.2.2.2 k hk
    · exact h
  refine W.widen hc hs ?_
  exact lw_ret C.ex C.bc C.1.2.2.1 C.1.2.2.2.2.2.2.2.2.1 d2
/-- a method of ours that answers an int -/
theorem l_callM (C : LCtx F) {idx n cI k mL fr1 lo1 : Nat} {yy : MethodName} {bytes : ByteArray} {rt : Option FieldType} (hm : MV "LineFramesLaw" idx yy bytes mL rt n cI) (h : Is k cI) (As : List Value) (rest : List Value) (hct : Ctr F.1.2.1 F.2.2.1.1 F.2.2.1.2.1 F.2.2.1.2.2 yy bytes mL rt fr1 lo1 (.ref (lad F k) :: As) σ (.inl (some (.int r)), σ')) (hst : stk = As.reverse ++ .ref (lad F k) :: rest) (hn : As.length = n) (hR : fr1 + 1 ≤ 11 ∧ 8 + (mL + 11) + lo1 ≤ 450) (hc : cells ≤ 601024) (hs : slots ≤ 7293000) (hw : (rest.map fun v => v.category).sum ≤ 8) (d : decode code pc = .ok (.invokevirtual idx, 3)) (K : LW F σ' cells slots (pc + 3) lv (.int r :: rest)) : LW F σ cells slots pc lv stk := by
  subst hst
  intro H locs ls hP hS hl T hT X
  obtain ⟨o, T', L, X', hS', hP', ho, hret, -⟩ := cg_V (rest := rest) (pc := pc) (ls := ls) X C.ex C.own C.2.1 C.2.2.2.1 (by rw [hT]; exact hS) (by rw [hT]; exact hP) hm h hn hct hR.1 hR.2 hc hs hw (by rw [C.bc]; exact d) (by rw [hl.1, C.1.2.2.2.1])
  have ho' : o = .returned (some (.int r)) := ho
  obtain ⟨t, a1, b1⟩ := K T'.heap (locs ++ L) ls hP' hS' hl T' rfl X'
  exact ⟨t, hret _ ho' t a1, b1⟩
theorem l_callMv (C : LCtx F) {idx n cI k mL fr1 lo1 : Nat} {yy : MethodName} {bytes : ByteArray} {rt : Option FieldType} (hm : MV "LineFramesLaw" idx yy bytes mL rt n cI) (h : Is k cI) (As : List Value) (rest : List Value) (hct : Ctr F.1.2.1 F.2.2.1.1 F.2.2.1.2.1 F.2.2.1.2.2 yy bytes mL rt fr1 lo1 (.ref (lad F k) :: As) σ (.inl none, σ')) (hst : stk = As.reverse ++ .ref (lad F k) :: rest) (hn : As.length = n) (hR : fr1 + 1 ≤ 11 ∧ 8 + (mL + 11) + lo1 ≤ 450) (hc : cells ≤ 601024) (hs : slots ≤ 7293000) (hw : (rest.map fun v => v.category).sum ≤ 8) (d : decode code pc = .ok (.invokevirtual idx, 3)) (K : LW F σ' cells slots (pc + 3) lv rest) : LW F σ cells slots pc lv stk := by
  subst hst
  intro H locs ls hP hS hl T hT X
  obtain ⟨o, T', L, X', hS', hP', ho, hret, -⟩ := cg_V (rest := rest) (pc := pc) (ls := ls) X C.ex C.own C.2.1 C.2.2.2.1 (by rw [hT]; exact hS) (by rw [hT]; exact hP) hm h hn hct hR.1 hR.2 hc hs hw (by rw [C.bc]; exact d) (by rw [hl.1, C.1.2.2.2.1])
  have ho' : o = .returned none := ho
  obtain ⟨t, a1, b1⟩ := K T'.heap (locs ++ L) ls hP' hS' hl T' rfl X'
  exact ⟨t, hret _ ho' t a1, b1⟩
def MH (idx : Nat) (y : MethodName) (bytes : ByteArray) (mL : Nat) (hs : List (Nat × Nat × Nat × Nat)) (n : Nat) : Prop :=
  Cond.methodLink "LineFramesLaw" idx y ∈ lw_tbl ∧ Cond.initialized y.cls ∈ lw_tbl ∧ Cond.codeWith y bytes mL (some .int) hs ∈ lw_tbl ∧ (y.cls ≠ "java/lang/invoke/MethodHandle" ∧ y.cls ≠ "java/lang/invoke/VarHandle") ∧ (parseMethodDescriptor y.desc).map (fun d => d.parameters.length) = some n ∧ Cond.static y ∈ lw_tbl
theorem stb_codeW {y : MethodName} {b : ByteArray} {n : Nat} {r : Option FieldType} {hs : List (Nat × Nat × Nat × Nat)} : stb (.codeWith y b n r hs) = true := by first | rfl | simp [stb, Cond.onTables, Cond.keeps, Cond.steady]
/-- a helper of the law's -/
theorem l_callH (C : LCtx F) {idx n mL fr1 lo1 : Nat} {yy : MethodName} {bytes : ByteArray} {hs : List (Nat × Nat × Nat × Nat)} (hm : MH idx yy bytes mL hs n) (As : List Value) (hct : CtrH F.1.2.1 F.2.2.1.1 F.2.2.1.2.1 F.2.2.1.2.2 yy bytes mL hs fr1 lo1 As σ r σ') (hst : stk = As.reverse) (hn : As.length = n) (hR : fr1 + 1 ≤ 11 ∧ 8 + (mL + 11) + lo1 ≤ 450) (hc : cells + 1 ≤ 601024) (hsl : slots + 6 ≤ 7293000) (d : decode code pc = .ok (.invokestatic idx, 3)) (K : LW F σ' (cells + 1) (slots + 6) (pc + 3) lv [.int r]) : LW F σ cells slots pc lv stk := by
  subst hst
  intro H locs ls hP hS hl T hT X
  have wd : ∀ {w : Cond}, w ∈ lw_tbl → stb w = true → w.before #[Value.ref F.2.2.2.1] F.1.2.2.2 = true := fun h1 h2 => C.2.1.2.1 _ h1 h2 _
  obtain ⟨hlk, hini, hcw, hnot, hpar, hstt⟩ := hm
  obtain ⟨mk, methM, cM, hnamed, hmethM, -, -, -, -, -, -, hsigM⟩ := Cond.codeWith_spec (wd hcw stb_codeW)
  have hstatic : methM.isStatic = true := Cond.static_spec hnamed hmethM (wd hstt stb_static)
  obtain ⟨kP, hkP, -⟩ := className_of_methodNamed hnamed
  have hinitP : kP.init = .initialized := Cond.initialized_spec (findClass_of_methodNamed hnamed) hkP (wd hini stb_ini)
  have hlen : As.length = methM.sig.parameters.length := by
    rw [hsigM] at hpar
    rw [hn]
    exact (Option.some.inj hpar).symm
  obtain ⟨vm₁, X₁, hst⟩ := X.invokestatic C.ex C.own (wd hlk stb_ml) hnamed hmethM hstatic hkP hinitP hnot (g := F0 F.2.1.1 pc ls As.reverse) rfl (argsL := As) (rest := []) hlen (by simp [F0]) (by rw [C.bc]; exact d)
  have hWU : F.1.2.2.2.WarmedH (T.setVm vm₁).vm := X₁.warmed
  have hSU : va_S (wA F.2.2.1.2.2 F.1.2.2.2.heap.size) F.1.2.2.2.heap (T.setVm vm₁).heap locs := by rw [show (T.setVm vm₁).heap = H from hT]; exact hS
  have hE2 : Env0 F.2.2.1.1 F.2.2.1.2.1 F.2.2.1.2.2 (T.setVm vm₁) (T.setVm vm₁).heap := C.2.1.step hWU hSU
  obtain ⟨T', L, X', hL, hP', ⟨hF1, hF2⟩, hsteps⟩ := ct_goH X₁ (g := F0 F.2.1.1 pc ls []) (ig := .invokestatic idx) rfl (by show ls.size = _; rw [hl.1, C.1.2.2.2.1]) (by rw [C.bc]; exact d) (lv_room (Nat.le_of_ble_eq_true rfl)) (X₁.named hnamed) hct (hE2.2.1 _ hcw stb_codeW _) (hE2.2.1 _ hini stb_ini _) hR.1 hR.2 hc hsl (by rw [show (T.setVm vm₁).heap = H from hT]; exact hP) hE2 (C.2.2.1.moved hWU.alike) C.2.2.2.1
  obtain ⟨t, a1, b1⟩ := K T'.heap (locs ++ L) ls hP' (hSU.next hF1 hF2 hL) hl T' rfl X'
  exact ⟨t, hst t (fun acts => by rw [doInvoke_state]; exact hsteps.trans a1), b1⟩
end LR
