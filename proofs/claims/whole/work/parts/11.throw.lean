/-! THROWS -/
section TH
variable {p : Program} {l : Launch} {e : Env} {R R' : Room} {s : State} {m : MethodId} {args : Array Value} {below : List Frame} {meth : Method} {c : Code} {T : State} {locs : List Loc} {cells slots : Nat}
/-- where the walk stands now, told as if it began here -/
abbrev anew (s T : State) (m : MethodId) (args : Array Value) (below : List Frame) : State := (T.setVm s.vm).setFrames (.invoking m args :: below)
theorem st_anew (X : Stand p l e R s m args below meth c T locs cells slots) (hf : R'.frames ≤ R.frames) (hl : R'.locals ≤ R.locals) (hc : cells + R'.cells ≤ R.cells) (hs : slots + R'.slots ≤ R.slots) : Stand p l e R' (anew s T m args below) m args below meth c T [] 0 0 := by
  have htop : (T.setVm s.vm).topJava?.isSome := X.here.top
  have hcur := State.cur_lt_of_top htop
  have hF : (anew s T m args below).frames = .invoking m args :: below := State.frames_setFrames _ hcur
  obtain ⟨g₀, hg0⟩ := Option.isSome_iff_exists.mp htop
  obtain ⟨r, hr⟩ := State.topJava?_eq_some.mp hg0
  have hlim : e.platform.stackLimits (T.setVm s.vm).me = e.platform.stackLimits s.me := X.limits
  have hbyt : (T.setVm s.vm).me.stackBytes = s.me.stackBytes := X.bytes
  have hlocs : (anew s T m args below).localsInUse = s.localsInUse := by rw [State.localsInUse_invoking hF (meth := meth) (c := c) X.method X.code, State.localsInUse_invoking X.frames X.method X.code]
  have hroom : (anew s T m args below).hasRoom e.platform R' = true := by
    have h := X.room
    have q1 := X.heapSize
    have q2 := X.used
    simp only [State.hasRoom, Bool.and_eq_true, decide_eq_true_eq] at h ⊢
    obtain ⟨⟨⟨⟨h1, h2, h3, h4, h5, h6⟩, h7⟩, h8⟩, -⟩ := h
    rw [X.frames, List.length_cons] at h2 h3
    simp only [hF, hlocs, List.length_cons, State.stackLimits_setFrames, State.stackBytes_setFrames, hlim, hbyt]
    refine ⟨⟨⟨⟨by omega, by omega, by omega, by omega, by omega, h6⟩, ?_⟩, ?_⟩, X.book⟩
    · show T.heap.size + R'.cells ≤ e.platform.maxCells
      omega
    · show T.slotsUsed + R'.slots ≤ e.platform.maxSlots
      omega
  have hdrop : (T.heap.toList.drop T.heap.size) = [] := List.drop_eq_nil_of_le (Nat.le_of_eq Array.length_toList)
  refine ⟨X.admits, X.cas, X.clock, hF, hroom, X.hears, X.method, X.code, X.here, X.tail, X.warmed, by rw [State.stackLimits_setFrames]; rfl, by rw [State.stackBytes_setFrames]; rfl, ?_, Nat.le_refl _, Nat.le_refl _, ?_, ?_, fun a c9 h9 => ⟨c9, h9, rfl, rfl, fun _ _ => rfl⟩⟩
  · obtain ⟨z, hz, -⟩ := State.frames_cons hr
    show T.setVm s.vm = { ((T.setVm s.vm).setFrames (.invoking m args :: below)).setFrames (T.setVm s.vm).frames with heap := T.heap, slotsUsed := T.slotsUsed }
    rw [State.setFrames_setFrames, State.setFrames_self hz]
    rfl
  · show T.slotsUsed = T.slotsUsed + ((T.heap.toList.drop T.heap.size).map (·.slots.size)).sum
    rw [hdrop]; rfl
  · show ((T.heap.toList.drop T.heap.size).map (·.slots.size)).sum ≤ 0
    rw [hdrop]; exact Nat.le_refl _
end TH
theorem nb_keep {s U : State} {k n : Nat} (h : s.sameButNew ({ U with vm := s.vm } : State) [] k n) : s.heap.size ≤ U.heap.size ∧ ∀ q : Nat, q < s.heap.size → U.heap[q]? = s.heap[q]? := by
  obtain ⟨-, h2, -, -, -, h6⟩ := h
  refine ⟨h2, fun q hq => ?_⟩
  obtain ⟨c9, e1, e2, -, e4⟩ := h6 q _ (Array.getElem?_eq_getElem hq)
  have hs : c9.slots = (s.heap[q]).slots := Array.ext_getElem? fun i => e4 i (by simp)
  have h9 : c9 = s.heap[q] := by rw [hs] at e2; exact e2
  have e5 : U.heap[q]? = some c9 := e1
  rw [e5, h9, Array.getElem?_eq_getElem hq]
abbrev xSup : List String := ["java/lang/RuntimeException", "java/lang/Exception"]
abbrev xSt : List Cond := [.isRef (.static "java/lang/Throwable" "UNASSIGNED_STACK" "[Ljava/lang/StackTraceElement;"), .isRef (.static "java/lang/Throwable" "SUPPRESSED_SENTINEL" "Ljava/util/List;"), .laysStatic "java/lang/Throwable" "UNASSIGNED_STACK" "[Ljava/lang/StackTraceElement;", .laysStatic "java/lang/Throwable" "SUPPRESSED_SENTINEL" "Ljava/util/List;"]
def OX (own : String) (ik ic n : Nat) : Prop := Cond.classLink own ik (xNm n) ∈ lw_tbl ∧ Cond.instantiable (xNm n) 6 ∈ lw_tbl ∧ Cond.initialized (xNm n) ∈ lw_tbl ∧ Bundle.fit (xNm n) = true ∧ ∀ a ∈ Bundle.ownAtoms own ic (xNm n) xSup, (a ∈ lw_tbl ∧ stb a = true) ∨ a ∈ xSt
section JX
variable {β : Type} {F : Fx} {nL : Nat} {cv : β → Option Rs} {E : β} {σ : Mem} {pc : Nat} {lv : List (Nat × Value)} {st : List Value} {cc : ByteArray} {own tx : String} {ret : Option FieldType} {fr lo n ik is ic : Nat}
theorem j_throw (C : Ctx F cc nL own ret fr lo) (ho : OX own ik ic n) (hstr : (own, is, tx) ∈ strL) (hfr : 5 < fr) (hlo : (st.map fun v => v.category).sum + 82 ≤ lo)
    (d0 : decode cc pc = .ok (.new ik, 3)) (d3 : decode cc (pc + 3) = .ok (.dup, 1)) (d4 : decode cc (pc + 4) = .ok (.ldc is, 2)) (d6 : decode cc (pc + 6) = .ok (.invokespecial ic, 3)) (d9 : decode cc (pc + 9) = .ok (.athrow, 1)) (hx : ∀ ρ, cv E = some ρ → ρ = (.inr n, σ)) : J F nL cv E σ pc lv st := by
  intro hE H locs ls hP hS hl T hT X
  have hρ := hx _ hE
  have hRm : F.1.2.2.2.1 = rmOf fr lo F.2.2.2.2.2 := C.2.2.2.2.2.2.2.1
  have hRc : F.1.2.2.2.1.cells = 1 := by rw [hRm, hρ]; rfl
  have hRs : F.1.2.2.2.1.slots = 6 := by rw [hRm, hρ]; rfl
  have hRf : F.1.2.2.2.1.frames = fr := by rw [hRm]; rfl
  have hRl : F.1.2.2.2.1.locals = lo := by rw [hRm]; rfl
  obtain ⟨w1, w2, w3, hfit, hat⟩ := ho
  have hnt : F.1.2.2.1.platform.stackTraces = false := (show F.1.2.2.1.platform.stackTraces = F.1.2.1.stackTraces by rw [X.admits.platform]).trans C.2.2.2.2.2.2.2.2.2.1
  have Y := st_anew X (R' := { frames := fr, locals := lo, cells := 1, slots := 6 }) (by rw [hRf]; exact Nat.le_refl _) (by rw [hRl]; exact Nat.le_refl _) (by rw [hRc]; exact Nat.le_refl _) (by rw [hRs]; exact Nat.le_refl _)
  obtain ⟨s', hs'⟩ : ∃ z, z = anew F.1.2.2.2.2 T F.2.1.1 F.2.1.2.1 F.2.1.2.2.1 := ⟨_, rfl⟩
  rw [← hs'] at Y
  have hvm : s'.vm = F.1.2.2.2.2.vm := by rw [hs']; rfl
  have hhp : s'.heap = H := by rw [hs']; exact hT
  have hWs : F.1.2.2.2.2.WarmedH s'.vm := by rw [hvm]; exact State.WarmedH.refl _
  have hE' : Env0 F.2.2.1 F.2.2.2.1 F.2.2.2.2.1 s' s'.heap := by rw [hhp]; exact C.env.step hWs hS
  have hatoms : ∀ a ∈ Bundle.ownAtoms own ic (xNm n) xSup, a.before F.2.1.2.1 s' = true := by
    obtain ⟨a1, cl1, g1, -, -, g4⟩ := hE'.2.2.1
    obtain ⟨a2, cl2, g5, -, -, g8⟩ := hE'.2.2.2.1
    intro a ha
    rcases hat a ha with ⟨m1, m2⟩ | m1
    · exact hE'.2.1 a m1 m2 _
    · simp only [xSt, List.mem_cons, List.not_mem_nil, or_false] at m1
      rcases m1 with rfl | rfl | rfl | rfl
      · exact (g4 s' _ (Vm.Alike.refl _) g1).1
      · exact (g8 s' _ (Vm.Alike.refl _) g5).1
      · exact (g4 s' _ (Vm.Alike.refl _) g1).2
      · exact (g8 s' _ (Vm.Alike.refl _) g5).2
  have hown' : s'.vm.findClass own = some F.2.1.1.cls := by rw [hvm]; exact C.hown
  have hi2 := hE'.2.1 _ w2 (by first | rfl | simp [stb, Cond.onTables, Cond.keeps, Cond.steady]) F.2.1.2.1
  obtain ⟨cC, kC0, hfc, hkC0, -⟩ := Cond.instantiable_spec hi2
  obtain ⟨sa, hsa⟩ := hE'.2.2.2.2.1 _ hstr
  have key : W F.1.1 F.1.2.1 F.1.2.2.1 { frames := fr, locals := lo, cells := 1, slots := 6 } s' F.2.1.1 F.2.1.2.1 F.2.1.2.2.1 F.2.1.2.2.2.1 F.2.1.2.2.2.2 H [] 0 0 (fun U => U.status = .running ∧ Ended U F.2.1.2.2.1 (.threw H.size) ∧ s'.WarmedH U.vm ∧ s'.sameButNew ({ U with vm := s'.vm } : State) [] 1 6 ∧ ∃ ce, U.heap[H.size]? = some ce ∧ ce.vm = .none ∧ s'.vm.findClass (xNm n) = some ce.cls) (F0 F.2.1.1 pc ls st) := by
    refine W.newcK C.1 C.2.1 hown' (hE'.2.1 _ w1 (by first | rfl | simp [stb, Cond.onTables, Cond.keeps, Cond.steady]) _) hi2 (hE'.2.1 _ w3 stb_ini _) (g := F0 F.2.1.1 pc ls st) rfl d0 (Nat.le_refl _) (Nat.le_refl _) hfc rfl (fun H1 kC hkC hcell hsz hold => ?_)
    refine lv_dup C.1 C.2.1 d3 rfl ?_
    refine va_ldcS C.1 C.2.1 hown' hsa d4 ?_
    intro T2 hT2 X2
    have hrest : 2 * (F0 F.2.1.1 (pc + 6) ls (.ref sa :: .ref H.size :: .ref H.size :: st)).monitorRoom + ((Value.ref H.size :: st).map fun v => v.category).sum + (13 * (xSup.length + 1) + 42) ≤ lo := by
      show 2 * 0 + (1 + (st.map fun v => v.category).sum) + (13 * 3 + 42) ≤ lo
      omega
    have hcell' : T2.heap[H.size]? = some (freshCell cC kC) := by rw [hT2]; exact hcell
    have hsz' : (F0 F.2.1.1 (pc + 6) ls (.ref sa :: .ref H.size :: .ref H.size :: st)).locals.size = F.2.1.2.2.2.2.maxLocals := by rw [C.2.2.1]; exact hl.1
    obtain ⟨U, st1, hrun, hend, hWU, hsame, ce, hce, hoc⟩ := X2.ctorThrowS C.1 hnt hown' hfit (by decide +kernel) hatoms (fun x hx => by cases hx) (a := H.size) hfc hkC hcell' (by rw [hhp]; exact Nat.le_refl _) (msg := .ref sa) rfl (g := F0 F.2.1.1 (pc + 6) ls (.ref sa :: .ref H.size :: .ref H.size :: st)) rfl hsz' rfl rfl (rest := st) (by rfl) (by rw [C.2.1]; exact d6) (by rw [C.2.1]; exact d9) (fun x hx => (C.2.2.2.2.2.2.1 x hx).elim) hfr hrest C.2.2.2.2.2.1
    exact ⟨U, st1, hrun, hend, hWU, hsame, ce, hce, hoc.vm, hoc.cls⟩
  obtain ⟨t, a1, hrun, hend, hWt, hsame, ce, hce, hcv, hcl⟩ := key T hT Y
  obtain ⟨z1, z2⟩ := nb_keep hsame
  rw [hhp] at z1 z2
  refine ⟨t, a1, .threw H.size, hrun, hend, ?_, locs ++ [], ⟨State.WarmedH.trans hWs hWt, ?_⟩, fun q hq => hS.2.2 q (by simpa using hq)⟩
  · rw [hρ]
    refine ⟨⟨H.size, ce, rfl, hce, hcv, by rw [← hvm]; exact hcl⟩, hP.kept fun k q hq => z2 q.1 (hP k q hq).lt, ?_, fun q h1 h2 => ?_⟩
    · exact Nat.le_trans hS.1 z1
    · rw [z2 q (Nat.lt_of_lt_of_le h1 hS.1)]
      exact hS.2.1 q h1 h2
  · have h2 : (T.setVm F.1.2.2.2.2.vm).sameButNew ({ t with vm := F.1.2.2.2.2.vm } : State) [] 1 6 := by
      rw [hs'] at hsame
      obtain ⟨e1, e2⟩ := hsame
      refine ⟨?_, e2⟩
      refine e1.trans ?_
      show _ = { (T.setVm F.1.2.2.2.2.vm).setFrames t.frames with heap := t.heap, slotsUsed := t.slotsUsed }
      rw [← State.setFrames_setFrames (T.setVm F.1.2.2.2.2.vm) (.invoking F.2.1.1 F.2.1.2.1 :: F.2.1.2.2.1)]
      rfl
    have h3 := X.same.trans h2
    rw [hρ]
    exact h3
theorem ldcSW {p : Program} {l : Launch} {e : Env} {R : Room} {s : State} {m : MethodId} {args : Array Value} {below : List Frame} {meth : Method} {c : Code} {H : Heap} {locs : List Loc} {cells slots : Nat} {Q : State → Prop} {cc : ByteArray} {pc : Nat} {ls : Array Slot} {rest : List Value} (hexec : p.tables.exec = Jvm.exec) (hb : c.code = cc) {own tx : String} {index q : Nat} (hown : s.vm.findClass own = some m.cls) (hZ : vk_R own index tx q s) (hdg : decode cc pc = .ok (.ldc_w index, 3))
    (k : W p l e R s m args below meth c H locs cells slots Q (F0 m (pc + 3) ls (.ref q :: rest))) : W p l e R s m args below meth c H locs cells slots Q (F0 m pc ls rest) := by
  intro T hT X
  obtain ⟨t, a1, b1⟩ := k T hT X
  exact ⟨t, X.ldcStringW hexec hown (text := tx) (a := q) hZ.1 hZ.2 (g := F0 m pc ls rest) rfl (by rw [hb]; exact hdg) t a1, b1⟩
theorem j_throwW (C : Ctx F cc nL own ret fr lo) (ho : OX own ik ic n) (hstr : (own, is, tx) ∈ strL) (hfr : 5 < fr) (hlo : (st.map fun v => v.category).sum + 82 ≤ lo)
    (d0 : decode cc pc = .ok (.new ik, 3)) (d3 : decode cc (pc + 3) = .ok (.dup, 1)) (d4 : decode cc (pc + 4) = .ok (.ldc_w is, 3)) (d6 : decode cc (pc + 7) = .ok (.invokespecial ic, 3)) (d9 : decode cc (pc + 10) = .ok (.athrow, 1)) (hx : ∀ ρ, cv E = some ρ → ρ = (.inr n, σ)) : J F nL cv E σ pc lv st := by
  intro hE H locs ls hP hS hl T hT X
  have hρ := hx _ hE
  have hRm : F.1.2.2.2.1 = rmOf fr lo F.2.2.2.2.2 := C.2.2.2.2.2.2.2.1
  have hRc : F.1.2.2.2.1.cells = 1 := by rw [hRm, hρ]; rfl
  have hRs : F.1.2.2.2.1.slots = 6 := by rw [hRm, hρ]; rfl
  have hRf : F.1.2.2.2.1.frames = fr := by rw [hRm]; rfl
  have hRl : F.1.2.2.2.1.locals = lo := by rw [hRm]; rfl
  obtain ⟨w1, w2, w3, hfit, hat⟩ := ho
  have hnt : F.1.2.2.1.platform.stackTraces = false := (show F.1.2.2.1.platform.stackTraces = F.1.2.1.stackTraces by rw [X.admits.platform]).trans C.2.2.2.2.2.2.2.2.2.1
  have Y := st_anew X (R' := { frames := fr, locals := lo, cells := 1, slots := 6 }) (by rw [hRf]; exact Nat.le_refl _) (by rw [hRl]; exact Nat.le_refl _) (by rw [hRc]; exact Nat.le_refl _) (by rw [hRs]; exact Nat.le_refl _)
  obtain ⟨s', hs'⟩ : ∃ z, z = anew F.1.2.2.2.2 T F.2.1.1 F.2.1.2.1 F.2.1.2.2.1 := ⟨_, rfl⟩
  rw [← hs'] at Y
  have hvm : s'.vm = F.1.2.2.2.2.vm := by rw [hs']; rfl
  have hhp : s'.heap = H := by rw [hs']; exact hT
  have hWs : F.1.2.2.2.2.WarmedH s'.vm := by rw [hvm]; exact State.WarmedH.refl _
  have hE' : Env0 F.2.2.1 F.2.2.2.1 F.2.2.2.2.1 s' s'.heap := by rw [hhp]; exact C.env.step hWs hS
  have hatoms : ∀ a ∈ Bundle.ownAtoms own ic (xNm n) xSup, a.before F.2.1.2.1 s' = true := by
    obtain ⟨a1, cl1, g1, -, -, g4⟩ := hE'.2.2.1
    obtain ⟨a2, cl2, g5, -, -, g8⟩ := hE'.2.2.2.1
    intro a ha
    rcases hat a ha with ⟨m1, m2⟩ | m1
    · exact hE'.2.1 a m1 m2 _
    · simp only [xSt, List.mem_cons, List.not_mem_nil, or_false] at m1
      rcases m1 with rfl | rfl | rfl | rfl
      · exact (g4 s' _ (Vm.Alike.refl _) g1).1
      · exact (g8 s' _ (Vm.Alike.refl _) g5).1
      · exact (g4 s' _ (Vm.Alike.refl _) g1).2
      · exact (g8 s' _ (Vm.Alike.refl _) g5).2
  have hown' : s'.vm.findClass own = some F.2.1.1.cls := by rw [hvm]; exact C.hown
  have hi2 := hE'.2.1 _ w2 (by first | rfl | simp [stb, Cond.onTables, Cond.keeps, Cond.steady]) F.2.1.2.1
  obtain ⟨cC, kC0, hfc, hkC0, -⟩ := Cond.instantiable_spec hi2
  obtain ⟨sa, hsa⟩ := hE'.2.2.2.2.1 _ hstr
  have key : W F.1.1 F.1.2.1 F.1.2.2.1 { frames := fr, locals := lo, cells := 1, slots := 6 } s' F.2.1.1 F.2.1.2.1 F.2.1.2.2.1 F.2.1.2.2.2.1 F.2.1.2.2.2.2 H [] 0 0 (fun U => U.status = .running ∧ Ended U F.2.1.2.2.1 (.threw H.size) ∧ s'.WarmedH U.vm ∧ s'.sameButNew ({ U with vm := s'.vm } : State) [] 1 6 ∧ ∃ ce, U.heap[H.size]? = some ce ∧ ce.vm = .none ∧ s'.vm.findClass (xNm n) = some ce.cls) (F0 F.2.1.1 pc ls st) := by
    refine W.newcK C.1 C.2.1 hown' (hE'.2.1 _ w1 (by first | rfl | simp [stb, Cond.onTables, Cond.keeps, Cond.steady]) _) hi2 (hE'.2.1 _ w3 stb_ini _) (g := F0 F.2.1.1 pc ls st) rfl d0 (Nat.le_refl _) (Nat.le_refl _) hfc rfl (fun H1 kC hkC hcell hsz hold => ?_)
    refine lv_dup C.1 C.2.1 d3 rfl ?_
    refine ldcSW C.1 C.2.1 hown' hsa d4 ?_
    intro T2 hT2 X2
    have hrest : 2 * (F0 F.2.1.1 (pc + 7) ls (.ref sa :: .ref H.size :: .ref H.size :: st)).monitorRoom + ((Value.ref H.size :: st).map fun v => v.category).sum + (13 * (xSup.length + 1) + 42) ≤ lo := by
      show 2 * 0 + (1 + (st.map fun v => v.category).sum) + (13 * 3 + 42) ≤ lo
      omega
    have hcell' : T2.heap[H.size]? = some (freshCell cC kC) := by rw [hT2]; exact hcell
    have hsz' : (F0 F.2.1.1 (pc + 7) ls (.ref sa :: .ref H.size :: .ref H.size :: st)).locals.size = F.2.1.2.2.2.2.maxLocals := by rw [C.2.2.1]; exact hl.1
    obtain ⟨U, st1, hrun, hend, hWU, hsame, ce, hce, hoc⟩ := X2.ctorThrowS C.1 hnt hown' hfit (by decide +kernel) hatoms (fun x hx => by cases hx) (a := H.size) hfc hkC hcell' (by rw [hhp]; exact Nat.le_refl _) (msg := .ref sa) rfl (g := F0 F.2.1.1 (pc + 7) ls (.ref sa :: .ref H.size :: .ref H.size :: st)) rfl hsz' rfl rfl (rest := st) (by rfl) (by rw [C.2.1]; exact d6) (by rw [C.2.1]; exact d9) (fun x hx => (C.2.2.2.2.2.2.1 x hx).elim) hfr hrest C.2.2.2.2.2.1
    exact ⟨U, st1, hrun, hend, hWU, hsame, ce, hce, hoc.vm, hoc.cls⟩
  obtain ⟨t, a1, hrun, hend, hWt, hsame, ce, hce, hcv, hcl⟩ := key T hT Y
  obtain ⟨z1, z2⟩ := nb_keep hsame
  rw [hhp] at z1 z2
  refine ⟨t, a1, .threw H.size, hrun, hend, ?_, locs ++ [], ⟨State.WarmedH.trans hWs hWt, ?_⟩, fun q hq => hS.2.2 q (by simpa using hq)⟩
  · rw [hρ]
    refine ⟨⟨H.size, ce, rfl, hce, hcv, by rw [← hvm]; exact hcl⟩, hP.kept fun k q hq => z2 q.1 (hP k q hq).lt, ?_, fun q h1 h2 => ?_⟩
    · exact Nat.le_trans hS.1 z1
    · rw [z2 q (Nat.lt_of_lt_of_le h1 hS.1)]
      exact hS.2.1 q h1 h2
  · have h2 : (T.setVm F.1.2.2.2.2.vm).sameButNew ({ t with vm := F.1.2.2.2.2.vm } : State) [] 1 6 := by
      rw [hs'] at hsame
      obtain ⟨e1, e2⟩ := hsame
      refine ⟨?_, e2⟩
      refine e1.trans ?_
      show _ = { (T.setVm F.1.2.2.2.2.vm).setFrames t.frames with heap := t.heap, slotsUsed := t.slotsUsed }
      rw [← State.setFrames_setFrames (T.setVm F.1.2.2.2.2.vm) (.invoking F.2.1.1 F.2.1.2.1 :: F.2.1.2.2.1)]
      rfl
    have h3 := X.same.trans h2
    rw [hρ]
    exact h3
end JX
