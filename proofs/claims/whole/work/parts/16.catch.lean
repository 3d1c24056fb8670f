/-! WHAT IS CAUGHT: the search through a method's table, where a row's class may still want resolving -/
def Sees (pl : Platform) (s0 : State) (d : ClassId) (at0 : Nat) (thrown : ClassId) : List ExceptionTableEntry → Nat → Prop
  | [], _ => False
  | x :: t, pc => covers x at0 = true ∧ x.catchType ≠ 0 ∧ ∃ c, s0.vm.ClassLinks pl d x.catchType c ∧ ((s0.vm.assignable thrown c = true ∧ pc = x.handlerPc) ∨ (s0.vm.assignable thrown c = false ∧ Sees pl s0 d at0 thrown t pc))
theorem sees_go {e : Env} {s0 : State} {f : JFrame} {a : Addr} {cell : Cell} (hobj : ∀ k, cell.vm ≠ .statics k) (hk0 : ∃ k, s0.vm.classes[cell.cls]? = some k) : ∀ (tbl : List ExceptionTableEntry) (pc : Nat) (S : State), s0.WarmedH S.vm → S.heap[a]? = some cell → Sees e.platform s0 f.method.cls f.pc cell.cls tbl pc →
    ∃ vm', s0.WarmedH vm' ∧ ∀ (Q : Handler → Pre) (E : CtlPost) (d : Bool) (acts : List Action), wp (findHandler.go f a tbl) Q E e d acts S ↔ Q (.found pc) d acts (S.setVm vm') := by
  intro tbl
  induction tbl with
  | nil => intro pc S _ _ h; exact h.elim
  | cons x t ih =>
    intro pc S hW hcell h
    obtain ⟨hx, h0, c, hl, h⟩ := h
    obtain ⟨dk, _, _, kt, hd, _, _, _, _, hkt, _, hopen⟩ := hl.here
    have hW2 : s0.WarmedH (S.vm.noted f.method.cls x.catchType (.cls c)) := hW.noted hd hopen (State.rightAt_cls hl)
    obtain ⟨k0, hk0⟩ := hk0
    obtain ⟨k1, hk1, -⟩ := hW2.alike.2.2 _ _ hk0
    obtain ⟨k2, hk2, -⟩ := hW2.alike.2.2 _ _ hkt
    obtain ⟨ha, ht⟩ := (resolveClass_links e.toSetting (hW.classLinks hl)).op (op := VmOp.resolveClass f.method.cls x.catchType) rfl
    simp only [covers] at hx
    rcases h with ⟨hy, rfl⟩ | ⟨hn, hs⟩
    · have hy2 : (S.vm.noted f.method.cls x.catchType (.cls c)).assignable cell.cls c = true := by rw [hW2.alike.assignable]; exact hy
      refine ⟨_, hW2, fun Q E d acts => ?_⟩
      simp [findHandler.go, hx, h0, ha, ht, hcell, hobj, hk1, hk2, hy2, VmOp.dirties, VmOp.acts]
    · have hn2 : (S.vm.noted f.method.cls x.catchType (.cls c)).assignable cell.cls c = false := by rw [hW2.alike.assignable]; exact hn
      obtain ⟨vm', hW', hq⟩ := ih pc (S.setVm (S.vm.noted f.method.cls x.catchType (.cls c))) hW2 hcell hs
      refine ⟨vm', hW', fun Q E d acts => ?_⟩
      rw [show S.setVm vm' = (S.setVm (S.vm.noted f.method.cls x.catchType (.cls c))).setVm vm' from rfl, ← hq Q E d acts]
      simp [findHandler.go, hx, h0, ha, ht, hcell, hobj, hk1, hk2, hn2, VmOp.dirties, VmOp.acts]
section CH
variable {p : Program} {l : Launch} {e : Env} {R : Room} {s : State} {m : MethodId} {args : Array Value} {below : List Frame} {meth : Method} {c : Code} {T : State} {locs : List Loc} {cells slots : Nat}
theorem st_caught (X : Stand p l e R s m args below meth c T locs cells slots) {g : JFrame} (hg : g.method = m) {q : Addr} {cell : Cell} {pc : Nat} (hcell : T.heap[q]? = some cell) (hv : cell.vm = .none) (hk0 : ∃ k, s.vm.classes[cell.cls]? = some k) (h : Sees e.platform s m.cls g.pc cell.cls c.exceptionTable.toList pc) :
    ∃ vm', Stand p l e R s m args below meth c (T.setVm vm') locs cells slots ∧ ∀ target, Steps p.tables e below ((T.setVm vm').setTop { g with pc := pc, stack := [.ref q] }) target → Steps p.tables e below ((T.setTop g).pushFrame (.throwing q)) target := by
  subst hg
  have hh : ((T.setTop g).pushFrame (.throwing q)).heap[q]? = some cell := hcell
  obtain ⟨vm', hW', hf⟩ := sees_go (e := e) (f := g) (a := q) (fun k => by rw [hv]; simp) hk0 _ pc ((T.setTop g).pushFrame (.throwing q)) X.warmed hh h
  refine ⟨vm', X.noted hW', fun target hrest => ?_⟩
  have hAt : At T g.method c below := X.here
  obtain ⟨hgo, hw⟩ := hAt.throwing q
  refine Steps.head hgo hw ?_
  have hstep : (stepThrowing e ((T.setTop g).pushFrame (.throwing q)) q (.java g :: T.frames.tail)).Is ((((T.setTop g).pushFrame (.throwing q)).setVm vm').setFrames (.java { g with pc := pc, stack := [.ref q] } :: T.frames.tail)) [] := by
    simp only [stepThrowing, searchFrame, vmDo]
    generalize hr : Sem.go _ e false [] _ = res
    obtain ⟨as, rfl, ha⟩ := Sem.eq_ok_of hr (a := Handler.found pc) (s' := ((T.setTop g).pushFrame (.throwing q)).setVm vm') (acts' := []) (by simp [W.findHandler_eq (s := (T.setTop g).pushFrame (.throwing q)) (f := g) X.method' X.code, hf _ _ _ _])
    exact ⟨rfl, ha⟩
  rw [stepThread_throwing (frames_entered hAt.top _), hstep.1]
  obtain ⟨g₀, hg0⟩ := Option.isSome_iff_exists.mp hAt.top
  obtain ⟨r, hr⟩ := State.topJava?_eq_some.mp hg0
  have hr' : (T.setVm vm').frames = .java g₀ :: r := hr
  rw [State.setTop_of_frames _ hr'] at hrest
  rw [hr, List.tail_cons]
  have e1 : (((T.setTop g).pushFrame (.throwing q)).setVm vm').setFrames (.java { g with pc := pc, stack := [.ref q] } :: r) = (T.setVm vm').setFrames (.java { g with pc := pc, stack := [.ref q] } :: r) := by
    rw [State.pushFrame, State.setTop_of_frames _ hr, State.setFrames_setFrames, show ((T.setFrames _).setVm vm') = (T.setVm vm').setFrames _ from rfl, State.setFrames_setFrames]
  rw [e1]
  exact hrest
end CH
