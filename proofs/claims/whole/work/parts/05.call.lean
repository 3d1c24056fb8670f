/-! A CALL by a contract, whichever way it ends -/
section CT
variable {p : Program} {l : Launch} {e : Env} {R : Room} {s : State} {m : MethodId} {args : Array Value} {below : List Frame} {meth : Method} {c : Code} {U : State} {locs : List Loc} {cells slots : Nat}
variable {D : va_G} {G : GC} {ad : Nat → Nat} {y : MethodName} {bytes : ByteArray} {mL fr lo : Nat} {ret : Option FieldType} {av : List Value} {σ : Mem} {ρ : Rs} {g : JFrame} {ig : Instr} {mk : MethodId}
theorem ct_go (X : Stand p l e R s m args below meth c U locs cells slots) (hg : g.method = m) (hsize : g.locals.size = c.maxLocals) (hd : decode c.code g.pc = .ok (ig, 3)) (hW : 2 * g.monitorRoom + (g.stack.map fun v => v.category).sum ≤ 8) (hn : U.methodNamed? y = some mk)
    (hct : Ctr l D G ad y bytes mL ret fr lo av σ ρ) (hcode : (Cond.code y bytes mL ret).before av.toArray U = true) (hini : (Cond.initialized y.cls).before av.toArray U = true) (hfr : fr + 1 ≤ R.frames) (hlo : 8 + (mL + 11) + lo ≤ R.locals) (hrc : cells + rc ρ ≤ R.cells) (hrs : slots + rsl ρ ≤ R.slots)
    (hP : va_P D vcl (wld G ad σ) U.heap) (hE : Env0 D G ad U U.heap) (hnt : l.stackTraces = false) :
    ∃ (o : Outcome) (T' : State) (L : List Loc), Stand p l e R s m args below meth c T' (locs ++ L) (cells + rc ρ) (slots + rsl ρ) ∧ (∀ q ∈ L, wA ad U.heap.size q.base) ∧ Out D G ad ρ U o T' ∧
      (∀ v, o = .returned v → Steps p.tables e below (doInvoke e (U.setTop g) [] mk av.toArray).1 (T'.setTop { g with pc := g.pc + 3, stack := v.toList ++ g.stack })) ∧
      (∀ q, o = .threw q → Steps p.tables e below (doInvoke e (U.setTop g) [] mk av.toArray).1 ((T'.setTop g).pushFrame (.throwing q))) := by
  obtain ⟨methY, cY, hmY, hcY, -, hlY, -, -, -, -⟩ := Cond.code_spec hn hcode
  obtain ⟨kY, hkY, -⟩ := className_of_methodNamed hn
  have hinitY : kY.init = .initialized := Cond.initialized_spec (findClass_of_methodNamed hn) hkY hini
  have hAt : At U g.method c below := by rw [hg]; exact X.here
  have hroom : (U.calling g mk av.toArray).hasRoom e.platform (rmOf fr lo ρ) = true := X.room_calling (g := g) (R' := rmOf fr lo ρ) hsize hmY hcY hfr (by rw [hlY]; show _ + _ + (mL + 11) + lo ≤ _; omega) hrc hrs
  have happ : (headSpec [.code y bytes mL ret] (rmOf fr lo ρ)).appliesLoose y e.platform (U.calling g mk av.toArray) = true :=
    Spec.appliesLoose_calling (g := g) hAt hd hn hkY hinitY hroom (atoms_intro fun w hw => by rw [List.mem_singleton.mp hw]; exact hcode)
  obtain ⟨mid, hmid⟩ := hAt.above
  have hfr2 : (U.setTop g).frames = (.java g :: mid) ++ below := by rw [State.frames_setTop' g hAt.top, hmid]; rfl
  obtain ⟨o, t, hst, -, hend, hq⟩ := Steps.callFree (hct U.heap.size hnt) p X.admits X.cas X.clock (acts := []) hfr2 happ ⟨rfl, rfl, hP, hE.same rfl⟩ trivial
  rw [State.frames_setTop' g hAt.top] at hend
  obtain ⟨hout, L, ⟨hWm, hsm⟩, hL⟩ := hq
  have hW' : U.WarmedH t.vm := hWm
  have hsm : (U.calling g mk av.toArray).sameButNew ({ t with vm := (U.calling g mk av.toArray).vm } : State) L (rc ρ) (rsl ρ) := hsm
  obtain ⟨e2, q2, q3, q4, q5, q6⟩ := hsm
  obtain ⟨g₀, hg0⟩ := Option.isSome_iff_exists.mp hAt.top
  obtain ⟨r, hr⟩ := State.topJava?_eq_some.mp hg0
  obtain ⟨T', hT'⟩ : ∃ z, z = ({ U with heap := t.heap, slotsUsed := t.slotsUsed } : State).setVm t.vm := ⟨_, rfl⟩
  have hr' : T'.frames = .java g₀ :: r := by rw [hT']; exact hr
  have e3 : t = ({ (U.calling g mk av.toArray).setFrames t.frames with heap := t.heap, slotsUsed := t.slotsUsed } : State).setVm t.vm := by
    have : t = ({ t with vm := (U.calling g mk av.toArray).vm } : State).setVm t.vm := rfl
    rw [e2] at this
    exact this
  have hsame : U.sameButNew ({ U with heap := t.heap, slotsUsed := t.slotsUsed } : State) L (rc ρ) (rsl ρ) := by
    refine ⟨?_, q2, q3, q4, q5, q6⟩
    obtain ⟨z, hz, -⟩ := State.frames_cons hr
    show ({ U with heap := t.heap, slotsUsed := t.slotsUsed } : State) = { U.setFrames U.frames with heap := t.heap, slotsUsed := t.slotsUsed }
    rw [State.setFrames_self hz]
  have X' : Stand p l e R s m args below meth c T' (locs ++ L) (cells + rc ρ) (slots + rsl ρ) := by
    rw [hT']
    exact ⟨X.admits, X.cas, X.clock, X.frames, X.room, X.hears, X.method, X.code, (X.here.setHeapUsed t.heap t.slotsUsed).setVm hW'.alike, X.tail, State.WarmedH.trans X.warmed hW', X.limits, X.bytes, X.same.trans (hsame.setVm s.vm)⟩
  have hhp : T'.heap = t.heap := by rw [hT']; rfl
  refine ⟨o, T', L, X', hL, ?_, ?_, ?_⟩
  · obtain ⟨h1, h2, h3⟩ := hout
    refine ⟨?_, by rw [hhp]; exact h2, ?_⟩
    · cases hρ : ρ.1 with
      | inl v => rw [hρ] at h1; exact h1
      | inr n =>
        rw [hρ] at h1
        obtain ⟨q, ce, r1, r2, r3, r4⟩ := h1
        exact ⟨q, ce, r1, by rw [hhp]; exact r2, r3, r4⟩
    · obtain ⟨z1, z2⟩ := h3
      exact ⟨by rw [hhp]; exact z1, fun q a b => by rw [hhp]; exact z2 q a b⟩
  · intro v ho
    subst ho
    obtain ⟨c₂, i₂, len₂, hc₂, hd₂, hf₂⟩ := hend
    have hcc : c₂ = c := by
      have h1 : t.code? g.method = U.code? g.method := by rw [State.code?_eq, State.code?_eq, hW'.alike.method?]
      exact Option.some.inj (hc₂.symm.trans (h1.trans hAt.code))
    subst hcc
    have hlen : len₂ = 3 := by rw [hd] at hd₂; cases hd₂; rfl
    subst hlen
    have ht : t = T'.setTop { g with pc := g.pc + 3, stack := v.toList ++ g.stack } := by
      refine e3.trans ?_
      rw [hf₂, State.calling_eq hAt.top, State.setFrames_setFrames, State.setTop_of_frames _ hr', hT', hr]
      rfl
    rw [← ht]
    exact hst
  · intro q ho
    subst ho
    have hf₂ : t.frames = .throwing q :: .java g :: U.frames.tail := hend
    have ht : t = (T'.setTop g).pushFrame (.throwing q) := by
      refine e3.trans ?_
      rw [hf₂, State.calling_eq hAt.top, State.setFrames_setFrames, State.pushFrame, State.frames_setTop _ hr', State.setTop_of_frames _ hr', State.setFrames_setFrames, hT', hr]
      rfl
    rw [← ht]
    exact hst
end CT
