/-! THE LAW'S HELPERS: a method of the class called inside try; they always return -/
def Nx (U : State) : Prop := ∀ i j, 1 ≤ i → i ≤ 4 → 1 ≤ j → j ≤ 4 → i ≠ j → va_Nc (xNm i) (xNm j) U
theorem Nx.moved {u U : State} (hv : u.vm.Alike U.vm) (h : Nx u) : Nx U := fun i j a b c d e => va_Nc.moved hv (h i j a b c d e)
def rmH (fr lo : Nat) : Room := { frames := fr, cells := 1, slots := 6, locals := lo }
def CtrH (l : Launch) (D : va_G) (G : GC) (ad : Nat → Nat) (y : MethodName) (bytes : ByteArray) (mL : Nat) (hs : List (Nat × Nat × Nat × Nat)) (fr lo : Nat) (av : List Value) (σ : Mem) (k : Int32) (σ1 : Mem) : Prop :=
  ∀ sz : Nat, l.stackTraces = false → MetFree l y (headSpec [.codeWith y bytes mL (some .int) hs] (rmH fr lo)) (fun a U => a = av.toArray ∧ U.heap.size = sz ∧ va_P D vcl (wld G ad σ) U.heap ∧ Env0 D G ad U U.heap ∧ Nx U) (fun _ _ _ _ _ => True)
    (fun _ st o t => (o = .returned (some (.int k)) ∧ va_P D vcl (wld G ad σ1) t.heap ∧ va_F (wA ad st.heap.size) st t) ∧ ∃ L, FE st t L 1 6 ∧ ∀ q ∈ L, wA ad sz q.base)
section CTH
variable {p : Program} {l : Launch} {e : Env} {R : Room} {s : State} {m : MethodId} {args : Array Value} {below : List Frame} {meth : Method} {c : Code} {U : State} {locs : List Loc} {cells slots : Nat}
variable {D : va_G} {G : GC} {ad : Nat → Nat} {y : MethodName} {bytes : ByteArray} {mL fr lo : Nat} {ret : Option FieldType} {av : List Value} {σ : Mem} {ρ : Rs} {g : JFrame} {ig : Instr} {mk : MethodId}
theorem ct_goH {k : Int32} {σ1 : Mem} {hs : List (Nat × Nat × Nat × Nat)} (X : Stand p l e R s m args below meth c U locs cells slots) (hg : g.method = m) (hsize : g.locals.size = c.maxLocals) (hd : decode c.code g.pc = .ok (ig, 3)) (hW : 2 * g.monitorRoom + (g.stack.map fun v => v.category).sum ≤ 8) (hn : U.methodNamed? y = some mk)
    (hct : CtrH l D G ad y bytes mL hs fr lo av σ k σ1) (hcode : (Cond.codeWith y bytes mL (some .int) hs).before av.toArray U = true) (hini : (Cond.initialized y.cls).before av.toArray U = true) (hfr : fr + 1 ≤ R.frames) (hlo : 8 + (mL + 11) + lo ≤ R.locals) (hrc : cells + 1 ≤ R.cells) (hrs : slots + 6 ≤ R.slots)
    (hP : va_P D vcl (wld G ad σ) U.heap) (hE : Env0 D G ad U U.heap) (hNx : Nx U) (hnt : l.stackTraces = false) :
    ∃ (T' : State) (L : List Loc), Stand p l e R s m args below meth c T' (locs ++ L) (cells + 1) (slots + 6) ∧ (∀ q ∈ L, wA ad U.heap.size q.base) ∧ va_P D vcl (wld G ad σ1) T'.heap ∧ va_F (wA ad U.heap.size) U T' ∧
      Steps p.tables e below (doInvoke e (U.setTop g) [] mk av.toArray).1 (T'.setTop { g with pc := g.pc + 3, stack := .int k :: g.stack }) := by
  obtain ⟨mk9, methY, cY, hn9, hmY, hcY, -, hlY, -, -, -, -⟩ := Cond.codeWith_spec hcode
  cases Option.some.inj (hn9.symm.trans hn)
  obtain ⟨kY, hkY, -⟩ := className_of_methodNamed hn
  have hinitY : kY.init = .initialized := Cond.initialized_spec (findClass_of_methodNamed hn) hkY hini
  have hAt : At U g.method c below := by rw [hg]; exact X.here
  have hroom : (U.calling g mk av.toArray).hasRoom e.platform (rmH fr lo) = true := X.room_calling (g := g) (R' := rmH fr lo) hsize hmY hcY hfr (by rw [hlY]; show _ + _ + (mL + 11) + lo ≤ _; omega) hrc hrs
  have happ : (headSpec [.codeWith y bytes mL (some .int) hs] (rmH fr lo)).appliesLoose y e.platform (U.calling g mk av.toArray) = true :=
    Spec.appliesLoose_calling (g := g) hAt hd hn hkY hinitY hroom (atoms_intro fun w hw => by rw [List.mem_singleton.mp hw]; exact hcode)
  obtain ⟨mid, hmid⟩ := hAt.above
  have hfr2 : (U.setTop g).frames = (.java g :: mid) ++ below := by rw [State.frames_setTop' g hAt.top, hmid]; rfl
  obtain ⟨o, t, hst, -, hend, hq⟩ := Steps.callFree (hct U.heap.size hnt) p X.admits X.cas X.clock (acts := []) hfr2 happ ⟨rfl, rfl, hP, hE.same rfl, hNx⟩ trivial
  rw [State.frames_setTop' g hAt.top] at hend
  obtain ⟨hout, L, ⟨hWm, hsm⟩, hL⟩ := hq
  have hW' : U.WarmedH t.vm := hWm
  have hsm : (U.calling g mk av.toArray).sameButNew ({ t with vm := (U.calling g mk av.toArray).vm } : State) L 1 6 := hsm
  obtain ⟨e2, q2, q3, q4, q5, q6⟩ := hsm
  obtain ⟨g₀, hg0⟩ := Option.isSome_iff_exists.mp hAt.top
  obtain ⟨r, hr⟩ := State.topJava?_eq_some.mp hg0
  obtain ⟨T', hT'⟩ : ∃ z, z = ({ U with heap := t.heap, slotsUsed := t.slotsUsed } : State).setVm t.vm := ⟨_, rfl⟩
  have hr' : T'.frames = .java g₀ :: r := by rw [hT']; exact hr
  have e3 : t = ({ (U.calling g mk av.toArray).setFrames t.frames with heap := t.heap, slotsUsed := t.slotsUsed } : State).setVm t.vm := by
    have : t = ({ t with vm := (U.calling g mk av.toArray).vm } : State).setVm t.vm := rfl
    rw [e2] at this
    exact this
  have hsame : U.sameButNew ({ U with heap := t.heap, slotsUsed := t.slotsUsed } : State) L 1 6 := by
    refine ⟨?_, q2, q3, q4, q5, q6⟩
    obtain ⟨z, hz, -⟩ := State.frames_cons hr
    show ({ U with heap := t.heap, slotsUsed := t.slotsUsed } : State) = { U.setFrames U.frames with heap := t.heap, slotsUsed := t.slotsUsed }
    rw [State.setFrames_self hz]
  have X' : Stand p l e R s m args below meth c T' (locs ++ L) (cells + 1) (slots + 6) := by
    rw [hT']
    exact ⟨X.admits, X.cas, X.clock, X.frames, X.room, X.hears, X.method, X.code, (X.here.setHeapUsed t.heap t.slotsUsed).setVm hW'.alike, X.tail, State.WarmedH.trans X.warmed hW', X.limits, X.bytes, X.same.trans (hsame.setVm s.vm)⟩
  have hhp : T'.heap = t.heap := by rw [hT']; rfl
  obtain ⟨ho, h2, z1, z2⟩ := hout
  refine ⟨T', L, X', hL, by rw [hhp]; exact h2, ⟨by rw [hhp]; exact z1, fun q a b => by rw [hhp]; exact z2 q a b⟩, ?_⟩
  subst ho
  obtain ⟨c₂, i₂, len₂, hc₂, hd₂, hf₂⟩ := hend
  have hcc : c₂ = c := by
    have h1 : t.code? g.method = U.code? g.method := by rw [State.code?_eq, State.code?_eq, hW'.alike.method?]
    exact Option.some.inj (hc₂.symm.trans (h1.trans hAt.code))
  subst hcc
  have hlen : len₂ = 3 := by rw [hd] at hd₂; cases hd₂; rfl
  subst hlen
  have ht : t = T'.setTop { g with pc := g.pc + 3, stack := (some (.int k) : Option Value).toList ++ g.stack } := by
    refine e3.trans ?_
    rw [hf₂, State.calling_eq hAt.top, State.setFrames_setFrames, State.setTop_of_frames _ hr', hT', hr]
    rfl
  have hst' := hst
  rw [ht] at hst'
  exact hst'
end CTH
section CG
variable {p : Program} {l : Launch} {e : Env} {R : Room} {s : State} {m : MethodId} {args : Array Value} {below : List Frame} {meth : Method} {c : Code} {T : State} {locs : List Loc} {cells slots : Nat} {own : String} {pc : Nat} {ls : Array Slot}
variable {D : va_G} {G : GC} {ad : Nat → Nat} {y : MethodName} {bytes : ByteArray} {mL fr1 lo1 n idx cI k : Nat} {rt : Option FieldType} {σ : Mem} {ρ : Rs} {As rest : List Value}
/-- a call of a method of ours on an object of the world, whatever stands behind it -/
theorem cg_V (X : Stand p l e R s m args below meth c T locs cells slots) (hexec : p.tables.exec = Jvm.exec) (hown : s.vm.findClass own = some m.cls) (hEnv : Env0 D G ad s s.heap) (hnt : l.stackTraces = false) (hS : va_S (wA ad s.heap.size) s.heap T.heap locs) (hP : va_P D vcl (wld G ad σ) T.heap) (hm : MV own idx y bytes mL rt n cI) (h : Is k cI) (hn : As.length = n) (hct : Ctr l D G ad y bytes mL rt fr1 lo1 (.ref (ad k) :: As) σ ρ)
    (hfr : fr1 + 1 ≤ R.frames) (hlo : 8 + (mL + 11) + lo1 ≤ R.locals) (hc : cells + rc ρ ≤ R.cells) (hs : slots + rsl ρ ≤ R.slots) (hw : (rest.map fun v => v.category).sum ≤ 8) (hd : decode c.code pc = .ok (.invokevirtual idx, 3)) (hsz : ls.size = c.maxLocals) :
    ∃ (o : Outcome) (T' : State) (L : List Loc), Stand p l e R s m args below meth c T' (locs ++ L) (cells + rc ρ) (slots + rsl ρ) ∧ va_S (wA ad s.heap.size) s.heap T'.heap (locs ++ L) ∧ va_P D vcl (wld G ad ρ.2) T'.heap ∧
      (match ρ.1 with
        | .inl v => o = .returned v
        | .inr n => ∃ (q : Addr) (ce : Cell), o = .threw q ∧ T'.heap[q]? = some ce ∧ ce.vm = .none ∧ s.vm.findClass (xNm n) = some ce.cls) ∧
      (∀ v, o = .returned v → ∀ target, Steps p.tables e below (T'.setTop (F0 m (pc + 3) ls (v.toList ++ rest))) target → Steps p.tables e below (T.setTop (F0 m pc ls (As.reverse ++ .ref (ad k) :: rest))) target) ∧
      (∀ q, o = .threw q → ∀ target, Steps p.tables e below ((T'.setTop (F0 m pc ls rest)).pushFrame (.throwing q)) target → Steps p.tables e below (T.setTop (F0 m pc ls (As.reverse ++ .ref (ad k) :: rest))) target) := by
  obtain ⟨hmc, hi, hse, w, hz, hzc⟩ := hm
  have wd : ∀ {w : Cond}, w ∈ lw_tbl → stb w = true → w.before args s = true := fun h1 h2 => hEnv.2.1 _ h1 h2 _
  have hc100 : cI < 100 := by
    have := (List.getElem?_eq_some_iff.mp hz).1
    have h12 : vcl.length = 12 := rfl
    omega
  obtain ⟨cellB, hcB, hoB, hclB⟩ := va_recv hEnv.1 hP hz (wld_obj (G := G) (ad := ad) (σ := σ) h.1 h.2 hc100)
  rw [hzc] at hclB
  obtain ⟨mk, methM, hnamed, hmethM, hstM, habM⟩ := Cond.instanceMethod_spec (wd hi stb_inst)
  obtain ⟨methM', cM, hmethM', -, -, -, -, -, -, hsigM⟩ := Cond.code_spec hnamed (wd hmc.2.2.1 stb_code)
  cases hmethM.symm.trans hmethM'
  obtain ⟨c2, r2, m2, q1, q2, q3, q4, kP, hkP, hkPi⟩ := Cond.selects_spec (wd hse stb_sel)
  cases hclB.symm.trans q1
  cases (State.methodFound?_of_named hnamed hmc.2.2.2.1).symm.trans q2
  cases hnamed.symm.trans q3
  have hselP : selectMethod e.platform s.vm cellB.cls mk = .method mk := by rw [Launch.admits_selectMethod X.admits]; exact q4
  have hlen : As.length = methM.sig.parameters.length := by
    have h2 := hmc.2.2.2.2
    rw [hsigM] at h2
    rw [hn]
    exact (Option.some.inj h2).symm
  have hgo : ∃ vm', Stand p l e R s m args below meth c (T.setVm vm') locs cells slots ∧ ∀ target, (∀ acts, Steps p.tables e below (doInvoke e ((T.setVm vm').setTop { F0 m pc ls (As.reverse ++ .ref (ad k) :: rest) with stack := rest }) acts mk (.ref (ad k) :: As).toArray).1 target) → Steps p.tables e below (T.setTop (F0 m pc ls (As.reverse ++ .ref (ad k) :: rest))) target := by
    rcases hmc.1 with hlk | ⟨ho, hlk⟩
    · exact X.invokevirtual hexec hown (wd hlk stb_ml) hnamed hmethM hstM hkP hkPi hmc.2.2.2.1 (a := ad k) (cell := cellB) hcB (fun z h => by rw [h] at hoB; cases hoB) hselP hmethM habM hkP hkPi (g := F0 m pc ls (As.reverse ++ .ref (ad k) :: rest)) rfl (argsL := As) (rest := rest) hlen rfl hd
    · exact X.invokevirtualNest hexec hown (wd hlk rfl) hnamed hmethM hstM hkP hkPi hmc.2.2.2.1 (a := ad k) (cell := cellB) hcB (fun z h => by rw [h] at hoB; cases hoB) hselP hmethM habM hkP hkPi (g := F0 m pc ls (As.reverse ++ .ref (ad k) :: rest)) rfl (argsL := As) (rest := rest) hlen rfl hd
  obtain ⟨vm₁, X₁, hst⟩ := hgo
  have hWU : s.WarmedH (T.setVm vm₁).vm := X₁.warmed
  have hE2 : Env0 D G ad (T.setVm vm₁) (T.setVm vm₁).heap := hEnv.step (H := T.heap) hWU hS
  obtain ⟨o, T', L, X', hL, ⟨ho, hP', hF1, hF2⟩, hret, hthr⟩ := ct_go X₁ (g := F0 m pc ls rest) (ig := .invokevirtual idx) rfl hsz hd (lv_room hw) (X₁.named hnamed) hct (hE2.2.1 _ hmc.2.2.1 stb_code _) (hE2.2.1 _ hmc.2.1 stb_ini _) hfr hlo hc hs hP hE2 hnt
  refine ⟨o, T', L, X', hS.next hF1 hF2 hL, hP', ?_, fun v hv target hr => ?_, fun q hq target hr => ?_⟩
  · cases hρ : ρ.1 with
    | inl v => rw [hρ] at ho; exact ho
    | inr n =>
      rw [hρ] at ho
      obtain ⟨q, ce, r1, r2, r3, r4⟩ := ho
      exact ⟨q, ce, r1, r2, r3, by rw [← hWU.alike.findClass]; exact r4⟩
  · exact hst target fun acts => by rw [doInvoke_state]; exact (hret v hv).trans hr
  · exact hst target fun acts => by rw [doInvoke_state]; exact (hthr q hq).trans hr
end CG
