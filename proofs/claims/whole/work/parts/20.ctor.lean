/-! CONSTRUCTORS: worlds as lists that grow -/
def EnvI (D : va_G) (G : GC) (U : State) : Prop := va_K D vcl (wtys G) U ∧ Wds U ∧ (∀ a, (Cond.arrayClass .int).before a U = true) ∧ (∀ a, (Cond.arrayClass .boolean).before a U = true) ∧ ∀ a, (Cond.arrayClass .long).before a U = true
theorem EnvI.warm {D : va_G} {G : GC} {s U : State} (hW : s.WarmedH U.vm) (h : EnvI D G s) : EnvI D G U := ⟨va_K.moved hW.alike h.1, h.2.1.warm hW, fun a => word_at hW (Or.inr ⟨_, rfl⟩) (h.2.2.1 #[]), fun a => word_at hW (Or.inr ⟨_, rfl⟩) (h.2.2.2.1 #[]), fun a => word_at hW (Or.inr ⟨_, rfl⟩) (h.2.2.2.2 #[])⟩
theorem EnvI.same {D : va_G} {G : GC} {s U : State} (h : EnvI D G s) (hv : s.vm = U.vm) : EnvI D G U := h.warm (by rw [← hv]; exact State.WarmedH.refl s)
def rmI (fr lo mc ms : Nat) : Room := { frames := fr, cells := mc, slots := ms, locals := lo }
def CtrI (l : Launch) (D : va_G) (G : GC) (y : MethodName) (bytes : ByteArray) (mL fr lo mc ms : Nat) (av : List Value) (w0 : va_W) (post : va_W → Prop) : Prop :=
  ∀ sz : Nat, MetFree l y (headSpec [.code y bytes mL none] (rmI fr lo mc ms)) (fun a U => a = av.toArray ∧ U.heap.size = sz ∧ va_P D vcl w0 U.heap ∧ va_D (fun _ => True) w0 ∧ EnvI D G U) (fun _ _ _ _ _ => True)
    (fun _ st o t => (o = .returned none ∧ ∃ w1, post w1 ∧ va_P D vcl w1 t.heap ∧ va_D (va_A w0 sz) w1 ∧ va_F (va_A w0 st.heap.size) st t) ∧ ∃ L, FE st t L mc ms ∧ ∀ q ∈ L, va_A w0 sz q.base)
section CTI
variable {p : Program} {l : Launch} {e : Env} {R : Room} {s : State} {m : MethodId} {args : Array Value} {below : List Frame} {meth : Method} {c : Code} {U : State} {locs : List Loc} {cells slots : Nat}
variable {D : va_G} {G : GC} {ad : Nat → Nat} {y : MethodName} {bytes : ByteArray} {mL fr lo : Nat} {ret : Option FieldType} {av : List Value} {σ : Mem} {ρ : Rs} {g : JFrame} {ig : Instr} {mk : MethodId}
theorem ct_goI {mc ms : Nat} {w0 : va_W} {post : va_W → Prop} (X : Stand p l e R s m args below meth c U locs cells slots) (hg : g.method = m) (hsize : g.locals.size = c.maxLocals) (hd : decode c.code g.pc = .ok (ig, 3)) (hW : 2 * g.monitorRoom + (g.stack.map fun v => v.category).sum ≤ 8) (hn : U.methodNamed? y = some mk)
    (hct : CtrI l D G y bytes mL fr lo mc ms av w0 post) (hcode : (Cond.code y bytes mL none).before av.toArray U = true) (hini : (Cond.initialized y.cls).before av.toArray U = true) (hfr : fr + 1 ≤ R.frames) (hlo : 8 + (mL + 11) + lo ≤ R.locals) (hrc : cells + mc ≤ R.cells) (hrs : slots + ms ≤ R.slots)
    (hP : va_P D vcl w0 U.heap) (hD : va_D (fun _ => True) w0) (hE : EnvI D G U) :
    ∃ (T' : State) (L : List Loc) (w1 : va_W), Stand p l e R s m args below meth c T' (locs ++ L) (cells + mc) (slots + ms) ∧ (∀ q ∈ L, va_A w0 U.heap.size q.base) ∧ post w1 ∧ va_P D vcl w1 T'.heap ∧ va_D (va_A w0 U.heap.size) w1 ∧ va_F (va_A w0 U.heap.size) U T' ∧
      Steps p.tables e below (doInvoke e (U.setTop g) [] mk av.toArray).1 (T'.setTop { g with pc := g.pc + 3, stack := g.stack }) := by
  obtain ⟨methY, cY, hmY, hcY, -, hlY, -, -, -, -⟩ := Cond.code_spec hn hcode
  obtain ⟨kY, hkY, -⟩ := className_of_methodNamed hn
  have hinitY : kY.init = .initialized := Cond.initialized_spec (findClass_of_methodNamed hn) hkY hini
  have hAt : At U g.method c below := by rw [hg]; exact X.here
  have hroom : (U.calling g mk av.toArray).hasRoom e.platform (rmI fr lo mc ms) = true := X.room_calling (g := g) (R' := rmI fr lo mc ms) hsize hmY hcY hfr (by rw [hlY]; show _ + _ + (mL + 11) + lo ≤ _; omega) hrc hrs
  have happ : (headSpec [.code y bytes mL none] (rmI fr lo mc ms)).appliesLoose y e.platform (U.calling g mk av.toArray) = true :=
    Spec.appliesLoose_calling (g := g) hAt hd hn hkY hinitY hroom (atoms_intro fun w hw => by rw [List.mem_singleton.mp hw]; exact hcode)
  obtain ⟨mid, hmid⟩ := hAt.above
  have hfr2 : (U.setTop g).frames = (.java g :: mid) ++ below := by rw [State.frames_setTop' g hAt.top, hmid]; rfl
  obtain ⟨o, t, hst, -, hend, hq⟩ := Steps.callFree (hct U.heap.size) p X.admits X.cas X.clock (acts := []) hfr2 happ ⟨rfl, rfl, hP, hD, hE.same rfl⟩ trivial
  rw [State.frames_setTop' g hAt.top] at hend
  obtain ⟨hout, L, ⟨hWm, hsm⟩, hL⟩ := hq
  have hW' : U.WarmedH t.vm := hWm
  have hsm : (U.calling g mk av.toArray).sameButNew ({ t with vm := (U.calling g mk av.toArray).vm } : State) L mc ms := hsm
  obtain ⟨e2, q2, q3, q4, q5, q6⟩ := hsm
  obtain ⟨g₀, hg0⟩ := Option.isSome_iff_exists.mp hAt.top
  obtain ⟨r, hr⟩ := State.topJava?_eq_some.mp hg0
  obtain ⟨T', hT'⟩ : ∃ z, z = ({ U with heap := t.heap, slotsUsed := t.slotsUsed } : State).setVm t.vm := ⟨_, rfl⟩
  have hr' : T'.frames = .java g₀ :: r := by rw [hT']; exact hr
  have e3 : t = ({ (U.calling g mk av.toArray).setFrames t.frames with heap := t.heap, slotsUsed := t.slotsUsed } : State).setVm t.vm := by
    have : t = ({ t with vm := (U.calling g mk av.toArray).vm } : State).setVm t.vm := rfl
    rw [e2] at this
    exact this
  have hsame : U.sameButNew ({ U with heap := t.heap, slotsUsed := t.slotsUsed } : State) L mc ms := by
    refine ⟨?_, q2, q3, q4, q5, q6⟩
    obtain ⟨z, hz, -⟩ := State.frames_cons hr
    show ({ U with heap := t.heap, slotsUsed := t.slotsUsed } : State) = { U.setFrames U.frames with heap := t.heap, slotsUsed := t.slotsUsed }
    rw [State.setFrames_self hz]
  have X' : Stand p l e R s m args below meth c T' (locs ++ L) (cells + mc) (slots + ms) := by
    rw [hT']
    exact ⟨X.admits, X.cas, X.clock, X.frames, X.room, X.hears, X.method, X.code, (X.here.setHeapUsed t.heap t.slotsUsed).setVm hW'.alike, X.tail, State.WarmedH.trans X.warmed hW', X.limits, X.bytes, X.same.trans (hsame.setVm s.vm)⟩
  have hhp : T'.heap = t.heap := by rw [hT']; rfl
  obtain ⟨ho, w1, hw1, h2, h3, z1, z2⟩ := hout
  refine ⟨T', L, w1, X', hL, hw1, by rw [hhp]; exact h2, h3, ⟨by rw [hhp]; exact z1, fun q a b => by rw [hhp]; exact z2 q a b⟩, ?_⟩
  subst ho
  obtain ⟨c₂, i₂, len₂, hc₂, hd₂, hf₂⟩ := hend
  have hcc : c₂ = c := by
    have h1 : t.code? g.method = U.code? g.method := by rw [State.code?_eq, State.code?_eq, hW'.alike.method?]
    exact Option.some.inj (hc₂.symm.trans (h1.trans hAt.code))
  subst hcc
  have hlen : len₂ = 3 := by rw [hd] at hd₂; cases hd₂; rfl
  subst hlen
  have ht : t = T'.setTop { g with pc := g.pc + 3, stack := (none : Option Value).toList ++ g.stack } := by
    refine e3.trans ?_
    rw [hf₂, State.calling_eq hAt.top, State.setFrames_setFrames, State.setTop_of_frames _ hr', hT', hr]
    rfl
  have hst' := hst
  rw [ht] at hst'
  exact hst'
end CTI
abbrev Ix : Type := (Program × Launch × Env × Room × State) × (MethodId × Array Value × List Frame × Method × Code) × (va_G × GC × va_W × (State → Prop))
def ICtx (F : Ix) (cc : ByteArray) (nL : Nat) (own : String) (fr lo mc ms : Nat) : Prop :=
  F.1.1.tables.exec = Jvm.exec ∧ F.2.1.2.2.2.2.code = cc ∧ F.2.1.2.2.2.2.maxLocals = nL ∧ F.1.2.2.2.2.vm.findClass own = some F.2.1.1.cls ∧ F.2.1.2.2.2.1.sig.returnType = none ∧ F.2.1.2.2.2.1.locks = false ∧ F.2.1.2.2.2.1.name = "<init>" ∧ F.1.2.2.2.1 = rmI fr lo mc ms ∧ EnvI F.2.2.1 F.2.2.2.1 F.1.2.2.2.2
def IW (F : Ix) (nL : Nat) (w : va_W) (cells slots pc : Nat) (lv : List (Nat × Value)) (st : List Value) : Prop :=
  ∀ (H : Heap) (locs : List Loc) (ls : Array Slot), va_P F.2.2.1 vcl w H → va_D (va_A F.2.2.2.2.1 F.1.2.2.2.2.heap.size) w → va_S (va_A F.2.2.2.2.1 F.1.2.2.2.2.heap.size) F.1.2.2.2.2.heap H locs → lv_has ls nL lv →
    W F.1.1 F.1.2.1 F.1.2.2.1 F.1.2.2.2.1 F.1.2.2.2.2 F.2.1.1 F.2.1.2.1 F.2.1.2.2.1 F.2.1.2.2.2.1 F.2.1.2.2.2.2 H locs cells slots F.2.2.2.2.2 (F0 F.2.1.1 pc ls st)
def QI (below : List Frame) (D : va_G) (w0 : va_W) (post : va_W → Prop) (mc ms : Nat) (s : State) : State → Prop := fun t =>
  ∃ o, t.status = .running ∧ Ended t below o ∧ (o = .returned none ∧ ∃ w1, post w1 ∧ va_P D vcl w1 t.heap ∧ va_D (va_A w0 s.heap.size) w1 ∧ va_F (va_A w0 s.heap.size) s t) ∧ ∃ L, FE s t L mc ms ∧ ∀ q ∈ L, va_A w0 s.heap.size q.base
theorem ctrI_of {l : Launch} {D : va_G} {G : GC} {y : MethodName} {bytes : ByteArray} {mL fr lo mc ms : Nat} {av : List Value} {w0 : va_W} {post : va_W → Prop} (hy : plainName y.cls = true) (hyn : y.name = "<init>") (hent : (lg_sl av).length ≤ mL)
    (body : ∀ F : Ix, F.1.2.1 = l → F.2.2.1 = D → F.2.2.2.1 = G → F.2.2.2.2.1 = w0 → F.2.2.2.2.2 = QI F.2.1.2.2.1 D w0 post mc ms F.1.2.2.2.2 → ICtx F bytes mL y.cls fr lo mc ms → IW F mL w0 0 0 0 (lv_args 0 av) []) : CtrI l D G y bytes mL fr lo mc ms av w0 post := by
  intro sz
  refine MetFree.of_bodyS (code := bytes) (maxLocals := mL) (ret := none) hy ?_ ?_
  · intro args s m h hn
    obtain ⟨meth, c, h1, h2, h3, h4, h5, h6, -, -⟩ := Cond.code_spec hn (atoms_spec (ws := [.code y bytes mL none]) h _ List.mem_cons_self)
    exact ⟨meth, c, h1, h2, h3, h4, h5, h6⟩
  · intro p e s m args below meth c s₁ B hml hPre _
    obtain ⟨rfl, rfl, hP, hD, hEnv⟩ := hPre
    have hh0 : s₁.heap = s.heap := by rw [B.state]; rfl
    have hin : meth.name = "<init>" := ((name_of_methodNamed B.named B.method).1).trans hyn
    have hV := body ((p, l, e, rmI fr lo mc ms, s), (m, av.toArray, below, meth, c), (D, G, w0, QI below D w0 post mc ms s)) rfl rfl rfl rfl rfl ⟨B.exec, B.bytes, hml, findClass_of_methodNamed B.named, B.returns, B.notSynchronized, hin, rfl, hEnv⟩
    obtain ⟨t, a1, o, b1, b2, b3, b4⟩ := hV s.heap [] _ hP hD.self va_S.rf (lv_entry av hent) s₁ hh0 (Stand.of_body B)
    exact ⟨t, o, by rw [lg_entry_eq]; exact a1, b1, b2, b3, b4⟩
section IR
variable {F : Ix} {cc : ByteArray} {nL : Nat} {own : String} {fr lo mc ms : Nat} {w w9 : va_W} {cells slots pc : Nat} {lv : List (Nat × Value)} {st : List Value} {x y v : Int32}
theorem ICtx.wds (C : ICtx F cc nL own fr lo mc ms) {w : Cond} (h : w ∈ lw_tbl) (hg : stb w = true) : w.before F.2.1.2.1 F.1.2.2.2.2 = true := C.2.2.2.2.2.2.2.2.2.1 w h hg _
theorem ICtx.us (C : ICtx F cc nL own fr lo mc ms) {c : Nat} {q : vw_C} (hq : vcl[c]? = some q) : ∀ w ∈ u_ws q.1 q.2.1 q.2.2, w.before F.2.1.2.1 F.1.2.2.2.2 = true := fun w hw => C.wds (us_all c q hq w hw).1 (us_all c q hq w hw).2
theorem i_re (h : w = w9) (K : IW F nL w9 cells slots pc lv st) : IW F nL w cells slots pc lv st := h ▸ K
theorem i_iconst (C : ICtx F cc nL own fr lo mc ms) {n : Int} (d : decode cc pc = .ok (.iconst n, 1)) (hv : Int32.ofInt n = v) (K : IW F nL w cells slots (pc + 1) lv (.int v :: st)) : IW F nL w cells slots pc lv st := fun H locs ls hP hD hS hl => lv_iconst C.1 C.2.1 d hv (K H locs ls hP hD hS hl)
theorem i_bipush (C : ICtx F cc nL own fr lo mc ms) {n : Int} (d : decode cc pc = .ok (.bipush n, 2)) (hv : (Int8.ofInt n).toInt32 = v) (K : IW F nL w cells slots (pc + 2) lv (.int v :: st)) : IW F nL w cells slots pc lv st := fun H locs ls hP hD hS hl => lv_bipush C.1 C.2.1 d hv (K H locs ls hP hD hS hl)
theorem i_sipush (C : ICtx F cc nL own fr lo mc ms) {n : Int} (d : decode cc pc = .ok (.sipush n, 3)) (hv : (Int16.ofInt n).toInt32 = v) (K : IW F nL w cells slots (pc + 3) lv (.int v :: st)) : IW F nL w cells slots pc lv st := fun H locs ls hP hD hS hl => lv_sipush C.1 C.2.1 d hv (K H locs ls hP hD hS hl)
theorem i_aload_n (C : ICtx F cc nL own fr lo mc ms) {i : Fin 4} {a : Nat} (d : decode cc pc = .ok (.aload_n i, 1)) (q : Nat) (hq : lv[q]? = some ((i : Nat), .ref a)) (K : IW F nL w cells slots (pc + 1) lv (.ref a :: st)) : IW F nL w cells slots pc lv st := fun H locs ls hP hD hS hl => lv_aload_n C.1 C.2.1 d rfl (lv_at hl q hq) (K H locs ls hP hD hS hl)
theorem i_iload_n (C : ICtx F cc nL own fr lo mc ms) {i : Fin 4} (d : decode cc pc = .ok (.iload_n i, 1)) (q : Nat) (hq : lv[q]? = some ((i : Nat), .int x)) (K : IW F nL w cells slots (pc + 1) lv (.int x :: st)) : IW F nL w cells slots pc lv st := fun H locs ls hP hD hS hl => lv_iload_n C.1 C.2.1 d rfl (lv_at hl q hq) (K H locs ls hP hD hS hl)
theorem i_dup (C : ICtx F cc nL own fr lo mc ms) {z : Value} (d : decode cc pc = .ok (.dup, 1)) (hz : z.category = 1) (K : IW F nL w cells slots (pc + 1) lv (z :: z :: st)) : IW F nL w cells slots pc lv (z :: st) := fun H locs ls hP hD hS hl => lv_dup C.1 C.2.1 d hz (K H locs ls hP hD hS hl)
theorem i_goto (C : ICtx F cc nL own fr lo mc ms) {off : Int} {tgt : Nat} (d : decode cc pc = .ok (.goto off, 3)) (ht : (pc : Int) + off = (tgt : Int)) (K : IW F nL w cells slots tgt lv st) : IW F nL w cells slots pc lv st := fun H locs ls hP hD hS hl => lv_goto C.1 C.2.1 d ht (K H locs ls hP hD hS hl)
theorem i_if_ge (C : ICtx F cc nL own fr lo mc ms) {off : Int} {tgt : Nat} (d : decode cc pc = .ok (.ifCond .ge off, 3)) (ht : (pc : Int) + off = (tgt : Int)) (k1 : 0 ≤ x → IW F nL w cells slots tgt lv st) (k2 : ¬ 0 ≤ x → IW F nL w cells slots (pc + 3) lv st) : IW F nL w cells slots pc lv (.int x :: st) := fun H locs ls hP hD hS hl => lv_if_ge C.1 C.2.1 d ht (fun c => k1 c H locs ls hP hD hS hl) (fun c => k2 c H locs ls hP hD hS hl)
theorem i_icmp_le (C : ICtx F cc nL own fr lo mc ms) {off : Int} {tgt : Nat} (d : decode cc pc = .ok (.if_icmp .le off, 3)) (ht : (pc : Int) + off = (tgt : Int)) (k1 : x ≤ y → IW F nL w cells slots tgt lv st) (k2 : ¬ x ≤ y → IW F nL w cells slots (pc + 3) lv st) : IW F nL w cells slots pc lv (.int y :: .int x :: st) := fun H locs ls hP hD hS hl => lv_icmp_le C.1 C.2.1 d ht (fun c => k1 c H locs ls hP hD hS hl) (fun c => k2 c H locs ls hP hD hS hl)
theorem i_max (C : ICtx F cc nL own fr lo mc ms) {idx : Nat} (hm : MM own idx Lib.Math.max.name Lib.Math.max.code 2) (hR : 1 ≤ fr ∧ (st.map fun v => v.category).sum + 13 ≤ lo) (hc : cells ≤ mc) (hs : slots ≤ ms) (d : decode cc pc = .ok (.invokestatic idx, 3)) (K : IW F nL w cells slots (pc + 3) lv (.int (imax x y) :: st)) : IW F nL w cells slots pc lv (.int y :: .int x :: st) := by
  intro H locs ls hP hD hS hl
  have hRm : F.1.2.2.2.1 = rmI fr lo mc ms := C.2.2.2.2.2.2.2.1
  exact va_mmax C.1 C.2.1 (by rw [C.2.2.1, hl.1]) C.2.2.2.1 (C.wds hm.1 stb_ml) (C.wds hm.2.1 stb_static) (C.wds hm.2.2.1 stb_ini) (C.wds hm.2.2.2 stb_code) (by rw [hRm]; exact hR.1) (by rw [hRm]; exact hR.2) (by rw [hRm]; exact hc) (by rw [hRm]; exact hs) d (K H locs ls hP hD hS hl)
theorem i_min (C : ICtx F cc nL own fr lo mc ms) {idx : Nat} (hm : MM own idx Lib.Math.min.name Lib.Math.min.code 2) (hR : 1 ≤ fr ∧ (st.map fun v => v.category).sum + 13 ≤ lo) (hc : cells ≤ mc) (hs : slots ≤ ms) (d : decode cc pc = .ok (.invokestatic idx, 3)) (K : IW F nL w cells slots (pc + 3) lv (.int (imin x y) :: st)) : IW F nL w cells slots pc lv (.int y :: .int x :: st) := by
  intro H locs ls hP hD hS hl
  have hRm : F.1.2.2.2.1 = rmI fr lo mc ms := C.2.2.2.2.2.2.2.1
  exact va_mmin C.1 C.2.1 (by rw [C.2.2.1, hl.1]) C.2.2.2.1 (C.wds hm.1 stb_ml) (C.wds hm.2.1 stb_static) (C.wds hm.2.2.1 stb_ini) (C.wds hm.2.2.2 stb_code) (by rw [hRm]; exact hR.1) (by rw [hRm]; exact hR.2) (by rw [hRm]; exact hc) (by rw [hRm]; exact hs) d (K H locs ls hP hD hS hl)
theorem va_A_new {F : Ix} : ∀ q : Nat, F.1.2.2.2.2.heap.size ≤ q → va_A F.2.2.2.2.1 F.1.2.2.2.2.heap.size q := fun _ h => Or.inr h
theorem i_obj (C : ICtx F cc nL own fr lo mc ms) {idx : Nat} {a : Nat} (h1 : Cond.methodLink own idx Lib.objectInit ∈ lw_tbl) (hR : 1 ≤ fr ∧ (st.map fun v => v.category).sum + 12 ≤ lo) (d : decode cc pc = .ok (.invokespecial idx, 3)) (K : IW F nL w cells slots (pc + 3) lv st) : IW F nL w cells slots pc lv (.ref a :: st) := by
  intro H locs ls hP hD hS hl
  have hRm : F.1.2.2.2.1 = rmI fr lo mc ms := C.2.2.2.2.2.2.2.1
  exact W.objInit C.1 C.2.1 C.2.2.2.1 (C.wds h1 stb_ml) (C.wds (List.mem_of_getElem? (i := 102) (by decide +kernel)) stb_inst) (C.wds (List.mem_of_getElem? (i := 103) (by decide +kernel)) stb_code) (g := F0 F.2.1.1 pc ls (.ref a :: st)) rfl (by show ls.size = _; rw [hl.1, C.2.2.1]) rfl d (by rw [hRm]; exact hR.1) (by rw [hRm]; show 2 * 0 + _ + 12 ≤ lo; have := hR.2; omega) (K H locs ls hP hD hS hl)
theorem i_new (C : ICtx F cc nL own fr lo mc ms) {c idx : Nat} {z : vw_C} (hz : vcl[c]? = some z) (ty : Nat → FieldType) (hty : ∀ k, k < z.2.2 → parseFieldDescriptor (z.2.1 k).2.2.1 = some (ty k)) (fs : List Value) (hfs : ∀ j, j < z.2.2 → defaultValue (ty j) = vp_V fs j) (h1 : Cond.classLink own idx z.1 ∈ lw_tbl) (h2 : Cond.instantiable z.1 z.2.2 ∈ lw_tbl) (h3 : Cond.initialized z.1 ∈ lw_tbl) (hc : cells + 1 ≤ mc) (hs : slots + z.2.2 ≤ ms) (d : decode cc pc = .ok (.new idx, 3))
    (K : ∀ q : Nat, IW F nL (w ++ [(q, .inr (c, fs))]) (cells + 1) (slots + z.2.2) (pc + 3) lv (.ref q :: st)) : IW F nL w cells slots pc lv st := by
  intro H locs ls hP hD hS hl
  have hRm : F.1.2.2.2.1 = rmI fr lo mc ms := C.2.2.2.2.2.2.2.1
  exact va_new C.1 C.2.1 (C.us hz) (fun _ h => h) ty hty C.2.2.2.1 (C.wds h1 (by first | rfl | simp [stb, Cond.onTables, Cond.keeps, Cond.steady])) (C.wds h2 (by first | rfl | simp [stb, Cond.onTables, Cond.keeps, Cond.steady])) (C.wds h3 stb_ini) C.2.2.2.2.2.2.2.2.1 hP hD hS va_A_new hz hfs (by rw [hRm]; exact hc) (by rw [hRm]; exact hs) d (fun q H1 hP1 hD1 hS1 => K q H1 locs ls hP1 hD1 hS1 hl)
theorem i_newa (C : ICtx F cc nL own fr lo mc ms) {at1 : ArrayType} {ty : FieldType} {cA : ClassId} {t0 N : Nat} {a0 : vp_A} (hty : newarray.typeOf at1 = ty) (hw : ∀ a, (Cond.arrayClass ty).before a F.1.2.2.2.2 = true) (ht : (wtys F.2.2.2.1)[t0]? = some (cA, ty)) (hr : ∀ c, va_RA F.1.2.2.2.2 c ty = (F.1.2.2.2.2.vm.findClass ("[" ++ ty.toString) = some c)) (ha : ∀ cA : ClassId, vp_cell cA a0 = arrV cA N (fun _ => defaultValue ty)) (hn : ¬ x < 0) (hN : x.toNatClampNeg = N) (hb : N * componentBytes ty ≤ 536870912) (hc : cells + 1 ≤ mc) (hs : slots + N ≤ ms) (d : decode cc pc = .ok (.newarray at1, 2))
    (K : ∀ q : Nat, IW F nL (w ++ [(q, .inl (cA, a0))]) (cells + 1) (slots + N) (pc + 2) lv (.ref q :: st)) : IW F nL w cells slots pc lv (.int x :: st) := by
  intro H locs ls hP hD hS hl
  have hRm : F.1.2.2.2.1 = rmI fr lo mc ms := C.2.2.2.2.2.2.2.1
  have hK := C.2.2.2.2.2.2.2.2.1
  refine va_newa C.1 C.2.1 (by rw [hty]; exact hw _) hty hK hP hD hS va_A_new ha hn hN hb (by rw [hRm]; exact hc) (by rw [hRm]; exact hs) d (fun q cB H1 hK1 hP1 hD1 hS1 => ?_)
  have e1 := (hK.2 t0 _ ht).2
  have e2 := (hK1.2 3 (cB, ty) rfl).2
  have e1' : F.1.2.2.2.2.vm.findClass ("[" ++ ty.toString) = some cA := by rw [← hr]; exact e1
  have e2' : F.1.2.2.2.2.vm.findClass ("[" ++ ty.toString) = some cB := by rw [← hr]; exact e2
  cases Option.some.inj (e1'.symm.trans e2')
  exact K q H1 locs ls hP1 hD1 hS1 hl
theorem i_get (C : ICtx F cc nL own fr lo mc ms) {c j idx a : Nat} {z : Value} {fs : List Value} (f : FL own idx c j) (q0 : Nat) (he : w[q0]? = some (a, .inr (c, fs))) (hv : fs[j]? = some z) (d : decode cc pc = .ok (.getfield idx, 3)) (K : IW F nL w cells slots (pc + 3) lv (z :: st)) : IW F nL w cells slots pc lv (.ref a :: st) := by
  intro H locs ls hP hD hS hl
  obtain ⟨q, hq, hj, hN, h100, hlk⟩ := f
  rcases hlk with hlk | ⟨ho, hlk⟩
  · exact va_get C.1 C.2.1 (C.us hq) (fun _ h => h) C.2.2.2.1 C.2.2.2.2.2.2.2.2.1 hP q0 he hq j hj (C.wds hlk rfl) (fun _ h => h) hv d (K H locs ls hP hD hS hl)
  · exact va_getN C.1 C.2.1 (C.us hq) (fun _ h => h) C.2.2.2.1 C.2.2.2.2.2.2.2.2.1 hP q0 he hq j hj (C.wds hlk rfl) (fun _ h => h) hv d (K H locs ls hP hD hS hl)
def FLo (own : String) (idx c j : Nat) : Prop := ∃ q : vw_C, vcl[c]? = some q ∧ j < q.2.2 ∧ Cond.fieldLink own idx (q.2.1 j).1 (q.2.1 j).2.1 (q.2.1 j).2.2.1 ∈ lw_tbl
def FT (c j : Nat) (fin : Bool) (ty : FieldType) (own : String) : Prop := ∃ q : vw_C, vcl[c]? = some q ∧ (q.2.1 j).2.2.2 = fin ∧ parseFieldDescriptor (q.2.1 j).2.2.1 = some ty ∧ (q.2.1 j).1 = own
theorem i_put (C : ICtx F cc nL own fr lo mc ms) {c j idx a : Nat} {z : Value} {fs : List Value} {fin : Bool} {ty : FieldType} (ft : FT c j fin ty own) (q0 : Nat) (he : w[q0]? = some (a, .inr (c, fs))) (hn : narrow ty z = z) (hfit : fits ty z = true) (hlen : j < fs.length) (hw9 : w.set q0 (a, .inr (c, fs.set j z)) = w9) (d : decode cc pc = .ok (.putfield idx, 3)) (hl0 : FLo own idx c j) (K : IW F nL w9 cells slots (pc + 3) lv st) : IW F nL w cells slots pc lv (z :: .ref a :: st) := by
  intro H locs ls hP hD hS hl
  obtain ⟨q, hq, hj, hlk⟩ := hl0
  obtain ⟨q', hq', hfin, hd, hdecl⟩ := ft
  cases Option.some.inj (hq.symm.trans hq')
  obtain ⟨ty0, hty, hnm⟩ := ty_all c q hq
  cases fin with
  | true => exact va_putF C.1 C.2.1 (C.us hq) (fun _ h => h) ty0 hty hnm C.2.2.2.1 C.2.2.2.2.2.2.2.2.1 hP hD hS q0 he hq j hj (C.wds hlk rfl) (fun _ h => h) hfin C.2.2.2.2.2.2.1 hdecl hd hn hfit hlen d (fun H1 locs1 hP1 hD1 hS1 => K H1 locs1 ls (by rw [hw9] at hP1; exact hP1) (by rw [hw9] at hD1; exact hD1) hS1 hl)
  | false => exact va_put C.1 C.2.1 (C.us hq) (fun _ h => h) ty0 hty hnm C.2.2.2.1 C.2.2.2.2.2.2.2.2.1 hP hD hS q0 he hq j hj (C.wds hlk rfl) (fun _ h => h) hfin hd hn hfit hlen d (fun H1 locs1 hP1 hD1 hS1 => K H1 locs1 ls (by rw [hw9] at hP1; exact hP1) (by rw [hw9] at hD1; exact hD1) hS1 hl)
theorem i_ret (C : ICtx F cc nL own fr lo mc ms) {post : va_W → Prop} (hQ : F.2.2.2.2.2 = QI F.2.1.2.2.1 F.2.2.1 F.2.2.2.2.1 post mc ms F.1.2.2.2.2) (hp : post w) (hc : cells ≤ mc) (hs : slots ≤ ms) (d : decode cc pc = .ok (.return_, 1)) : IW F nL w cells slots pc lv [] := by
  intro H locs ls hP hD hS hl
  refine W.widen hc hs ?_
  have hlk := C.2.2.2.2.2.1
  have h := W.vret (p := F.1.1) (l := F.1.2.1) (e := F.1.2.2.1) (R := F.1.2.2.2.1) (s := F.1.2.2.2.2) (m := F.2.1.1) (args := F.2.1.2.1) (below := F.2.1.2.2.1) (meth := F.2.1.2.2.2.1) (c := F.2.1.2.2.2.2) (H := H) (locs := locs) (cells := mc) (slots := ms) (ls := ls) (Qc := fun _ st o t => o = .returned none ∧ ∃ w1, post w1 ∧ va_P F.2.2.1 vcl w1 t.heap ∧ va_D (va_A F.2.2.2.2.1 st.heap.size) w1 ∧ va_F (va_A F.2.2.2.2.1 st.heap.size) st t) (free := va_A F.2.2.2.2.1 F.1.2.2.2.2.heap.size) C.1 C.2.1 C.2.2.2.2.1 (fun t ht hW => ⟨rfl, w, hp, by rw [ht]; exact hP, hD, hS.F ht⟩) hS.2.2 d hlk
  intro T hT X
  obtain ⟨t, a1, oc, b1, b2, b3, L, b4, b5⟩ := h T hT X
  rw [hQ]
  exact ⟨t, a1, oc, b1, b2, b3, L, ⟨b4.2.1, b4.2.2⟩, b5⟩
end IR
