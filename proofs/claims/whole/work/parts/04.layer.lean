/-! THE LAYER: contracts over the world, and walks over it -/
def wA (ad : Nat → Nat) (sz : Nat) : Nat → Prop := fun q => (∃ k, k < wN ∧ q = ad k) ∨ sz ≤ q
/-- the classes of what is thrown -/
def xNm (n : Nat) : String := if n = 1 then "java/lang/IllegalStateException" else if n = 2 then "java/lang/IndexOutOfBoundsException" else if n = 3 then "java/lang/IllegalArgumentException" else "java/lang/UnsupportedOperationException"
def rc (ρ : Rs) : Nat := match ρ.1 with
  | .inl _ => 0
  | .inr _ => 1
def rsl (ρ : Rs) : Nat := match ρ.1 with
  | .inl _ => 0
  | .inr _ => 6
abbrev wtys (G : GC) : List (ClassId × FieldType) := [(G.1, .int), (G.2.1, .boolean), (G.2.2, .long)]
def Env0 (D : va_G) (G : GC) (ad : Nat → Nat) (U : State) (H : Heap) : Prop :=
  va_K D vcl (wtys G) U ∧ Wds U ∧ SF "UNASSIGNED_STACK" "[Ljava/lang/StackTraceElement;" (wA ad H.size) U H ∧ SF "SUPPRESSED_SENTINEL" "Ljava/util/List;" (wA ad H.size) U H ∧ (∀ q ∈ strL, ∃ a, vk_R q.1 q.2.1 q.2.2 a U) ∧ (∀ i j, i < wN → j < wN → ad i = ad j → i = j)
theorem wA_mono {ad : Nat → Nat} {a b : Nat} (h : a ≤ b) : ∀ q, wA ad b q → wA ad a q := fun _ hq => hq.elim Or.inl fun z => Or.inr (Nat.le_trans h z)
theorem wld_D {G : GC} {ad : Nat → Nat} {σ : Mem} {sz : Nat} (h : ∀ i j, i < wN → j < wN → ad i = ad j → i = j) : va_D (wA ad sz) (wld G ad σ) := by
  refine ⟨fun i j p q hi hj hpq => ?_, fun k q hk => ?_⟩
  · obtain ⟨h1, e1⟩ := wld_of hi
    obtain ⟨h2, e2⟩ := wld_of hj
    subst e1; subst e2
    exact h i j h1 h2 hpq
  · obtain ⟨h1, e1⟩ := wld_of hk
    subst e1
    exact Or.inl ⟨k, h1, rfl⟩
theorem Env0.step {D : va_G} {G : GC} {ad : Nat → Nat} {s U : State} {H0 H : Heap} {locs : List Loc} (h : Env0 D G ad s H0) (hW : s.WarmedH U.vm) (hS : va_S (wA ad H0.size) H0 H locs) : Env0 D G ad U H := by
  obtain ⟨h1, h2, h3, h4, h5, h6⟩ := h
  refine ⟨va_K.moved hW.alike h1, h2.warm hW, ?_, ?_, fun q hq => ?_, h6⟩
  · exact ((h3.moved hW.alike).kept hS.2.1).narrow (fun q _ hq => wA_mono hS.1 q hq)
  · exact ((h4.moved hW.alike).kept hS.2.1).narrow (fun q _ hq => wA_mono hS.1 q hq)
  · obtain ⟨a, ha⟩ := h5 q hq
    exact ⟨a, ha.warm hW⟩
theorem Env0.same {D : va_G} {G : GC} {ad : Nat → Nat} {s U : State} {H : Heap} (h : Env0 D G ad s H) (hv : s.vm = U.vm) : Env0 D G ad U H := by
  obtain ⟨h1, h2, h3, h4, h5, h6⟩ := h
  have ha : s.vm.Alike U.vm := by rw [hv]; exact Vm.Alike.refl _
  refine ⟨va_K.moved ha h1, h2.same hv, h3.moved ha, h4.moved ha, fun q hq => ?_, h6⟩
  obtain ⟨a, h⟩ := h5 q hq
  exact ⟨a, vk_R.same hv.symm h⟩
/-- how a method ended, and what the world is then -/
def Out (D : va_G) (G : GC) (ad : Nat → Nat) (ρ : Rs) (st : State) (o : Outcome) (t : State) : Prop :=
  (match ρ.1 with
    | .inl v => o = .returned v
    | .inr n => ∃ (q : Addr) (ce : Cell), o = .threw q ∧ t.heap[q]? = some ce ∧ ce.vm = .none ∧ st.vm.findClass (xNm n) = some ce.cls) ∧
  va_P D vcl (wld G ad ρ.2) t.heap ∧ va_F (wA ad st.heap.size) st t
def FE (st t : State) (L : List Loc) (k n : Nat) : Prop := st.WarmedH t.vm ∧ st.sameButNew ({ t with vm := st.vm } : State) L k n
def rmOf (fr lo : Nat) (ρ : Rs) : Room := { frames := fr, cells := rc ρ, slots := rsl ρ, locals := lo }
/-- A METHOD'S CONTRACT: called with av in a world σ it ends as ρ says -/
def Ctr (l : Launch) (D : va_G) (G : GC) (ad : Nat → Nat) (y : MethodName) (bytes : ByteArray) (mL : Nat) (ret : Option FieldType) (fr lo : Nat) (av : List Value) (σ : Mem) (ρ : Rs) : Prop :=
  ∀ sz : Nat, l.stackTraces = false → MetFree l y (headSpec [.code y bytes mL ret] (rmOf fr lo ρ)) (fun a U => a = av.toArray ∧ U.heap.size = sz ∧ va_P D vcl (wld G ad σ) U.heap ∧ Env0 D G ad U U.heap) (fun _ _ _ _ _ => True)
    (fun _ st o t => Out D G ad ρ st o t ∧ ∃ L, FE st t L (rc ρ) (rsl ρ) ∧ ∀ q ∈ L, wA ad sz q.base)
def QF (below : List Frame) (D : va_G) (G : GC) (ad : Nat → Nat) (ρ : Rs) (s : State) : State → Prop := fun t =>
  ∃ o, t.status = .running ∧ Ended t below o ∧ Out D G ad ρ s o t ∧ ∃ L, FE s t L (rc ρ) (rsl ρ) ∧ ∀ q ∈ L, wA ad s.heap.size q.base
/-- what stays the same in one walk: p l e R s m args below meth c, D G ad, ρ -/
abbrev Fx : Type := (Program × Launch × Env × Room × State) × (MethodId × Array Value × List Frame × Method × Code) × (va_G × GC × (Nat → Nat) × Rs)
def V (F : Fx) (nL : Nat) (σ : Mem) (pc : Nat) (lv : List (Nat × Value)) (st : List Value) : Prop :=
  ∀ (H : Heap) (locs : List Loc) (ls : Array Slot), va_P F.2.2.1 vcl (wld F.2.2.2.1 F.2.2.2.2.1 σ) H → va_S (wA F.2.2.2.2.1 F.1.2.2.2.2.heap.size) F.1.2.2.2.2.heap H locs → lv_has ls nL lv →
    W F.1.1 F.1.2.1 F.1.2.2.1 F.1.2.2.2.1 F.1.2.2.2.2 F.2.1.1 F.2.1.2.1 F.2.1.2.2.1 F.2.1.2.2.2.1 F.2.1.2.2.2.2 H locs 0 0 (QF F.2.1.2.2.1 F.2.2.1 F.2.2.2.1 F.2.2.2.2.1 F.2.2.2.2.2 F.1.2.2.2.2) (F0 F.2.1.1 pc ls st)
/-- from here the walk ends as E says -/
def J {β : Type} (F : Fx) (nL : Nat) (cv : β → Option Rs) (E : β) (σ : Mem) (pc : Nat) (lv : List (Nat × Value)) (st : List Value) : Prop := cv E = some F.2.2.2.2.2 → V F nL σ pc lv st
abbrev fad (F : Fx) : Nat → Nat := F.2.2.2.2.1
/-- what a walk knows -/
def Ctx (F : Fx) (cc : ByteArray) (nL : Nat) (own : String) (ret : Option FieldType) (fr lo : Nat) : Prop :=
  F.1.1.tables.exec = Jvm.exec ∧ F.2.1.2.2.2.2.code = cc ∧ F.2.1.2.2.2.2.maxLocals = nL ∧ F.1.2.2.2.2.vm.findClass own = some F.2.1.1.cls ∧ F.2.1.2.2.2.1.sig.returnType = ret ∧ F.2.1.2.2.2.1.locks = false ∧
  (∀ x ∈ F.2.1.2.2.2.2.exceptionTable.toList, False) ∧ F.1.2.2.2.1 = rmOf fr lo F.2.2.2.2.2 ∧ Env0 F.2.2.1 F.2.2.2.1 F.2.2.2.2.1 F.1.2.2.2.2 F.1.2.2.2.2.heap ∧ F.1.2.1.stackTraces = false ∧ ∃ σ0, va_P F.2.2.1 vcl (wld F.2.2.2.1 F.2.2.2.2.1 σ0) F.1.2.2.2.2.heap
