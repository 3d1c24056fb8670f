/-! THE WORLD: 83 cells that stay where they are; their numbers are a memory Mem -/
abbrev Mem : Type := Nat → Nat → Int32
abbrev Rs : Type := (Option Value ⊕ Nat) × Mem
abbrev GC : Type := ClassId × ClassId × ClassId
def mput (σ : Mem) (k j : Nat) (v : Int32) : Mem := fun a => if a = k then upd (σ k) j v else σ a
theorem mput_self {σ : Mem} {k j : Nat} {v : Int32} : mput σ k j v k = upd (σ k) j v := if_pos rfl
theorem mput_ne {σ : Mem} {k j a : Nat} {v : Int32} (h : a ≠ k) : mput σ k j v a = σ a := if_neg h
/-- a named step: what follows speaks of it by its name -/
def lt {α β : Type} (e : α) (K : α → β) : β := K e
def wfl (ad : Nat → Nat) (σ : Mem) (k : Nat) : List Value := (List.range (wnf (wkd k))).map fun j => if wrf (wkd k) j = true then Value.ref (ad (wtg k j)) else .int (σ k j)
def wce (G : GC) (ad : Nat → Nat) (σ : Mem) (k : Nat) : va_E :=
  if wkd k = 100 then .inl (G.1, wln k, .inl (σ k)) else if wkd k = 101 then .inl (G.2.1, wln k, .inl (σ k)) else if wkd k = 102 then .inl (G.2.2, wln k, .inr (.inl fun j => (σ k j).toInt64)) else .inr (wkd k, wfl ad σ k)
def wld (G : GC) (ad : Nat → Nat) (σ : Mem) : va_W := (List.range wN).map fun k => (ad k, wce G ad σ k)
section WL
variable {G : GC} {ad : Nat → Nat} {σ : Mem} {k j c i : Nat} {v : Int32}
theorem wld_len : (wld G ad σ).length = wN := by simp [wld]
theorem wld_at (h : k < wN) : (wld G ad σ)[k]? = some (ad k, wce G ad σ k) := by simp [wld, h]
theorem wld_of {q : Nat × va_E} (h : (wld G ad σ)[k]? = some q) : k < wN ∧ q = (ad k, wce G ad σ k) := by
  have hl : k < wN := by
    have := (List.getElem?_eq_some_iff.mp h).1
    rwa [wld_len] at this
  rw [wld_at hl] at h
  exact ⟨hl, (Option.some.inj h).symm⟩
theorem wfl_len (hc : wkd k = c) : (wfl ad σ k).length = wnf c := by simp [wfl, hc]
theorem wfl_at (hc : wkd k = c) (hj : j < wnf c) : (wfl ad σ k)[j]? = some (if wrf c j = true then Value.ref (ad (wtg k j)) else .int (σ k j)) := by
  simp [wfl, hc, hj]
theorem wld_obj (h : k < wN) (hc : wkd k = c) (hl : c < 100) : (wld G ad σ)[k]? = some (ad k, .inr (c, wfl ad σ k)) := by
  rw [wld_at h, wce, hc, if_neg (by omega), if_neg (by omega), if_neg (by omega)]
theorem wld_int (h : k < wN) (hc : wkd k = 100) : (wld G ad σ)[k]? = some (ad k, .inl (G.1, wln k, .inl (σ k))) := by
  rw [wld_at h, wce, if_pos hc]
theorem wld_bool (h : k < wN) (hc : wkd k = 101) : (wld G ad σ)[k]? = some (ad k, .inl (G.2.1, wln k, .inl (σ k))) := by
  rw [wld_at h, wce, hc, if_neg (by decide), if_pos rfl]
theorem wld_long (h : k < wN) (hc : wkd k = 102) : (wld G ad σ)[k]? = some (ad k, .inl (G.2.2, wln k, .inr (.inl fun j => (σ k j).toInt64))) := by
  rw [wld_at h, wce, hc, if_neg (by decide), if_neg (by decide), if_pos rfl]
theorem wce_ne (h : i ≠ k) : wce G ad (mput σ k j v) i = wce G ad σ i := by
  simp only [wce, wfl, mput_ne h]
theorem wld_set {e : va_E} (h : k < wN) (he : e = wce G ad (mput σ k j v) k) : (wld G ad σ).set k (ad k, e) = wld G ad (mput σ k j v) := by
  apply List.ext_getElem?
  intro i
  by_cases hi : i = k
  · subst hi
    rw [List.getElem?_set_self (by rw [wld_len]; exact h), wld_at h, he]
  · rw [List.getElem?_set_ne (Ne.symm hi)]
    by_cases hl : i < wN
    · rw [wld_at hl, wld_at hl, wce_ne hi]
    · rw [List.getElem?_eq_none (by rw [wld_len]; omega), List.getElem?_eq_none (by rw [wld_len]; omega)]
theorem wfl_put (hc : wkd k = c) (hj : j < wnf c) (hr : wrf c j = false) : (wfl ad σ k).set j (.int v) = wfl ad (mput σ k j v) k := by
  apply List.ext_getElem?
  intro i
  by_cases hi : i = j
  · subst hi
    rw [List.getElem?_set_self (by rw [wfl_len hc]; exact hj), wfl_at hc hj, hr]
    simp [mput_self, upd]
  · rw [List.getElem?_set_ne (Ne.symm hi)]
    by_cases hl : i < wnf c
    · rw [wfl_at hc hl, wfl_at hc hl]
      simp [mput_self, upd, hi]
    · rw [List.getElem?_eq_none (by rw [wfl_len hc]; omega), List.getElem?_eq_none (by rw [wfl_len hc]; omega)]
theorem wld_put (h : k < wN) (hc : wkd k = c) (hl : c < 100) (hj : j < wnf c) (hr : wrf c j = false) : (wld G ad σ).set k (ad k, .inr (c, (wfl ad σ k).set j (.int v))) = wld G ad (mput σ k j v) := by
  refine wld_set h ?_
  rw [wfl_put hc hj hr, wce, hc, if_neg (by omega), if_neg (by omega), if_neg (by omega)]
theorem wld_iput (h : k < wN) (hc : wkd k = 100) : (wld G ad σ).set k (ad k, .inl (G.1, wln k, .inl (upd (σ k) j v))) = wld G ad (mput σ k j v) := by
  refine wld_set h ?_
  rw [wce, if_pos hc, mput_self]
theorem wld_zput (h : k < wN) (hc : wkd k = 101) : (wld G ad σ).set k (ad k, .inl (G.2.1, wln k, .inl (upd (σ k) j v))) = wld G ad (mput σ k j v) := by
  refine wld_set h ?_
  rw [wce, hc, if_neg (by decide), if_pos rfl, mput_self]
theorem wld_lput (h : k < wN) (hc : wkd k = 102) : (wld G ad σ).set k (ad k, .inl (G.2.2, wln k, .inr (.inl (vp_updL (fun j => (σ k j).toInt64) j v.toInt64)))) = wld G ad (mput σ k j v) := by
  refine wld_set h ?_
  rw [wce, hc, if_neg (by decide), if_neg (by decide), if_pos rfl, mput_self]
  congr 5
  funext i
  by_cases hi : i = j
  · simp [vp_updL, upd, hi]
  · simp [vp_updL, upd, hi]
end WL
/-! the words that stay true -/
def stb : Cond → Bool
  | .fieldLinkNest .. => true
  | .methodLinkNest .. => true
  | .declares _ => true
  | .castable .. => true
  | w => w.onTables && w.keeps
def Wds (U : State) : Prop := ∀ w ∈ lw_tbl, stb w = true → ∀ a : Array Value, w.before a U = true
theorem stb_tab {w : Cond} (h : stb w = true) : w.onTables = true := by
  cases w <;> first | rfl | (simp only [stb, Bool.and_eq_true] at h; exact h.1)
theorem Wds.of {A : Array Value} {s : State} (h : ∀ w ∈ lw_tbl, w.before A s = true) : Wds s := fun w hw hg a => va_tabs (stb_tab hg) rfl (h w hw)
theorem castable_warm {x y : String} {s U : State} {a b : Array Value} (hW : s.WarmedH U.vm) (h : (Cond.castable x y).before a s = true) : (Cond.castable x y).before b U = true := by
  obtain ⟨c1, c2, h1, h2, h3⟩ := Cond.castable_spec h
  have g1 : U.vm.findClass x = some c1 := by rw [hW.alike.findClass]; exact h1
  have g2 : U.vm.findClass y = some c2 := by rw [hW.alike.findClass]; exact h2
  have g3 : U.vm.assignable c1 c2 = true := by rw [hW.alike.assignable]; exact h3
  simp [Cond.before, Cond.holds, Cond.value, g1, g2, g3]
theorem stb_warm {w : Cond} {s U : State} {a : Array Value} (hg : stb w = true) (hW : s.WarmedH U.vm) (h : ∀ a : Array Value, w.before a s = true) : w.before a U = true := by
  have key : ∀ w : Cond, (w.onTables && w.keeps) = true → (∀ a : Array Value, w.before a s = true) → w.before a U = true := fun w g h => word_at hW (Or.inl g) (h #[])
  cases w <;> first
    | exact va_tabs (A := #[]) rfl (rfl : (s.setVm U.vm).vm = U.vm) (Cond.fieldLinkNest_warmed (args := #[]) hW (h #[]))
    | exact va_tabs (A := #[]) rfl (rfl : (s.setVm U.vm).vm = U.vm) (Cond.methodLinkNest_warmed (args := #[]) hW (h #[]))
    | exact va_tabs (A := #[]) rfl (rfl : (s.setVm U.vm).vm = U.vm) (by rw [Cond.declares_setVm hW.alike]; exact h #[])
    | exact castable_warm hW (h #[])
    | exact key _ hg h
theorem Wds.warm {s U : State} (hW : s.WarmedH U.vm) (h : Wds s) : Wds U := fun w hw hg a => stb_warm hg hW (h w hw hg)
theorem Wds.same {s U : State} (hv : s.vm = U.vm) (h : Wds s) : Wds U := fun w hw hg a => va_tabs (stb_tab hg) hv (h w hw hg a)
/-- a static of the library's that is null or a reference: it hangs on the tables and on one cell that the world has not -/
def SF (n d : String) (A : Nat → Prop) (U : State) (H : Heap) : Prop :=
  ∃ (a : Nat) (cell : Cell), H[a]? = some cell ∧ cell.vm.isStatics = true ∧ ¬ A a ∧ ∀ (U' : State) (g : Array Value), U.vm.Alike U'.vm → U'.heap[a]? = some cell → (Cond.isRef (.static "java/lang/Throwable" n d)).before g U' = true ∧ (Cond.laysStatic "java/lang/Throwable" n d).before g U' = true
theorem SF.moved {n d : String} {A : Nat → Prop} {u U : State} {H : Heap} (hv : u.vm.Alike U.vm) (h : SF n d A u H) : SF n d A U H := by
  obtain ⟨a, cell, h1, h2, h3, h4⟩ := h
  exact ⟨a, cell, h1, h2, h3, fun U' g hv' hc => h4 U' g (hv.trans hv') hc⟩
theorem SF.kept {n d : String} {A : Nat → Prop} {U : State} {H H1 : Heap} (h : SF n d A U H) (hq : ∀ a : Nat, a < H.size → ¬ A a → H1[a]? = H[a]?) : SF n d A U H1 := by
  obtain ⟨a, cell, h1, h2, h3, h4⟩ := h
  exact ⟨a, cell, by rw [hq a (Array.getElem?_eq_some_iff.mp h1).1 h3]; exact h1, h2, h3, h4⟩
theorem SF.narrow {n d : String} {A B : Nat → Prop} {U : State} {H : Heap} (h : SF n d A U H) (hAB : ∀ q, q < H.size → B q → A q) : SF n d B U H := by
  obtain ⟨a, cell, h1, h2, h3, h4⟩ := h
  exact ⟨a, cell, h1, h2, fun z => h3 (hAB a (Array.getElem?_eq_some_iff.mp h1).1 z), h4⟩
theorem SF.of {n d : String} {A : Nat → Prop} {s : State} {g0 : Array Value} (h1 : (Cond.isRef (.static "java/lang/Throwable" n d)).before g0 s = true) (h2 : (Cond.laysStatic "java/lang/Throwable" n d).before g0 s = true) (hA : ∀ a : Nat, a < s.heap.size → ¬ A a) : SF n d A s s.heap := by
  obtain ⟨c, k, i, f, a, cell, hc, hi, hst, ha, hcell, hs, hcls, hlt, hty⟩ := Cond.laysStatic_spec h2
  have hx : ∃ v, cell.slots[f.slot]? = some v ∧ v.isRef = true := by
    obtain ⟨u, hu⟩ := Cond.staticRefV hi hst ha hcell hs h1
    exact ⟨u.v, hu, u.2⟩
  obtain ⟨v, hv, hvr⟩ := hx
  refine ⟨a, cell, hcell, hs, hA a (Array.getElem?_eq_some_iff.mp hcell).1, fun U' g hvm hcell' => ?_⟩
  obtain ⟨k', hi', he⟩ := State.fieldFound?_setVm hvm hi
  have hi2 : U'.fieldFound? "java/lang/Throwable" n d = some (c, k', i, f) := hi'
  have hsta : k'.statics = some a := by rw [he]; exact ha
  refine ⟨?_, ?_⟩
  · have hev : (Term.static "java/lang/Throwable" n d).eval g U' none [] U' = some v := by
      simp [Term.eval, State.fieldNamed?, hi2, hst, hsta, hcell', hs, hv]
    simp only [Cond.before, Cond.holds, Cond.value, hev]
    cases v with
    | null => rfl
    | ref r => rfl
    | _ => exact absurd hvr Bool.false_ne_true
  · exact Cond.laysStatic_of (by rw [hvm.findClass]; exact hc) hi2 hst hsta hcell' hs hcls hlt (by rw [he]; exact hty)
