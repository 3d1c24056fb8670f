/-! small rows for the generator -/
theorem wln_lt (k : Nat) : wln k < 2 ^ 31 := by
  by_cases h : k < 83
  · exact (show ∀ k, k < 83 → wln k < 2 ^ 31 by decide +kernel) k h
  · have : wlnL.length ≤ k := by
      have h9 : wlnL.length = 83 := by decide +kernel
      omega
    unfold wln
    rw [List.getD_eq_getElem?_getD, List.getElem?_eq_none this]
    decide
def ecase {α β γ : Type} (t : α ⊕ β) (a : α → γ) (b : β → γ) : γ := match t with | .inl v => a v | .inr n => b n
abbrev xrI (t : Int32 ⊕ Nat) (σ : Mem) : Rs := match t with | .inl r => (.inl (some (.int r)), σ) | .inr n => (.inr n, σ)
abbrev xrIM (t : (Int32 ⊕ Nat) × Mem) : Rs := match t.1 with | .inl r => (.inl (some (.int r)), t.2) | .inr n => (.inr n, t.2)
abbrev xrV (t : Unit ⊕ Nat) (σ : Mem) : Rs := match t with | .inl _ => (.inl none, σ) | .inr n => (.inr n, σ)
theorem xrI_ok (t : Int32 ⊕ Nat) (σ : Mem) : cvXI σ t = some (xrI t σ) := by cases t <;> rfl
theorem xrV_ok (t : Unit ⊕ Nat) (σ : Mem) : cvXV σ t = some (xrV t σ) := by cases t <;> rfl
theorem xrIM_ok (t : (Int32 ⊕ Nat) × Mem) : cvXIM t = some (xrIM t) := by obtain ⟨t, σ⟩ := t; cases t <;> rfl
theorem ne_bne {x : Int32} (h : (x != 0) = true) : ¬ x = 0 := by simpa using h
theorem ctr_xl {l : Launch} {D : va_G} {G : GC} {ad : Nat → Nat} {y : MethodName} {b : ByteArray} {mL fr lo : Nat} {r : Option FieldType} {av : List Value} {σ : Mem} {t : Unit ⊕ Nat} {u : Unit} (e : t = .inl u) (h : Ctr l D G ad y b mL r fr lo av σ (xrV t σ)) : Ctr l D G ad y b mL r fr lo av σ (.inl none, σ) := by subst e; exact h
theorem ctr_xr {l : Launch} {D : va_G} {G : GC} {ad : Nat → Nat} {y : MethodName} {b : ByteArray} {mL fr lo : Nat} {r : Option FieldType} {av : List Value} {σ : Mem} {t : Unit ⊕ Nat} {n : Nat} (e : t = .inr n) (h : Ctr l D G ad y b mL r fr lo av σ (xrV t σ)) : Ctr l D G ad y b mL r fr lo av σ (.inr n, σ) := by subst e; exact h
section JG
variable {β : Type} {F : Fx} {nL : Nat} {cv : β → Option Rs} {σ : Mem} {pc : Nat} {lv : List (Nat × Value)} {st : List Value} {cc : ByteArray} {own : String} {ret : Option FieldType} {fr lo : Nat} {A B : β}
theorem j_genM {e : Mem} {Kf : Mem → β} (K : ∀ τ, J F nL cv (Kf τ) τ pc lv st) : J F nL cv (lt e Kf) e pc lv st := K e
theorem j_genIM {e : Int32 × Mem} {Kf : Int32 × Mem → β} (K : ∀ q : Int32 × Mem, J F nL cv (Kf q) q.2 pc lv (.int q.1 :: st)) : J F nL cv (lt e Kf) e.2 pc lv (.int e.1 :: st) := K e
theorem j_genIMz {e : Int32 × Mem} {Kf : Int32 × Mem → β} (h : e.1 = 0 ∨ e.1 = 1) (K : ∀ q : Int32 × Mem, q.1 = 0 ∨ q.1 = 1 → J F nL cv (Kf q) q.2 pc lv (.int q.1 :: st)) : J F nL cv (lt e Kf) e.2 pc lv (.int e.1 :: st) := K e h
theorem j_sub {E : β} {lv9 : List (Nat × Value)} (ks : List Nat) (h : lv_pick lv ks = lv9) (K : J F nL cv E σ pc lv9 st) : J F nL cv E σ pc lv st := fun hE H locs ls hP hS hl => K hE H locs ls hP hS (lv_sub hl ks h)
theorem j_loop {X γ : Type} {cv : Option γ → Option Rs} {g : Option X} {Kf : X → Option γ} (K : J F nL (fun o => cv (o.bind Kf)) g σ pc lv st) : J F nL cv (g.bind Kf) σ pc lv st := K
theorem j_some {X γ : Type} {cv : Option γ → Option Rs} {Kf : X → Option γ} {x : X} (K : J F nL cv (Kf x) σ pc lv st) : J F nL (fun o => cv (o.bind Kf)) (some x) σ pc lv st := K
theorem j_ecl {α γ : Type} {v : α} {a : α → β} {b : γ → β} (K : J F nL cv (a v) σ pc lv st) : J F nL cv (ecase (.inl v) a b) σ pc lv st := K
theorem j_case {x k : Int32} (k1 : x = k → J F nL cv A σ pc lv st) (k2 : ¬ x = k → J F nL cv B σ pc lv st) : J F nL cv (if x = k then A else B) σ pc lv st := by
  intro hE
  by_cases h : x = k
  · rw [if_pos h] at hE; exact k1 h hE
  · rw [if_neg h] at hE; exact k2 h hE
theorem j_tin {E : β} {x k : Int32} {dflt lo1 hi1 : Int} {offs : Array Int} {len tgt : Nat} {off : Int} (C : Ctx F cc nL own ret fr lo) (d : decode cc pc = .ok (.tableswitch dflt lo1 hi1 offs, len)) (hx : x = k) (h1 : ¬ k.toInt < lo1) (h2 : ¬ hi1 < k.toInt) (ho : offs[(k.toInt - lo1).toNat]? = some off) (ht : (pc : Int) + off = (tgt : Int)) (K : J F nL cv E σ tgt lv st) : J F nL cv E σ pc lv (.int x :: st) := by
  subst hx
  exact fun hE H locs ls hP hS hl => lv_tableIn C.1 C.2.1 d h1 h2 ho ht (K hE H locs ls hP hS hl)
theorem j_tout {E : β} {x : Int32} {dflt lo1 hi1 : Int} {offs : Array Int} {len tgt : Nat} (C : Ctx F cc nL own ret fr lo) (d : decode cc pc = .ok (.tableswitch dflt lo1 hi1 offs, len)) (ht : (pc : Int) + dflt = (tgt : Int)) (h : x.toInt < lo1 ∨ hi1 < x.toInt) (K : J F nL cv E σ tgt lv st) : J F nL cv E σ pc lv (.int x :: st) := fun hE H locs ls hP hS hl => lv_tableOut C.1 C.2.1 d h ht (K hE H locs ls hP hS hl)
theorem j_look {E : β} {x : Int32} {dflt : Int} {ps : Array (Int × Int)} {len tgt : Nat} {off : Int} (C : Ctx F cc nL own ret fr lo) (d : decode cc pc = .ok (.lookupswitch dflt ps, len)) (hp : (ps.toList.zip (ps.toList.drop 1)).all (fun (a, next) => a.1 < next.1) = true) (ho : Op.lookupswitch.offset ps.toList dflt x.toInt = off) (ht : (pc : Int) + off = (tgt : Int)) (K : J F nL cv E σ tgt lv st) : J F nL cv E σ pc lv (.int x :: st) := fun hE H locs ls hP hS hl => lv_lookup C.1 C.2.1 d hp ho ht (K hE H locs ls hP hS hl)
end JG
theorem sw_out3 {x : Int32} (h0 : ¬ x = 0) (h1 : ¬ x = 1) (h2 : ¬ x = 2) : x.toInt < 0 ∨ 2 < x.toInt := by
  have e0 := lv_neT h0 (a := 0) (by decide)
  have e1 := lv_neT h1 (a := 1) (by decide)
  have e2 := lv_neT h2 (a := 2) (by decide)
  omega
theorem sw_out8 {x : Int32} (h0 : ¬ x = 0) (h1 : ¬ x = 1) (h2 : ¬ x = 2) (h3 : ¬ x = 3) (h4 : ¬ x = 4) (h5 : ¬ x = 5) (h6 : ¬ x = 6) (h7 : ¬ x = 7) : x.toInt < 0 ∨ 7 < x.toInt := by
  have e0 := lv_neT h0 (a := 0) (by decide)
  have e1 := lv_neT h1 (a := 1) (by decide)
  have e2 := lv_neT h2 (a := 2) (by decide)
  have e3 := lv_neT h3 (a := 3) (by decide)
  have e4 := lv_neT h4 (a := 4) (by decide)
  have e5 := lv_neT h5 (a := 5) (by decide)
  have e6 := lv_neT h6 (a := 6) (by decide)
  have e7 := lv_neT h7 (a := 7) (by decide)
  omega
theorem sw_out10 {x : Int32} (h0 : ¬ x = 0) (h1 : ¬ x = 1) (h2 : ¬ x = 2) (h3 : ¬ x = 3) (h4 : ¬ x = 4) (h5 : ¬ x = 5) (h6 : ¬ x = 6) (h7 : ¬ x = 7) (h8 : ¬ x = 8) (h9 : ¬ x = 9) : x.toInt < 0 ∨ 9 < x.toInt := by
  have e0 := lv_neT h0 (a := 0) (by decide)
  have e1 := lv_neT h1 (a := 1) (by decide)
  have e2 := lv_neT h2 (a := 2) (by decide)
  have e3 := lv_neT h3 (a := 3) (by decide)
  have e4 := lv_neT h4 (a := 4) (by decide)
  have e5 := lv_neT h5 (a := 5) (by decide)
  have e6 := lv_neT h6 (a := 6) (by decide)
  have e7 := lv_neT h7 (a := 7) (by decide)
  have e8 := lv_neT h8 (a := 8) (by decide)
  have e9 := lv_neT h9 (a := 9) (by decide)
  omega
