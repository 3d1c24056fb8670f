/-! ROWS: ends, throws, calls -/
section JE
variable {β : Type} {F : Fx} {nL : Nat} {cv : β → Option Rs} {E : β} {σ σ1 : Mem} {pc : Nat} {lv : List (Nat × Value)} {st : List Value} {cc : ByteArray} {own : String} {ret : Option FieldType} {fr lo : Nat} {x y v : Int32} {k c idx n : Nat}
theorem QF.back {below : List Frame} {D : va_G} {G : GC} {ad : Nat → Nat} {ρ : Rs} {s : State} {o : Option Value} (hρ : ρ = (.inl o, σ)) {p : Program} {l : Launch} {e : Env} {R : Room} {m : MethodId} {args : Array Value} {meth : Method} {c : Code} {H : Heap} {locs : List Loc} {g : JFrame}
    (hP : va_P D vcl (wld G ad σ) H) (hS : va_S (wA ad s.heap.size) s.heap H locs)
    (k : W p l e R s m args below meth c H locs 0 0 (MQ below (fun _ st oc t => Out D G ad ρ st oc t) args s 0 0 (wA ad s.heap.size)) g) : W p l e R s m args below meth c H locs 0 0 (QF below D G ad ρ s) g := by
  intro T hT X
  obtain ⟨t, a1, oc, b1, b2, b3, L, b4, b5⟩ := k T hT X
  refine ⟨t, a1, oc, b1, b2, b3, L, ⟨b4.2.1, ?_⟩, b5⟩
  rw [hρ]
  exact b4.2.2
theorem j_ireti (C : Ctx F cc nL own (some .int) fr lo) (hcv : ∀ ρ, cv E = some ρ → ρ = (.inl (some (.int v)), σ)) (d : decode cc pc = .ok (.ireturn, 1)) : J F nL cv E σ pc lv [.int v] := by
  intro hE H locs ls hP hS hl
  have hρ := hcv _ hE
  have hlk := C.2.2.2.2.2.1
  refine QF.back hρ hP hS ?_
  exact W.iret C.1 C.2.1 C.2.2.2.2.1 (fun t ht hW => by rw [hρ]; exact ⟨rfl, by rw [ht]; exact hP, hS.F ht⟩) hS.2.2 d hlk
theorem j_iretz (C : Ctx F cc nL own (some .boolean) fr lo) (hcv : ∀ ρ, cv E = some ρ → ρ = (.inl (some (.int v)), σ)) (hn : narrow .boolean (.int v) = .int v) (d : decode cc pc = .ok (.ireturn, 1)) : J F nL cv E σ pc lv [.int v] := by
  intro hE H locs ls hP hS hl
  have hρ := hcv _ hE
  have hlk := C.2.2.2.2.2.1
  refine QF.back hρ hP hS ?_
  exact W.zret C.1 C.2.1 C.2.2.2.2.1 hn (fun t ht hW => by rw [hρ]; exact ⟨rfl, by rw [ht]; exact hP, hS.F ht⟩) hS.2.2 d hlk
theorem j_vret (C : Ctx F cc nL own none fr lo) (hcv : ∀ ρ, cv E = some ρ → ρ = (.inl none, σ)) (d : decode cc pc = .ok (.return_, 1)) : J F nL cv E σ pc lv [] := by
  intro hE H locs ls hP hS hl
  have hρ := hcv _ hE
  have hlk := C.2.2.2.2.2.1
  refine QF.back hρ hP hS ?_
  exact W.vret C.1 C.2.1 C.2.2.2.2.1 (fun t ht hW => by rw [hρ]; exact ⟨rfl, by rw [ht]; exact hP, hS.F ht⟩) hS.2.2 d hlk
/-- an exception that nobody here catches -/
theorem QF.thr {p : Program} {l : Launch} {e : Env} {R : Room} {s : State} {m : MethodId} {args : Array Value} {below : List Frame} {meth : Method} {c : Code} {T : State} {locs : List Loc} {D : va_G} {G : GC} {ad : Nat → Nat} {ρ : Rs} {n : Nat} {q : Addr} {ce : Cell} {g : JFrame} {cells slots : Nat}
    (X : Stand p l e R s m args below meth c T locs cells slots) (hρ : ρ = (.inr n, σ)) (hg : g.method = m) (hlk : g.locked = none) (hen : g.entered = []) (hx : ∀ x ∈ c.exceptionTable.toList, False) (hlocks : meth.locks = false) (hce : T.heap[q]? = some ce) (hv : ce.vm = .none) (hcl : s.vm.findClass (xNm n) = some ce.cls)
    (hP : va_P D vcl (wld G ad σ) T.heap) (hS : va_S (wA ad s.heap.size) s.heap T.heap locs) (hc : cells ≤ 1) (hs : slots ≤ 6) : ∃ t, Steps p.tables e below ((T.setTop g).pushFrame (.throwing q)) t ∧ QF below D G ad ρ s t := by
  obtain ⟨st1, hrun, hend, hW, hsm⟩ := X.leaveThrown q hg hlk hen (fun x hx' => (hx x hx').elim) hlocks
  refine ⟨_, st1, .threw q, hrun, hend, ?_, locs, ⟨hW, ?_⟩, hS.2.2⟩
  · rw [hρ]
    exact ⟨⟨q, ce, rfl, hce, hv, hcl⟩, hP, hS.1, hS.2.1⟩
  · rw [hρ]
    exact hsm.mono hc hs
end JE
