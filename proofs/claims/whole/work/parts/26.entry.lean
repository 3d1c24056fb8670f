/-! what holds at the law's entry -/
theorem arr_of {s : State} {A : Array Value} {ty : FieldType} (h : (Cond.arrayClass ty).before A s = true) : ∃ cA, s.vm.findClass ("[" ++ ty.toString) = some cA ∧ ArrOfT s cA ty := by
  obtain ⟨c, k, comp, h1, h2, h3⟩ := Cond.arrayClass_spec h
  exact ⟨c, h1, fun n z => ⟨fun k h => (by cases h), k, h2, comp, h3⟩⟩
set_option maxRecDepth 100000 in
theorem kn_all {s : State} {A : Array Value} (hts : ∀ w ∈ lw_tbl, w.before A s = true) : ∀ (c : Nat) (q : vw_C), vcl[c]? = some q → ∃ (cC : ClassId) (iS : Nat → Nat), u_Kn s q.1 q.2.1 q.2.2 cC iS := by
  intro c q hq
  match c, hq with
  | 0, hq => cases hq; exact u_known (n := 6) hts (fun w hw => (us_all 0 _ rfl w hw).1) (hts _ (List.mem_of_getElem? (i := 97) (by decide +kernel)))
  | 1, hq => cases hq; exact u_known (n := 3) hts (fun w hw => (us_all 1 _ rfl w hw).1) (hts _ (List.mem_of_getElem? (i := 256) (by decide +kernel)))
  | 2, hq => cases hq; exact u_known (n := 5) hts (fun w hw => (us_all 2 _ rfl w hw).1) (hts _ (List.mem_of_getElem? (i := 310) (by decide +kernel)))
  | 3, hq => cases hq; exact u_known (n := 2) hts (fun w hw => (us_all 3 _ rfl w hw).1) (hts _ (List.mem_of_getElem? (i := 199) (by decide +kernel)))
  | 4, hq => cases hq; exact u_known (n := 2) hts (fun w hw => (us_all 4 _ rfl w hw).1) (hts _ (List.mem_of_getElem? (i := 293) (by decide +kernel)))
  | 5, hq => cases hq; exact u_known (n := 9) hts (fun w hw => (us_all 5 _ rfl w hw).1) (hts _ (List.mem_of_getElem? (i := 218) (by decide +kernel)))
  | 6, hq => cases hq; exact u_known (n := 4) hts (fun w hw => (us_all 6 _ rfl w hw).1) (hts _ (List.mem_of_getElem? (i := 129) (by decide +kernel)))
  | 7, hq => cases hq; exact u_known (n := 9) hts (fun w hw => (us_all 7 _ rfl w hw).1) (hts _ (List.mem_of_getElem? (i := 111) (by decide +kernel)))
  | 8, hq => cases hq; exact u_known (n := 1) hts (fun w hw => (us_all 8 _ rfl w hw).1) (hts _ (List.mem_of_getElem? (i := 117) (by decide +kernel)))
  | 9, hq => cases hq; exact u_known (n := 14) hts (fun w hw => (us_all 9 _ rfl w hw).1) (hts _ (List.mem_of_getElem? (i := 285) (by decide +kernel)))
  | 10, hq => cases hq; exact u_known (n := 4) hts (fun w hw => (us_all 10 _ rfl w hw).1) (hts _ (List.mem_of_getElem? (i := 212) (by decide +kernel)))
  | 11, hq => cases hq; exact u_known (n := 65) hts (fun w hw => (us_all 11 _ rfl w hw).1) (hts _ (List.mem_of_getElem? (i := 1085) (by decide +kernel)))
  | c + 12, hq => exact absurd (List.getElem?_eq_some_iff.mp hq).1 (by have h12 : vcl.length = 12 := rfl; omega)
theorem kn_D {s : State} {A : Array Value} (hts : ∀ w ∈ lw_tbl, w.before A s = true) : ∃ D : va_G, ∀ (c : Nat) (q : vw_C), vcl[c]? = some q → u_Kn s q.1 q.2.1 q.2.2 (D.1 c) (D.2 c) := by
  have h : ∀ c : Nat, ∃ P : ClassId × (Nat → Nat), ∀ q, vcl[c]? = some q → u_Kn s q.1 q.2.1 q.2.2 P.1 P.2 := by
    intro c
    cases hq : vcl[c]? with
    | none => exact ⟨(0, fun _ => 0), fun q h => by cases h⟩
    | some q =>
      obtain ⟨cC, iS, hk⟩ := kn_all hts c q hq
      exact ⟨(cC, iS), fun q' h => by cases h; exact hk⟩
  obtain ⟨f, hf⟩ := Classical.axiomOfChoice h
  exact ⟨(fun c => (f c).1, fun c => (f c).2), fun c q hq => hf c q hq⟩
set_option maxRecDepth 100000 in
theorem lw_nx {s : State} {A : Array Value} (h : (Jvm.Cond.and given_1 narrow_1).before A s = true) : Nx s := by
  have hs := flat_of_before _ h
  intro i j h1 h2 h3 h4 h5
  match i, j, h1, h2, h3, h4, h5 with
  | 1, 2, _, _, _, _, _ => exact va_Nc.of (hs _ (by decide +kernel))
  | 1, 3, _, _, _, _, _ => exact va_Nc.of (hs _ (by decide +kernel))
  | 1, 4, _, _, _, _, _ => exact va_Nc.of (hs _ (by decide +kernel))
  | 2, 1, _, _, _, _, _ => exact va_Nc.of (hs _ (by decide +kernel))
  | 2, 3, _, _, _, _, _ => exact va_Nc.of (hs _ (by decide +kernel))
  | 2, 4, _, _, _, _, _ => exact va_Nc.of (hs _ (by decide +kernel))
  | 3, 1, _, _, _, _, _ => exact va_Nc.of (hs _ (by decide +kernel))
  | 3, 2, _, _, _, _, _ => exact va_Nc.of (hs _ (by decide +kernel))
  | 3, 4, _, _, _, _, _ => exact va_Nc.of (hs _ (by decide +kernel))
  | 4, 1, _, _, _, _, _ => exact va_Nc.of (hs _ (by decide +kernel))
  | 4, 2, _, _, _, _, _ => exact va_Nc.of (hs _ (by decide +kernel))
  | 4, 3, _, _, _, _, _ => exact va_Nc.of (hs _ (by decide +kernel))
  | 1, 1, _, _, _, _, h => exact absurd rfl h
  | 2, 2, _, _, _, _, h => exact absurd rfl h
  | 3, 3, _, _, _, _, h => exact absurd rfl h
  | 4, 4, _, _, _, _, h => exact absurd rfl h
  | i + 5, _, _, h2, _, _, _ => omega
  | _, j + 5, _, _, _, h4, _ => omega
set_option maxRecDepth 100000 in
theorem str_tbl : ∀ q ∈ strL, Cond.stringRef q.1 q.2.1 q.2.2 ∈ lw_tbl := by decide +kernel
set_option maxRecDepth 100000 in
theorem str_nar : ∀ q ∈ strL, Cond.exactly (.string q.1 q.2.1) "java/lang/String" ∈ flatC (Jvm.Cond.and given_1 narrow_1) := by decide +kernel
set_option maxRecDepth 100000 in
theorem lw_env {s : State} {A : Array Value} (hts : ∀ w ∈ lw_tbl, w.before A s = true) (h : (Jvm.Cond.and given_1 narrow_1).before A s = true) : ∃ (D : va_G) (G : GC), EnvI D G s ∧ ∀ ad : Nat → Nat, (∀ k, k < wN → s.heap.size ≤ ad k) → (∀ i j, i < wN → j < wN → ad i = ad j → i = j) → Env0 D G ad s s.heap := by
  obtain ⟨D, hD⟩ := kn_D hts
  have hs := flat_of_before _ h
  have a1 := hts (.arrayClass .int) (List.mem_of_getElem? (i := 127) (by decide +kernel))
  have a2 := hts (.arrayClass .boolean) (List.mem_of_getElem? (i := 1286) (by decide +kernel))
  have a3 := hts (.arrayClass .long) (List.mem_of_getElem? (i := 1514) (by decide +kernel))
  obtain ⟨g1, e1, f1⟩ := arr_of a1
  obtain ⟨g2, e2, f2⟩ := arr_of a2
  obtain ⟨g3, e3, f3⟩ := arr_of a3
  have hK : va_K D vcl (wtys (g1, g2, g3)) s := ⟨hD, fun k q hk => by
    match k, hk with
    | 0, hk => cases hk; exact ⟨f1, e1⟩
    | 1, hk => cases hk; exact ⟨f2, e2⟩
    | 2, hk => cases hk; exact ⟨f3, e3⟩
    | k + 3, hk => exact absurd (List.getElem?_eq_some_iff.mp hk).1 (by simp)⟩
  have hW : Wds s := Wds.of hts
  refine ⟨D, (g1, g2, g3), ⟨hK, hW, fun a => word_at (State.WarmedH.refl s) (Or.inr ⟨_, rfl⟩) a1, fun a => word_at (State.WarmedH.refl s) (Or.inr ⟨_, rfl⟩) a2, fun a => word_at (State.WarmedH.refl s) (Or.inr ⟨_, rfl⟩) a3⟩, fun ad h1 h2 => ?_⟩
  have hA : ∀ a : Nat, a < s.heap.size → ¬ wA ad s.heap.size a := by
    rintro a ha (⟨k, hk, hq⟩ | hq)
    · have := h1 k hk
      omega
    · omega
  refine ⟨hK, hW, SF.of (hs _ (by decide +kernel)) (hts _ (List.mem_of_getElem? (i := 730) (by decide +kernel))) hA, SF.of (hs _ (by decide +kernel)) (hts _ (List.mem_of_getElem? (i := 732) (by decide +kernel))) hA, fun q hq => ?_, h2⟩
  obtain ⟨a, c, cell, k, ht, -⟩ := Cond.exactly_spec (hs _ (str_nar q hq))
  exact ⟨a, vk_R.of (hts _ (str_tbl q hq)) ht⟩
theorem lw_tr {l : Launch} (h : l.flags = flags0) : l.stackTraces = false := by
  unfold Launch.stackTraces
  rw [h]
  decide +kernel
