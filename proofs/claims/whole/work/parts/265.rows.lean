/-! the start's rows -/
theorem ms_LAW_64 : MS "LineFramesLaw" 64 ⟨"LineFramesLaw", "cell", "([II)I"⟩ method_2_code 2 (some .int) 2 := ⟨⟨Or.inl (List.mem_of_getElem? (i := 691) (by decide +kernel)), (List.mem_of_getElem? (i := 75) (by decide +kernel)), (List.mem_of_getElem? (i := 693) (by decide +kernel)), by decide, by decide +kernel⟩, (List.mem_of_getElem? (i := 692) (by decide +kernel))⟩
def KCtx (F : Ix) (cc : ByteArray) (nL : Nat) (own : String) (fr lo mc ms : Nat) : Prop :=
  F.1.1.tables.exec = Jvm.exec ∧ F.2.1.2.2.2.2.code = cc ∧ F.2.1.2.2.2.2.maxLocals = nL ∧ F.1.2.2.2.2.vm.findClass own = some F.2.1.1.cls ∧ F.1.2.2.2.1 = rmI fr lo mc ms ∧ EnvI F.2.2.1 F.2.2.2.1 F.1.2.2.2.2
section KR
variable {F : Ix} {cc : ByteArray} {nL : Nat} {own : String} {fr lo mc ms : Nat} {w w9 : va_W} {cells slots pc : Nat} {lv lv9 : List (Nat × Value)} {st : List Value} {x y v : Int32}
theorem KCtx.wds (C : KCtx F cc nL own fr lo mc ms) {w : Cond} (h : w ∈ lw_tbl) (hg : stb w = true) : w.before F.2.1.2.1 F.1.2.2.2.2 = true := C.2.2.2.2.2.2.1 w h hg _
theorem KCtx.us (C : KCtx F cc nL own fr lo mc ms) {c : Nat} {q : vw_C} (hq : vcl[c]? = some q) : ∀ w ∈ u_ws q.1 q.2.1 q.2.2, w.before F.2.1.2.1 F.1.2.2.2.2 = true := fun w hw => C.wds (us_all c q hq w hw).1 (us_all c q hq w hw).2
theorem k_iconst (C : KCtx F cc nL own fr lo mc ms) {n : Int} (d : decode cc pc = .ok (.iconst n, 1)) (hv : Int32.ofInt n = v) (K : IW F nL w cells slots (pc + 1) lv (.int v :: st)) : IW F nL w cells slots pc lv st := fun H locs ls hP hD hS hl => lv_iconst C.1 C.2.1 d hv (K H locs ls hP hD hS hl)
theorem k_aload_n (C : KCtx F cc nL own fr lo mc ms) {i : Fin 4} {a : Nat} (d : decode cc pc = .ok (.aload_n i, 1)) (q : Nat) (hq : lv[q]? = some ((i : Nat), .ref a)) (K : IW F nL w cells slots (pc + 1) lv (.ref a :: st)) : IW F nL w cells slots pc lv st := fun H locs ls hP hD hS hl => lv_aload_n C.1 C.2.1 d rfl (lv_at hl q hq) (K H locs ls hP hD hS hl)
theorem k_dup (C : KCtx F cc nL own fr lo mc ms) {z : Value} (d : decode cc pc = .ok (.dup, 1)) (hz : z.category = 1) (K : IW F nL w cells slots (pc + 1) lv (z :: z :: st)) : IW F nL w cells slots pc lv (z :: st) := fun H locs ls hP hD hS hl => lv_dup C.1 C.2.1 d hz (K H locs ls hP hD hS hl)
theorem k_new (C : KCtx F cc nL own fr lo mc ms) {c idx : Nat} {z : vw_C} (hz : vcl[c]? = some z) (ty : Nat → FieldType) (hty : ∀ k, k < z.2.2 → parseFieldDescriptor (z.2.1 k).2.2.1 = some (ty k)) (fs : List Value) (hfs : ∀ j, j < z.2.2 → defaultValue (ty j) = vp_V fs j) (h1 : Cond.classLink own idx z.1 ∈ lw_tbl) (h2 : Cond.instantiable z.1 z.2.2 ∈ lw_tbl) (h3 : Cond.initialized z.1 ∈ lw_tbl) (hc : cells + 1 ≤ mc) (hs : slots + z.2.2 ≤ ms) (d : decode cc pc = .ok (.new idx, 3))
    (K : ∀ q : Nat, IW F nL (w ++ [(q, .inr (c, fs))]) (cells + 1) (slots + z.2.2) (pc + 3) lv (.ref q :: st)) : IW F nL w cells slots pc lv st := by
  intro H locs ls hP hD hS hl
  have hRm : F.1.2.2.2.1 = rmI fr lo mc ms := C.2.2.2.2.1
  exact va_new C.1 C.2.1 (C.us hz) (fun _ h => h) ty hty C.2.2.2.1 (C.wds h1 (by first | rfl | simp [stb, Cond.onTables, Cond.keeps, Cond.steady])) (C.wds h2 (by first | rfl | simp [stb, Cond.onTables, Cond.keeps, Cond.steady])) (C.wds h3 stb_ini) C.2.2.2.2.2.1 hP hD hS va_A_new hz hfs (by rw [hRm]; exact hc) (by rw [hRm]; exact hs) d (fun q H1 hP1 hD1 hS1 => K q H1 locs ls hP1 hD1 hS1 hl)
theorem k_newa (C : KCtx F cc nL own fr lo mc ms) {at1 : ArrayType} {ty : FieldType} {cA : ClassId} {t0 N : Nat} {a0 : vp_A} (hty : newarray.typeOf at1 = ty) (hw : ∀ a, (Cond.arrayClass ty).before a F.1.2.2.2.2 = true) (ht : (wtys F.2.2.2.1)[t0]? = some (cA, ty)) (hr : ∀ c, va_RA F.1.2.2.2.2 c ty = (F.1.2.2.2.2.vm.findClass ("[" ++ ty.toString) = some c)) (ha : ∀ cA : ClassId, vp_cell cA a0 = arrV cA N (fun _ => defaultValue ty)) (hn : ¬ x < 0) (hN : x.toNatClampNeg = N) (hb : N * componentBytes ty ≤ 536870912) (hc : cells + 1 ≤ mc) (hs : slots + N ≤ ms) (d : decode cc pc = .ok (.newarray at1, 2))
    (K : ∀ q : Nat, IW F nL (w ++ [(q, .inl (cA, a0))]) (cells + 1) (slots + N) (pc + 2) lv (.ref q :: st)) : IW F nL w cells slots pc lv (.int x :: st) := by
  intro H locs ls hP hD hS hl
  have hRm : F.1.2.2.2.1 = rmI fr lo mc ms := C.2.2.2.2.1
  have hK := C.2.2.2.2.2.1
  refine va_newa C.1 C.2.1 (by rw [hty]; exact hw _) hty hK hP hD hS va_A_new ha hn hN hb (by rw [hRm]; exact hc) (by rw [hRm]; exact hs) d (fun q cB H1 hK1 hP1 hD1 hS1 => ?_)
  have e1 := (hK.2 t0 _ ht).2
  have e2 := (hK1.2 3 (cB, ty) rfl).2
  have e1' : F.1.2.2.2.2.vm.findClass ("[" ++ ty.toString) = some cA := by rw [← hr]; exact e1
  have e2' : F.1.2.2.2.2.vm.findClass ("[" ++ ty.toString) = some cB := by rw [← hr]; exact e2
  cases Option.some.inj (e1'.symm.trans e2')
  exact K q H1 locs ls hP1 hD1 hS1 hl
theorem k_astore_n (C : KCtx F cc nL own fr lo mc ms) {i : Fin 4} {a : Nat} (d : decode cc pc = .ok (.astore_n i, 1)) (hn : (i : Nat) < nL) (hl9 : ((i : Nat), Value.ref a) :: lv.filter (fun q => !(q.1 == (i : Nat)) && !(q.1 + 1 == (i : Nat) && q.2.category == 2)) = lv9) (K : IW F nL w cells slots (pc + 1) lv9 st) : IW F nL w cells slots pc lv (.ref a :: st) := fun H locs ls hP hD hS hl => lv_astore_n C.1 C.2.1 d rfl hl hn hl9 (fun ls2 hl2 => K H locs ls2 hP hD hS hl2)
theorem k_istore (C : KCtx F cc nL own fr lo mc ms) {i : Nat} (d : decode cc pc = .ok (.istore i, 2)) (hn : i < nL) (hl9 : (i, Value.int x) :: lv.filter (fun q => !(q.1 == i) && !(q.1 + 1 == i && q.2.category == 2)) = lv9) (K : IW F nL w cells slots (pc + 2) lv9 st) : IW F nL w cells slots pc lv (.int x :: st) := fun H locs ls hP hD hS hl => lv_istore C.1 C.2.1 d hl hn hl9 (fun ls2 hl2 => K H locs ls2 hP hD hS hl2)
end KR
theorem k_call {F : Ix} {cc : ByteArray} {nL : Nat} {own : String} {fr lo mc ms : Nat} {w wr w0 : va_W} {cells slots pc : Nat} {lv : List (Nat × Value)} {stk : List Value} {idx n mL1 fr1 lo1 mc1 ms1 h : Nat} {y : MethodName} {bytes : ByteArray} {post : va_W → Prop} (C : KCtx F cc nL own fr lo mc ms) (hm : MI own idx y bytes mL1 n) (As st : List Value) (hct : CtrI F.1.2.1 F.2.2.1 F.2.2.2.1 y bytes mL1 fr1 lo1 mc1 ms1 (.ref h :: As) w0 post)
    (isC isR : List Nat) (hC : isC.map (fun i => w[i]?) = w0.map some) (hR : isR.map (fun i => w[i]?) = wr.map some) (hnC : va_nd isC = true) (hnR : va_nd isR = true) (hdis : ∀ i ∈ isR, i ∉ isC) (hn : As.length = n) (hRm : fr1 + 1 ≤ fr ∧ 8 + (mL1 + 11) + lo1 ≤ lo) (hc : cells + mc1 ≤ mc) (hs : slots + ms1 ≤ ms) (hst : stk = As.reverse ++ .ref h :: st) (hw : (st.map fun v => v.category).sum ≤ 8) (d : decode cc pc = .ok (.invokespecial idx, 3))
    (K : ∀ w1, post w1 → IW F nL (wr ++ w1) (cells + mc1) (slots + ms1) (pc + 3) lv st) : IW F nL w cells slots pc lv stk := by
  subst hst
  intro H locs ls hP hD hS hl T hT X
  have hRoom : F.1.2.2.2.1 = rmI fr lo mc ms := C.2.2.2.2.1
  obtain ⟨hmc, hi, hyn⟩ := hm
  have hpl : F.1.2.2.1.platform.magicAccessors = ({} : Platform).magicAccessors := by rw [X.admits.platform]
  have hlen : ∀ sig, parseMethodDescriptor y.desc = some sig → As.length = sig.parameters.length := by
    intro sig hsig
    have h2 := hmc.2.2.2.2
    rw [hsig] at h2
    rw [hn]
    exact (Option.some.inj h2).symm
  have hgo : ∃ mk vm', F.1.2.2.2.2.methodNamed? y = some mk ∧ F.1.2.2.2.2.WarmedH vm' ∧ ∀ target, (∀ acts, Steps F.1.1.tables F.1.2.2.1 F.2.1.2.2.1 (doInvoke F.1.2.2.1 ((T.setVm vm').setTop { F0 F.2.1.1 pc ls (As.reverse ++ .ref h :: st) with stack := st }) acts mk (.ref h :: As).toArray).1 target) → Steps F.1.1.tables F.1.2.2.1 F.2.1.2.2.1 (T.setTop (F0 F.2.1.1 pc ls (As.reverse ++ .ref h :: st))) target := by
    rcases hmc.1 with hlk | ⟨ho, hlk⟩
    · obtain ⟨mk, methM, cM, kP, vm₁, hnamed, -, -, -, -, -, -, -, hW₁, hst⟩ := Steps.initColdArgs (e := F.1.2.2.1) X.here C.1 X.warmed hpl C.2.2.2.1 hyn hmc.2.2.2.1 (C.wds hlk stb_ml) (C.wds hi stb_inst) (C.wds hmc.2.2.1 stb_code) (f := F0 F.2.1.1 pc ls (As.reverse ++ .ref h :: st)) rfl hlen rfl (by rw [C.2.1]; exact d)
      exact ⟨mk, vm₁, hnamed, hW₁, hst⟩
    · obtain ⟨mk, methM, cM, kP, vm₁, hnamed, -, -, -, -, -, -, -, hW₁, hst⟩ := Steps.initColdArgsNest (e := F.1.2.2.1) X.here C.1 X.warmed hpl C.2.2.2.1 hyn hmc.2.2.2.1 (C.wds hlk rfl) (C.wds hi stb_inst) (C.wds hmc.2.2.1 stb_code) (f := F0 F.2.1.1 pc ls (As.reverse ++ .ref h :: st)) rfl hlen rfl (by rw [C.2.1]; exact d)
      exact ⟨mk, vm₁, hnamed, hW₁, hst⟩
  obtain ⟨mk, vm₁, hnamed, hW₁, hst⟩ := hgo
  have X₁ := X.noted hW₁
  have hE2 : EnvI F.2.2.1 F.2.2.2.1 (T.setVm vm₁) := C.2.2.2.2.2.warm hW₁
  have hTH : (T.setVm vm₁).heap = H := hT
  have hPc : va_P F.2.2.1 vcl w0 (T.setVm vm₁).heap := by rw [hTH]; exact hP.sub isC (fm_map hC)
  obtain ⟨T', L, w1, X', hL, hpost, hP1, hD1, ⟨hF1, hF2⟩, hsteps⟩ := ct_goI X₁ (g := F0 F.2.1.1 pc ls st) (ig := .invokespecial idx) rfl (by show ls.size = _; rw [hl.1, C.2.2.1]) (by rw [C.2.1]; exact d) (lv_room hw) (X₁.named hnamed) hct (hE2.2.1 _ hmc.2.2.1 stb_code _) (hE2.2.1 _ hmc.2.1 stb_ini _) (by rw [hRoom]; exact hRm.1) (by rw [hRoom]; exact hRm.2) (by rw [hRoom]; exact hc) (by rw [hRoom]; exact hs) hPc ((hD.sub isC hnC hC).weaken (fun _ _ _ _ => trivial)) hE2
  rw [hTH] at hL hD1 hF1 hF2
  have hfree := va_free (wc := w0) hD hS va_A_new isC hC
  obtain ⟨hPj, hDj⟩ := va_join (wr := wr) (w1 := w1) hP hD isC isR hC hR hnR hdis hF2 hfree hP1 hD1
  have hS' : va_S (va_A F.2.2.2.2.1 F.1.2.2.2.2.heap.size) F.1.2.2.2.2.heap T'.heap (locs ++ L) := by
    refine ⟨Nat.le_trans hS.1 hF1, fun q h1 h2 => ?_, fun q hq => ?_⟩
    · rw [hF2 q (Nat.lt_of_lt_of_le h1 hS.1) (fun z => h2 (hfree q z))]
      exact hS.2.1 q h1 h2
    · rcases List.mem_append.mp hq with h | h
      · exact hS.2.2 q h
      · exact hfree _ (hL q h)
  obtain ⟨t, a1, b1⟩ := K w1 hpost T'.heap (locs ++ L) ls hPj hDj hS' hl T' rfl X'
  exact ⟨t, hst t (fun acts => by rw [doInvoke_state]; exact hsteps.trans a1), b1⟩
/-! cell(script, 0) -/
def x0 (L : Nat) (xs : Nat → Int32) : Int32 := if 0 < L then xs 0 else 0
def CtrC (l : Launch) (y : MethodName) (bytes : ByteArray) (mL fr lo : Nat) (av : List Value) (Pr : State → Prop) (k : Int32) : Prop :=
  ∀ sz : Nat, MetFree l y (headSpec [.code y bytes mL (some .int)] (rmI fr lo 0 0)) (fun a U => a = av.toArray ∧ U.heap.size = sz ∧ Pr U) (fun _ _ _ _ _ => True)
    (fun _ st o t => (o = .returned (some (.int k)) ∧ va_F (fun q => sz ≤ q) st t) ∧ ∃ L, FE st t L 0 0 ∧ ∀ q ∈ L, sz ≤ q.base)
theorem d_cell_0 : decode method_2_code 0 = .ok (.iload_n 1, 1) := by decide +kernel
theorem d_cell_1 : decode method_2_code 1 = .ok (.aload_n 0, 1) := by decide +kernel
theorem d_cell_2 : decode method_2_code 2 = .ok (.arraylength, 1) := by decide +kernel
theorem d_cell_3 : decode method_2_code 3 = .ok (.if_icmp .ge 9, 3) := by decide +kernel
theorem d_cell_6 : decode method_2_code 6 = .ok (.aload_n 0, 1) := by decide +kernel
theorem d_cell_7 : decode method_2_code 7 = .ok (.iload_n 1, 1) := by decide +kernel
theorem d_cell_8 : decode method_2_code 8 = .ok (.iaload, 1) := by decide +kernel
theorem d_cell_9 : decode method_2_code 9 = .ok (.goto 4, 3) := by decide +kernel
theorem d_cell_12 : decode method_2_code 12 = .ok (.iconst 0, 1) := by decide +kernel
theorem d_cell_13 : decode method_2_code 13 = .ok (.ireturn, 1) := by decide +kernel
theorem c_cell {l : Launch} {b L : Nat} {xs : Nat → Int32} (hL : L ≤ 2561) : CtrC l ⟨"LineFramesLaw", "cell", "([II)I"⟩ method_2_code 2 0 0 [.ref b, .int 0] (fun U => va_X b L xs U U.heap) (x0 L xs) := by
  intro sz
  refine MetFree.of_bodyS (code := method_2_code) (maxLocals := 2) (ret := some .int) (by decide +kernel) ?_ ?_
  · intro args s m h hn
    obtain ⟨meth, c, h1, h2, h3, h4, h5, h6, -, -⟩ := Cond.code_spec hn (atoms_spec (ws := [.code ⟨"LineFramesLaw", "cell", "([II)I"⟩ method_2_code 2 (some .int)]) h _ List.mem_cons_self)
    exact ⟨meth, c, h1, h2, h3, h4, h5, h6⟩
  · intro p e s m args below meth c s₁ B hml hPre _
    obtain ⟨rfl, rfl, hX⟩ := hPre
    have hh0 : s₁.heap = s.heap := by rw [B.state]; rfl
    have hx := B.exec
    have hb := B.bytes
    have hr := B.returns
    have hlk := B.notSynchronized
    have hbl : b < s.heap.size := (Array.getElem?_eq_some_iff.mp hX.choose_spec.1).1
    have hbA : ¬ (fun q : Nat => s.heap.size ≤ q) b := Nat.not_le.mpr hbl
    have hS : va_S (fun q : Nat => s.heap.size ≤ q) s.heap s.heap [] := va_S.rf
    have hend : ∀ (ls : Array Slot) (v : Int32), v = x0 L xs → W p l e (rmI 0 0 0 0) s m [.ref b, .int 0].toArray below meth c s.heap [] 0 0 (fun t => ∃ o, t.status = .running ∧ Ended t below o ∧ (o = .returned (some (.int (x0 L xs))) ∧ va_F (fun q => s.heap.size ≤ q) s t) ∧ ∃ L, FE s t L 0 0 ∧ ∀ q ∈ L, s.heap.size ≤ q.base) (F0 m 13 ls [.int v]) := by
      intro ls v hv
      subst hv
      have h := W.iret (p := p) (l := l) (e := e) (R := rmI 0 0 0 0) (s := s) (m := m) (args := [.ref b, .int 0].toArray) (below := below) (meth := meth) (c := c) (H := s.heap) (locs := []) (cells := 0) (slots := 0) (v := x0 L xs) (ls := ls) (Qc := fun _ st o t => o = .returned (some (.int (x0 L xs))) ∧ va_F (fun q => st.heap.size ≤ q) st t) (free := fun q => s.heap.size ≤ q) hx hb hr (fun t ht hW => ⟨rfl, hS.F ht⟩) hS.2.2 d_cell_13 hlk
      intro T hT X
      obtain ⟨t, a1, oc, b1, b2, b3, L9, b4, b5⟩ := h T hT X
      exact ⟨t, a1, oc, b1, b2, b3, L9, ⟨b4.2.1, b4.2.2⟩, b5⟩
    have body : ∀ ls : Array Slot, lv_has ls 2 [(0, .ref b), (1, .int 0)] → W p l e (rmI 0 0 0 0) s m [.ref b, .int 0].toArray below meth c s.heap [] 0 0 (fun t => ∃ o, t.status = .running ∧ Ended t below o ∧ (o = .returned (some (.int (x0 L xs))) ∧ va_F (fun q => s.heap.size ≤ q) s t) ∧ ∃ L, FE s t L 0 0 ∧ ∀ q ∈ L, s.heap.size ≤ q.base) (F0 m 0 ls []) := by
      intro ls hl
      refine lv_iload_n hx hb d_cell_0 rfl (lv_at hl 1 rfl) ?_
      refine lv_aload_n hx hb d_cell_1 rfl (lv_at hl 0 rfl) ?_
      refine va_slen hx hb hX hbl hbA hS d_cell_2 ?_
      refine lv_icmp_ge (tgt := 12) hx hb d_cell_3 (by decide) (fun c9 => ?_) (fun c9 => ?_)
      · have h0 : L = 0 := by
          rcases Nat.eq_zero_or_pos L with h | h
          · exact h
          · exact absurd c9 (nI_nle (n := L) h (by omega))
        refine lv_iconst (v := 0) hx hb d_cell_12 (by decide) ?_
        exact hend ls 0 (by rw [x0, if_neg (by omega)])
      · have h0 : 0 < L := by
          rcases Nat.eq_zero_or_pos L with h | h
          · exact absurd (by rw [h]; decide) c9
          · exact h
        refine lv_aload_n hx hb d_cell_6 rfl (lv_at hl 0 rfl) ?_
        refine lv_iload_n hx hb d_cell_7 rfl (lv_at hl 1 rfl) ?_
        refine va_sld hx hb hX hbl hbA hS (i := 0) (nI_in (c := 0) h0 (by omega)) d_cell_8 ?_
        refine lv_goto (tgt := 13) hx hb d_cell_9 (by decide) ?_
        exact hend ls _ (by rw [x0, if_pos h0]; rfl)
    obtain ⟨t, a1, o, b1, b2, b3, b4⟩ := body _ (lv_entry [.ref b, .int 0] (n := 2) (Nat.le_of_ble_eq_true rfl)) s₁ hh0 (Stand.of_body B)
    exact ⟨t, o, by rw [lg_entry_eq]; exact a1, b1, b2, b3, b4⟩
section CTC
variable {p : Program} {l : Launch} {e : Env} {R : Room} {s : State} {m : MethodId} {args : Array Value} {below : List Frame} {meth : Method} {c : Code} {U : State} {locs : List Loc} {cells slots : Nat}
variable {D : va_G} {G : GC} {ad : Nat → Nat} {y : MethodName} {bytes : ByteArray} {mL fr lo : Nat} {ret : Option FieldType} {av : List Value} {σ : Mem} {ρ : Rs} {g : JFrame} {ig : Instr} {mk : MethodId}
theorem ct_goC {k : Int32} {Pr : State → Prop} (X : Stand p l e R s m args below meth c U locs cells slots) (hg : g.method = m) (hsize : g.locals.size = c.maxLocals) (hd : decode c.code g.pc = .ok (ig, 3)) (hW : 2 * g.monitorRoom + (g.stack.map fun v => v.category).sum ≤ 8) (hn : U.methodNamed? y = some mk)
    (hct : CtrC l y bytes mL fr lo av Pr k) (hcode : (Cond.code y bytes mL (some .int)).before av.toArray U = true) (hini : (Cond.initialized y.cls).before av.toArray U = true) (hfr : fr + 1 ≤ R.frames) (hlo : 8 + (mL + 11) + lo ≤ R.locals) (hrc : cells ≤ R.cells) (hrs : slots ≤ R.slots)
    (hPr : ∀ (g : JFrame) (mk : MethodId), Pr (U.calling g mk av.toArray)) :
    ∃ (T' : State) (L : List Loc), Stand p l e R s m args below meth c T' (locs ++ L) cells slots ∧ (∀ q ∈ L, U.heap.size ≤ q.base) ∧ va_F (fun q => U.heap.size ≤ q) U T' ∧
      Steps p.tables e below (doInvoke e (U.setTop g) [] mk av.toArray).1 (T'.setTop { g with pc := g.pc + 3, stack := .int k :: g.stack }) := by
  obtain ⟨methY, cY, hmY, hcY, -, hlY, -, -, -, -⟩ := Cond.code_spec hn hcode
  obtain ⟨kY, hkY, -⟩ := className_of_methodNamed hn
  have hinitY : kY.init = .initialized := Cond.initialized_spec (findClass_of_methodNamed hn) hkY hini
  have hAt : At U g.method c below := by rw [hg]; exact X.here
  have hroom : (U.calling g mk av.toArray).hasRoom e.platform (rmI fr lo 0 0) = true := X.room_calling (g := g) (R' := rmI fr lo 0 0) hsize hmY hcY hfr (by rw [hlY]; show _ + _ + (mL + 11) + lo ≤ _; omega) hrc hrs
  have happ : (headSpec [.code y bytes mL (some .int)] (rmI fr lo 0 0)).appliesLoose y e.platform (U.calling g mk av.toArray) = true :=
    Spec.appliesLoose_calling (g := g) hAt hd hn hkY hinitY hroom (atoms_intro fun w hw => by rw [List.mem_singleton.mp hw]; exact hcode)
  obtain ⟨mid, hmid⟩ := hAt.above
  have hfr2 : (U.setTop g).frames = (.java g :: mid) ++ below := by rw [State.frames_setTop' g hAt.top, hmid]; rfl
  obtain ⟨o, t, hst, -, hend, hq⟩ := Steps.callFree (hct U.heap.size) p X.admits X.cas X.clock (acts := []) hfr2 happ ⟨rfl, rfl, hPr _ _⟩ trivial
  rw [State.frames_setTop' g hAt.top] at hend
  obtain ⟨hout, L, ⟨hWm, hsm⟩, hL⟩ := hq
  have hW' : U.WarmedH t.vm := hWm
  have hsm : (U.calling g mk av.toArray).sameButNew ({ t with vm := (U.calling g mk av.toArray).vm } : State) L 0 0 := hsm
  obtain ⟨e2, q2, q3, q4, q5, q6⟩ := hsm
  obtain ⟨g₀, hg0⟩ := Option.isSome_iff_exists.mp hAt.top
  obtain ⟨r, hr⟩ := State.topJava?_eq_some.mp hg0
  obtain ⟨T', hT'⟩ : ∃ z, z = ({ U with heap := t.heap, slotsUsed := t.slotsUsed } : State).setVm t.vm := ⟨_, rfl⟩
  have hr' : T'.frames = .java g₀ :: r := by rw [hT']; exact hr
  have e3 : t = ({ (U.calling g mk av.toArray).setFrames t.frames with heap := t.heap, slotsUsed := t.slotsUsed } : State).setVm t.vm := by
    have : t = ({ t with vm := (U.calling g mk av.toArray).vm } : State).setVm t.vm := rfl
    rw [e2] at this
    exact this
  have hsame : U.sameButNew ({ U with heap := t.heap, slotsUsed := t.slotsUsed } : State) L 0 0 := by
    refine ⟨?_, q2, q3, q4, q5, q6⟩
    obtain ⟨z, hz, -⟩ := State.frames_cons hr
    show ({ U with heap := t.heap, slotsUsed := t.slotsUsed } : State) = { U.setFrames U.frames with heap := t.heap, slotsUsed := t.slotsUsed }
    rw [State.setFrames_self hz]
  have X' : Stand p l e R s m args below meth c T' (locs ++ L) cells slots := by
    rw [hT']
    exact ⟨X.admits, X.cas, X.clock, X.frames, X.room, X.hears, X.method, X.code, (X.here.setHeapUsed t.heap t.slotsUsed).setVm hW'.alike, X.tail, State.WarmedH.trans X.warmed hW', X.limits, X.bytes, X.same.trans (hsame.setVm s.vm)⟩
  have hhp : T'.heap = t.heap := by rw [hT']; rfl
  obtain ⟨ho, z1, z2⟩ := hout
  refine ⟨T', L, X', hL, ⟨by rw [hhp]; exact z1, fun q a b => by rw [hhp]; exact z2 q a b⟩, ?_⟩
  subst ho
  obtain ⟨c₂, i₂, len₂, hc₂, hd₂, hf₂⟩ := hend
  have hcc : c₂ = c := by
    have h1 : t.code? g.method = U.code? g.method := by rw [State.code?_eq, State.code?_eq, hW'.alike.method?]
    exact Option.some.inj (hc₂.symm.trans (h1.trans hAt.code))
  subst hcc
  have hlen : len₂ = 3 := by rw [hd] at hd₂; cases hd₂; rfl
  subst hlen
  have ht : t = T'.setTop { g with pc := g.pc + 3, stack := (some (.int k) : Option Value).toList ++ g.stack } := by
    refine e3.trans ?_
    rw [hf₂, State.calling_eq hAt.top, State.setFrames_setFrames, State.setTop_of_frames _ hr', hT', hr]
    rfl
  have hst' := hst
  rw [ht] at hst'
  exact hst'
end CTC
theorem k_cell {F : Ix} {w : va_W} {cells slots pc b L : Nat} {xs : Nat → Int32} {lv : List (Nat × Value)} {st : List Value} (hL : L ≤ 2561) (C : KCtx F code 7 "LineFramesLaw" 11 450 601024 7293000) (hX : va_X b L xs F.1.2.2.2.2 F.1.2.2.2.2.heap) (hbl : b < F.1.2.2.2.2.heap.size) (hw0 : F.2.2.2.2.1 = []) (hc : cells ≤ 601024) (hs : slots ≤ 7293000) (hw : (st.map fun v => v.category).sum ≤ 8) (d : decode code pc = .ok (.invokestatic 64, 3)) (K : IW F 7 w cells slots (pc + 3) lv (.int (x0 L xs) :: st)) : IW F 7 w cells slots pc lv (.int 0 :: .ref b :: st) := by
  intro H locs ls hP hD hS hl T hT X
  have hbA : ¬ va_A F.2.2.2.2.1 F.1.2.2.2.2.heap.size b := by
    rw [hw0]
    rintro (⟨k, e, h⟩ | h)
    · simp at h
    · omega
  obtain ⟨hlk, hini, hcw, hnot, hpar⟩ := (ms_LAW_64.1 : MC "LineFramesLaw" 64 ⟨"LineFramesLaw", "cell", "([II)I"⟩ method_2_code 2 (some .int) 2)
  have hlk : Cond.methodLink "LineFramesLaw" 64 ⟨"LineFramesLaw", "cell", "([II)I"⟩ ∈ lw_tbl := (List.mem_of_getElem? (i := 691) (by decide +kernel))
  obtain ⟨mk, hnamed⟩ := Cond.code_named (C.wds hcw stb_code)
  obtain ⟨methM, cM, hmethM, -, -, -, -, -, -, hsigM⟩ := Cond.code_spec hnamed (C.wds hcw stb_code)
  have hstatic : methM.isStatic = true := Cond.static_spec hnamed hmethM (C.wds (List.mem_of_getElem? (i := 692) (by decide +kernel)) stb_static)
  obtain ⟨kP, hkP, -⟩ := className_of_methodNamed hnamed
  have hinitP : kP.init = .initialized := Cond.initialized_spec (findClass_of_methodNamed hnamed) hkP (C.wds hini stb_ini)
  have hlen : [Value.ref b, .int 0].length = methM.sig.parameters.length := by
    rw [hsigM] at hpar
    exact (Option.some.inj hpar).symm
  obtain ⟨vm₁, X₁, hst⟩ := X.invokestatic C.1 C.2.2.2.1 (C.wds hlk stb_ml) hnamed hmethM hstatic hkP hinitP hnot (g := F0 F.2.1.1 pc ls (.int 0 :: .ref b :: st)) rfl (argsL := [.ref b, .int 0]) (rest := st) hlen rfl (by rw [C.2.1]; exact d)
  have hWU : F.1.2.2.2.2.WarmedH (T.setVm vm₁).vm := X₁.warmed
  have hTH : (T.setVm vm₁).heap = H := hT
  have hE2 : EnvI F.2.2.1 F.2.2.2.1 (T.setVm vm₁) := C.2.2.2.2.2.warm hWU
  have hXU : va_X b L xs (T.setVm vm₁) (T.setVm vm₁).heap := by
    rw [hTH]
    exact (va_X.moved hWU.alike hX).kept (hS.2.1 b hbl hbA)
  obtain ⟨T', L9, X', hL9, ⟨hF1, hF2⟩, hsteps⟩ := ct_goC X₁ (g := F0 F.2.1.1 pc ls st) (ig := .invokestatic 64) rfl (by show ls.size = _; rw [hl.1, C.2.2.1]) (by rw [C.2.1]; exact d) (lv_room hw) (X₁.named hnamed) (c_cell hL) (hE2.2.1 _ hcw stb_code _) (hE2.2.1 _ hini stb_ini _) (by rw [C.2.2.2.2.1]; show 0 + 1 ≤ 11; decide) (by rw [C.2.2.2.2.1]; show 8 + (2 + 11) + 0 ≤ 450; decide) (by rw [C.2.2.2.2.1]; exact hc) (by rw [C.2.2.2.2.1]; exact hs) (fun g' mk' => va_X.moved (u := T.setVm vm₁) (Vm.Alike.refl _) hXU)
  rw [hTH] at hL9 hF1 hF2
  have hk : ∀ (k : Nat) (x : Nat × va_E), w[k]? = some x → T'.heap[x.1]? = H[x.1]? := fun k x hx => hF2 x.1 (hP k x hx).lt (Nat.not_le.mpr (hP k x hx).lt)
  have hS' : va_S (va_A F.2.2.2.2.1 F.1.2.2.2.2.heap.size) F.1.2.2.2.2.heap T'.heap (locs ++ L9) := by
    refine ⟨Nat.le_trans hS.1 hF1, fun q h1 h2 => ?_, fun q hq => ?_⟩
    · rw [hF2 q (Nat.lt_of_lt_of_le h1 hS.1) (Nat.not_le.mpr (Nat.lt_of_lt_of_le h1 hS.1))]
      exact hS.2.1 q h1 h2
    · rcases List.mem_append.mp hq with h | h
      · exact hS.2.2 q h
      · exact Or.inr (Nat.le_trans hS.1 (hL9 q h))
  obtain ⟨t, a1, b1⟩ := K T'.heap (locs ++ L9) ls (hP.kept hk) hD hS' hl T' rfl X'
  exact ⟨t, hst t (fun acts => by rw [doInvoke_state]; exact hsteps.trans a1), b1⟩
