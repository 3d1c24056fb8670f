/-! ROWS: calls -/
def ML (own : String) (idx : Nat) (y : MethodName) : Prop := Cond.methodLink own idx y ∈ lw_tbl ∨ ∃ h, Cond.methodLinkNest own idx y h ∈ lw_tbl
def MC (own : String) (idx : Nat) (y : MethodName) (bytes : ByteArray) (mL : Nat) (ret : Option FieldType) (n : Nat) : Prop :=
  ML own idx y ∧ Cond.initialized y.cls ∈ lw_tbl ∧ Cond.code y bytes mL ret ∈ lw_tbl ∧ (y.cls ≠ "java/lang/invoke/MethodHandle" ∧ y.cls ≠ "java/lang/invoke/VarHandle") ∧ (parseMethodDescriptor y.desc).map (fun d => d.parameters.length) = some n
theorem stb_code {y : MethodName} {b : ByteArray} {n : Nat} {r : Option FieldType} : stb (.code y b n r) = true := by first | rfl | simp [stb, Cond.onTables, Cond.keeps, Cond.steady]
theorem stb_ini {c : String} : stb (.initialized c) = true := by first | rfl | simp [stb, Cond.onTables, Cond.keeps, Cond.steady]
theorem stb_ml {o : String} {i : Nat} {y : MethodName} : stb (.methodLink o i y) = true := by first | rfl | simp [stb, Cond.onTables, Cond.keeps, Cond.steady]
theorem stb_inst {y : MethodName} : stb (.instanceMethod y) = true := by first | rfl | simp [stb, Cond.onTables, Cond.keeps, Cond.steady]
theorem stb_sel {c : String} {y z : MethodName} : stb (.selects c y z) = true := by first | rfl | simp [stb, Cond.onTables, Cond.keeps, Cond.steady]
theorem stb_static {y : MethodName} : stb (.static y) = true := by first | rfl | simp [stb, Cond.onTables, Cond.keeps, Cond.steady]
theorem va_S.next {ad : Nat → Nat} {H0 H H1 : Heap} {locs L : List Loc} (hS : va_S (wA ad H0.size) H0 H locs) (h1 : H.size ≤ H1.size) (h2 : ∀ q : Nat, q < H.size → ¬ wA ad H.size q → H1[q]? = H[q]?) (hL : ∀ q ∈ L, wA ad H.size q.base) : va_S (wA ad H0.size) H0 H1 (locs ++ L) := by
  refine ⟨Nat.le_trans hS.1 h1, fun q hq hn => ?_, fun q hq => ?_⟩
  · rw [h2 q (Nat.lt_of_lt_of_le hq hS.1) (fun z => hn (wA_mono hS.1 q z))]
    exact hS.2.1 q hq hn
  · rcases List.mem_append.mp hq with h | h
    · exact hS.2.2 q h
    · exact wA_mono hS.1 _ (hL q h)
section JC
variable {β : Type} {F : Fx} {nL : Nat} {cv : β → Option Rs} {E : β} {σ : Mem} {ρc : Rs} {pc : Nat} {lv : List (Nat × Value)} {st : List Value} {cc : ByteArray} {own : String} {ret rt : Option FieldType} {fr lo fr1 lo1 : Nat} {k c idx n mL : Nat} {y : MethodName} {bytes : ByteArray} {As : List Value} {z : vw_C}
theorem v_fin (C : Ctx F cc nL own ret fr lo) {H : Heap} {locs : List Loc} {ls : Array Slot} {T : State} {vm₁ : Vm} {mk : MethodId} {av : List Value} {ig : Instr} (hP : va_P F.2.2.1 vcl (wld F.2.2.2.1 F.2.2.2.2.1 σ) H) (hS : va_S (wA F.2.2.2.2.1 F.1.2.2.2.2.heap.size) F.1.2.2.2.2.heap H locs) (hl : lv_has ls nL lv) (hT : T.heap = H)
    (X : Stand F.1.1 F.1.2.1 F.1.2.2.1 F.1.2.2.2.1 F.1.2.2.2.2 F.2.1.1 F.2.1.2.1 F.2.1.2.2.1 F.2.1.2.2.2.1 F.2.1.2.2.2.2 (T.setVm vm₁) locs 0 0) (hst : ∀ target, (∀ acts, Steps F.1.1.tables F.1.2.2.1 F.2.1.2.2.1 (doInvoke F.1.2.2.1 ((T.setVm vm₁).setTop (F0 F.2.1.1 pc ls st)) acts mk av.toArray).1 target) → ∀ g, g = F0 F.2.1.1 pc ls (av.reverse ++ st) → Steps F.1.1.tables F.1.2.2.1 F.2.1.2.2.1 (T.setTop g) target)
    (hn : F.1.2.2.2.2.methodNamed? y = some mk) (hm : MC own idx y bytes mL rt n) (hct : Ctr F.1.2.1 F.2.2.1 F.2.2.2.1 F.2.2.2.2.1 y bytes mL rt fr1 lo1 av σ ρc) (hR : fr1 + 1 ≤ fr ∧ 8 + (mL + 11) + lo1 ≤ lo) (hrc : rc ρc ≤ rc F.2.2.2.2.2 ∧ rsl ρc ≤ rsl F.2.2.2.2.2) (hw : (st.map fun v => v.category).sum ≤ 8) (hd : decode cc pc = .ok (ig, 3))
    (kr : ∀ v σ', ρc = (.inl v, σ') → V F nL σ' (pc + 3) lv (v.toList ++ st)) (kx : ∀ n σ', ρc = (.inr n, σ') → F.2.2.2.2.2 = ρc) :
    ∃ t, Steps F.1.1.tables F.1.2.2.1 F.2.1.2.2.1 (T.setTop (F0 F.2.1.1 pc ls (av.reverse ++ st))) t ∧ QF F.2.1.2.2.1 F.2.2.1 F.2.2.2.1 F.2.2.2.2.1 F.2.2.2.2.2 F.1.2.2.2.2 t := by
  have hRm : F.1.2.2.2.1 = rmOf fr lo F.2.2.2.2.2 := C.2.2.2.2.2.2.2.1
  have hWU : F.1.2.2.2.2.WarmedH (T.setVm vm₁).vm := X.warmed
  have hEnv : Env0 F.2.2.1 F.2.2.2.1 F.2.2.2.2.1 (T.setVm vm₁) (T.setVm vm₁).heap := by
    have h9 : (T.setVm vm₁).heap = H := hT
    rw [h9]
    exact C.env.step hWU hS
  have hW9 : 2 * (F0 F.2.1.1 pc ls st).monitorRoom + ((F0 F.2.1.1 pc ls st).stack.map fun v => v.category).sum ≤ 8 := lv_room hw
  obtain ⟨o, T', L, X', hL, ⟨ho, hP', hF1, hF2⟩, hret, hthr⟩ := ct_go X (g := F0 F.2.1.1 pc ls st) (ig := ig) rfl (by show ls.size = _; rw [hl.1, C.2.2.1]) (by rw [C.2.1]; exact hd) hW9 (X.named hn) hct
    (hEnv.2.1 _ hm.2.2.1 stb_code _) (hEnv.2.1 _ hm.2.1 stb_ini _) (by rw [hRm]; exact hR.1) (by rw [hRm]; exact hR.2) (by rw [hRm, Nat.zero_add]; exact hrc.1) (by rw [hRm, Nat.zero_add]; exact hrc.2) (by rw [show (T.setVm vm₁).heap = H from hT]; exact hP) hEnv C.2.2.2.2.2.2.2.2.2.1
  have hTH : (T.setVm vm₁).heap = H := hT
  rw [hTH] at hF1 hF2 hL
  have hS' := hS.next hF1 hF2 hL
  obtain ⟨oc, σ'⟩ := ρc
  cases oc with
  | inl v =>
    have ho' : o = .returned v := ho
    obtain ⟨t, a1, b1⟩ := kr v σ' rfl T'.heap (locs ++ L) ls hP' hS' hl T' rfl X'
    refine ⟨t, hst t (fun acts => ?_) _ rfl, b1⟩
    rw [doInvoke_state]
    exact (hret v ho').trans a1
  | inr n =>
    obtain ⟨q, ce, ho', hce, hcv, hcl⟩ := ho
    have hcl' : F.1.2.2.2.2.vm.findClass (xNm n) = some ce.cls := by rw [← hWU.alike.findClass]; exact hcl
    obtain ⟨t, a1, b1⟩ := QF.thr X' (kx n σ' rfl) (g := F0 F.2.1.1 pc ls st) rfl rfl rfl C.2.2.2.2.2.2.1 C.2.2.2.2.2.1 hce hcv hcl' hP' hS' (by exact Nat.le_refl 1) (by exact Nat.le_refl 6)
    refine ⟨t, hst t (fun acts => ?_) _ rfl, b1⟩
    rw [doInvoke_state]
    exact (hthr q ho').trans a1
theorem v_callV (C : Ctx F cc nL own ret fr lo) (hm : MC own idx y bytes mL rt n) (hi : Cond.instanceMethod y ∈ lw_tbl) (hs : Cond.selects y.cls y y ∈ lw_tbl) (h : Is k c) (hz : vcl[c]? = some z) (hzc : z.1 = y.cls) (hn : As.length = n) (hct : Ctr F.1.2.1 F.2.2.1 F.2.2.2.1 F.2.2.2.2.1 y bytes mL rt fr1 lo1 (.ref (fad F k) :: As) σ ρc) (hR : fr1 + 1 ≤ fr ∧ 8 + (mL + 11) + lo1 ≤ lo) (hrc : rc ρc ≤ rc F.2.2.2.2.2 ∧ rsl ρc ≤ rsl F.2.2.2.2.2) (hw : (st.map fun v => v.category).sum ≤ 8) (d : decode cc pc = .ok (.invokevirtual idx, 3))
    (kr : ∀ v σ', ρc = (.inl v, σ') → V F nL σ' (pc + 3) lv (v.toList ++ st)) (kx : ∀ n σ', ρc = (.inr n, σ') → F.2.2.2.2.2 = ρc) : V F nL σ pc lv (As.reverse ++ .ref (fad F k) :: st) := by
  intro H locs ls hP hS hl T hT X
  have hc100 : c < 100 := by
    have := (List.getElem?_eq_some_iff.mp hz).1
    have h12 : vcl.length = 12 := rfl
    omega
  obtain ⟨cellB, hcB, hoB, hclB⟩ := va_recv C.K hP hz (wld_obj (G := F.2.2.2.1) (ad := F.2.2.2.2.1) (σ := σ) h.1 h.2 hc100)
  rw [hzc] at hclB
  obtain ⟨mk, methM, hnamed, hmethM, hstM, habM⟩ := Cond.instanceMethod_spec (C.wds hi stb_inst)
  obtain ⟨methM', cM, hmethM', -, -, -, -, -, -, hsigM⟩ := Cond.code_spec hnamed (C.wds hm.2.2.1 stb_code)
  cases hmethM.symm.trans hmethM'
  obtain ⟨c2, r2, m2, q1, q2, q3, q4, kP, hkP, hkPi⟩ := Cond.selects_spec (C.wds hs stb_sel)
  cases hclB.symm.trans q1
  cases (State.methodFound?_of_named hnamed hm.2.2.2.1).symm.trans q2
  cases hnamed.symm.trans q3
  have hselP : selectMethod F.1.2.2.1.platform F.1.2.2.2.2.vm cellB.cls mk = .method mk := by rw [Launch.admits_selectMethod X.admits]; exact q4
  have hlen : As.length = methM.sig.parameters.length := by
    have h2 := hm.2.2.2.2
    rw [hsigM] at h2
    rw [hn]
    exact (Option.some.inj h2).symm
  have hrev : (.ref (fad F k) :: As : List Value).reverse ++ st = As.reverse ++ .ref (fad F k) :: st := by simp
  rw [← hrev]
  have hgo : ∃ vm', Stand F.1.1 F.1.2.1 F.1.2.2.1 F.1.2.2.2.1 F.1.2.2.2.2 F.2.1.1 F.2.1.2.1 F.2.1.2.2.1 F.2.1.2.2.2.1 F.2.1.2.2.2.2 (T.setVm vm') locs 0 0 ∧ ∀ target, (∀ acts, Steps F.1.1.tables F.1.2.2.1 F.2.1.2.2.1 (doInvoke F.1.2.2.1 ((T.setVm vm').setTop { F0 F.2.1.1 pc ls (As.reverse ++ .ref (fad F k) :: st) with stack := st }) acts mk (.ref (fad F k) :: As).toArray).1 target) → Steps F.1.1.tables F.1.2.2.1 F.2.1.2.2.1 (T.setTop (F0 F.2.1.1 pc ls (As.reverse ++ .ref (fad F k) :: st))) target := by
    rcases hm.1 with hlk | ⟨ho, hlk⟩
    · exact X.invokevirtual C.1 C.hown (C.wds hlk stb_ml) hnamed hmethM hstM hkP hkPi hm.2.2.2.1 (a := fad F k) (cell := cellB) (by rw [hT]; exact hcB) (fun z h => by rw [h] at hoB; cases hoB) hselP hmethM habM hkP hkPi (g := F0 F.2.1.1 pc ls (As.reverse ++ .ref (fad F k) :: st)) rfl (argsL := As) (rest := st) hlen rfl (by rw [C.2.1]; exact d)
    · exact X.invokevirtualNest C.1 C.hown (C.wds hlk rfl) hnamed hmethM hstM hkP hkPi hm.2.2.2.1 (a := fad F k) (cell := cellB) (by rw [hT]; exact hcB) (fun z h => by rw [h] at hoB; cases hoB) hselP hmethM habM hkP hkPi (g := F0 F.2.1.1 pc ls (As.reverse ++ .ref (fad F k) :: st)) rfl (argsL := As) (rest := st) hlen rfl (by rw [C.2.1]; exact d)
  obtain ⟨vm₁, X₁, hst⟩ := hgo
  exact v_fin C hP hS hl hT X₁ (fun target h g hg => by rw [hg, hrev]; exact hst target h) hnamed hm hct hR hrc hw d kr kx
theorem v_callS (C : Ctx F cc nL own ret fr lo) (hm : MC own idx y bytes mL rt n) (hs : Cond.static y ∈ lw_tbl) (hn : As.length = n) (hct : Ctr F.1.2.1 F.2.2.1 F.2.2.2.1 F.2.2.2.2.1 y bytes mL rt fr1 lo1 As σ ρc) (hR : fr1 + 1 ≤ fr ∧ 8 + (mL + 11) + lo1 ≤ lo) (hrc : rc ρc ≤ rc F.2.2.2.2.2 ∧ rsl ρc ≤ rsl F.2.2.2.2.2) (hw : (st.map fun v => v.category).sum ≤ 8) (d : decode cc pc = .ok (.invokestatic idx, 3))
    (kr : ∀ v σ', ρc = (.inl v, σ') → V F nL σ' (pc + 3) lv (v.toList ++ st)) (kx : ∀ n σ', ρc = (.inr n, σ') → F.2.2.2.2.2 = ρc) : V F nL σ pc lv (As.reverse ++ st) := by
  intro H locs ls hP hS hl T hT X
  obtain ⟨mk, hnamed⟩ := Cond.code_named (C.wds hm.2.2.1 stb_code)
  obtain ⟨methM, cM, hmethM, -, -, -, -, -, -, hsigM⟩ := Cond.code_spec hnamed (C.wds hm.2.2.1 stb_code)
  have hstatic : methM.isStatic = true := Cond.static_spec hnamed hmethM (C.wds hs stb_static)
  obtain ⟨kP, hkP, -⟩ := className_of_methodNamed hnamed
  have hinitP : kP.init = .initialized := Cond.initialized_spec (findClass_of_methodNamed hnamed) hkP (C.wds hm.2.1 stb_ini)
  have hlen : As.length = methM.sig.parameters.length := by
    have h2 := hm.2.2.2.2
    rw [hsigM] at h2
    rw [hn]
    exact (Option.some.inj h2).symm
  have hgo : ∃ vm', Stand F.1.1 F.1.2.1 F.1.2.2.1 F.1.2.2.2.1 F.1.2.2.2.2 F.2.1.1 F.2.1.2.1 F.2.1.2.2.1 F.2.1.2.2.2.1 F.2.1.2.2.2.2 (T.setVm vm') locs 0 0 ∧ ∀ target, (∀ acts, Steps F.1.1.tables F.1.2.2.1 F.2.1.2.2.1 (doInvoke F.1.2.2.1 ((T.setVm vm').setTop { F0 F.2.1.1 pc ls (As.reverse ++ st) with stack := st }) acts mk As.toArray).1 target) → Steps F.1.1.tables F.1.2.2.1 F.2.1.2.2.1 (T.setTop (F0 F.2.1.1 pc ls (As.reverse ++ st))) target := by
    rcases hm.1 with hlk | ⟨ho, hlk⟩
    · exact X.invokestatic C.1 C.hown (C.wds hlk stb_ml) hnamed hmethM hstatic hkP hinitP hm.2.2.2.1 (g := F0 F.2.1.1 pc ls (As.reverse ++ st)) rfl (argsL := As) (rest := st) hlen rfl (by rw [C.2.1]; exact d)
    · exact X.invokestaticNest C.1 C.hown (C.wds hlk rfl) hnamed hmethM hstatic hkP hinitP hm.2.2.2.1 (g := F0 F.2.1.1 pc ls (As.reverse ++ st)) rfl (argsL := As) (rest := st) hlen rfl (by rw [C.2.1]; exact d)
  obtain ⟨vm₁, X₁, hst⟩ := hgo
  exact v_fin C hP hS hl hT X₁ (fun target h g hg => by rw [hg]; exact hst target h) hnamed hm hct hR hrc hw d kr kx
end JC
