/-! the start -/
def mem0 (x : Int32) : Mem := fun k => match k with
  | 0 => fun j => match j with
    | 0 => (imax 0 (imin 2 x))
    | _ => 0
  | 22 => fun j => match j with
    | 5 => 1
    | 6 => 1
    | 7 => 64
    | 8 => 4
    | _ => 0
  | 29 => fun j => match j with
    | 2 => 8
    | _ => 0
  | 49 => fun j => match j with
    | 5 => 1
    | 6 => 1
    | 7 => 64
    | 8 => 4
    | _ => 0
  | 56 => fun j => match j with
    | 0 => (rturn x)
    | _ => 0
  | _ => fun _ => 0
def wpos : List Nat := [0, 1, 2, 3, 4, 5, 6, 7, 8, 9, 10, 11, 12, 13, 14, 15, 16, 17, 18, 19, 20, 21, 24, 22, 23, 25, 26, 27, 28, 29, 30, 31, 32, 33, 34, 35, 36, 37, 38, 39, 40, 41, 42, 43, 44, 45, 46, 47, 55, 48, 49, 50, 51, 52, 53, 54, 56, 57, 58, 59, 60, 61, 62, 63, 64, 65, 66, 67, 68, 69, 70, 71, 72, 73, 74, 75, 76, 77, 78, 79, 80, 81, 82]
theorem wpos_inj : ∀ i, i < 83 → ∀ j, j < 83 → wpos.getD i 0 = wpos.getD j 0 → i = j := by decide +kernel
set_option maxRecDepth 100000 in
set_option maxHeartbeats 4000000 in
theorem w_conv {D : va_G} {G : GC} {H : Heap} {x : Int32} {q0 q1 q2 q3 q4 q5 q6 q7 q8 q9 q10 q11 q12 q13 q14 q15 q16 q17 q18 q19 q20 q21 q24 q22 q23 q25 q26 q27 q28 q29 q30 q31 q32 q33 q34 q35 q36 q37 q38 q39 q40 q41 q42 q43 q44 q45 q46 q47 q48 q49 q50 q51 q52 q53 q54 q55 r0 r1 r2 r3 r4 r5 r6 r7 r8 r9 r10 r11 r12 r13 r14 r15 r16 r17 r18 r19 r20 r21 r22 r23 r24 r25 o : Nat} (hP : va_P D vcl [(q0, .inr (0, [.int (imax 0 (imin 2 x)), .ref q1, .ref q17, .ref q19, .ref q21, .ref q30])), (q1, .inr (7, [.ref q2, .ref q4, .ref q6, .ref q8, .ref q10, .int 0, .int 0, .int 0, .int 0])), (q2, .inr (8, [.ref q3])), (q3, .inl (G.1, 576, .inl fun _ => 0)), (q4, .inr (8, [.ref q5])), (q5, .inl (G.1, 3, .inl fun _ => 0)), (q6, .inr (8, [.ref q7])), (q7, .inl (G.1, 4, .inl fun _ => 0)), (q8, .inr (8, [.ref q9])), (q9, .inl (G.1, 1024, .inl fun _ => 0)), (q10, .inr (6, [.ref q11, .ref q13, .ref q15, .int 0])), (q11, .inr (8, [.ref q12])), (q12, .inl (G.1, 6, .inl fun _ => 0)), (q13, .inr (8, [.ref q14])), (q14, .inl (G.1, 6, .inl fun _ => 0)), (q15, .inr (8, [.ref q16])), (q16, .inl (G.1, 180, .inl fun _ => 0)), (q17, .inr (3, [.ref q18, .int 0])), (q18, .inl (G.1, 6000, .inl fun _ => 0)), (q19, .inr (3, [.ref q20, .int 0])), (q20, .inl (G.1, 6000, .inl fun _ => 0)), (q21, .inr (10, [.ref q1, .ref q17, .ref q24, .ref q29])), (q22, .inr (8, [.ref q23])), (q23, .inl (G.1, 576, .inl fun _ => 0)), (q24, .inr (5, [.ref q22, .ref q25, .ref q27, .int 0, .int 0, .int 1, .int 1, .int 64, .int 4])), (q25, .inr (8, [.ref q26])), (q26, .inl (G.1, 4, .inl fun _ => 0)), (q27, .inr (8, [.ref q28])), (q28, .inl (G.1, 4, .inl fun _ => 0)), (q29, .inr (1, [.ref q17, .int 0, .int 8])), (q30, .inr (9, [.ref q19, .ref q31, .ref q47, .ref q55, .ref q48, .ref q53, .int 0, .int 0, .int 0, .int 0, .int 0, .int 0, .int 0, .int 0])), (q31, .inr (7, [.ref q32, .ref q34, .ref q36, .ref q38, .ref q40, .int 0, .int 0, .int 0, .int 0])), (q32, .inr (8, [.ref q33])), (q33, .inl (G.1, 576, .inl fun _ => 0)), (q34, .inr (8, [.ref q35])), (q35, .inl (G.1, 3, .inl fun _ => 0)), (q36, .inr (8, [.ref q37])), (q37, .inl (G.1, 4, .inl fun _ => 0)), (q38, .inr (8, [.ref q39])), (q39, .inl (G.1, 1024, .inl fun _ => 0)), (q40, .inr (6, [.ref q41, .ref q43, .ref q45, .int 0])), (q41, .inr (8, [.ref q42])), (q42, .inl (G.1, 6, .inl fun _ => 0)), (q43, .inr (8, [.ref q44])), (q44, .inl (G.1, 6, .inl fun _ => 0)), (q45, .inr (8, [.ref q46])), (q46, .inl (G.1, 180, .inl fun _ => 0)), (q47, .inr (4, [.int 0, .int 0])), (q48, .inr (5, [.ref q32, .ref q49, .ref q51, .int 0, .int 0, .int 1, .int 1, .int 64, .int 4])), (q49, .inr (8, [.ref q50])), (q50, .inl (G.1, 4, .inl fun _ => 0)), (q51, .inr (8, [.ref q52])), (q52, .inl (G.1, 4, .inl fun _ => 0)), (q53, .inr (8, [.ref q54])), (q54, .inl (G.1, 4, .inl fun _ => 0)), (q55, .inr (2, [.ref q19, .ref q47, .int 0, .int 0, .int 0])), (r0, .inr (11, [.int (rturn x), .int 0, .int 0, .int 0, .int 0, .int 0, .ref r1, .ref r2, .ref r3, .int 0, .int 0, .int 0, .int 0, .ref r4, .ref r5, .ref r6, .ref r7, .int 0, .ref r8, .int 0, .int 0, .ref r9, .ref r10, .ref r11, .ref r12, .ref r13, .ref r14, .ref r15, .int 0, .int 0, .int 0, .int 0, .int 0, .int 0, .int 0, .int 0, .int 0, .int 0, .int 0, .int 0, .int 0, .int 0, .int 0, .int 0, .ref r16, .ref r17, .ref r18, .ref r19, .ref r20, .ref r21, .ref r22, .ref r23, .ref r24, .ref r25, .int 0, .int 0, .int 0, .int 0, .int 0, .int 0, .int 0, .int 0, .int 0, .int 0, .int 0])), (r1, .inl (G.1, 576, .inl fun _ => 0)), (r2, .inl (G.2.1, 4, .inl fun _ => 0)), (r3, .inl (G.1, 1024, .inl fun _ => 0)), (r4, .inl (G.1, 6, .inl fun _ => 0)), (r5, .inl (G.1, 6, .inl fun _ => 0)), (r6, .inl (G.1, 180, .inl fun _ => 0)), (r7, .inl (G.1, 9000, .inl fun _ => 0)), (r8, .inl (G.1, 6000, .inl fun _ => 0)), (r9, .inl (G.1, 10, .inl fun _ => 0)), (r10, .inl (G.1, 576, .inl fun _ => 0)), (r11, .inl (G.2.1, 4, .inl fun _ => 0)), (r12, .inl (G.1, 1024, .inl fun _ => 0)), (r13, .inl (G.1, 6, .inl fun _ => 0)), (r14, .inl (G.1, 6, .inl fun _ => 0)), (r15, .inl (G.1, 180, .inl fun _ => 0)), (r16, .inl (G.1, 576, .inl fun _ => 0)), (r17, .inl (G.2.1, 4, .inl fun _ => 0)), (r18, .inl (G.1, 1024, .inl fun _ => 0)), (r19, .inl (G.1, 6, .inl fun _ => 0)), (r20, .inl (G.1, 6, .inl fun _ => 0)), (r21, .inl (G.1, 180, .inl fun _ => 0)), (r22, .inl (G.2.1, 4, .inl fun _ => 0)), (r23, .inl (G.1, 576, .inl fun _ => 0)), (r24, .inl (G.1, 4, .inl fun _ => 0)), (r25, .inl (G.1, 4, .inl fun _ => 0)), (o, .inl (G.2.2, 1, .inr (.inl fun _ => 0)))] H) : va_P D vcl (wld G (fun k => ([q0, q1, q2, q3, q4, q5, q6, q7, q8, q9, q10, q11, q12, q13, q14, q15, q16, q17, q18, q19, q20, q21, q24, q22, q23, q25, q26, q27, q28, q29, q30, q31, q32, q33, q34, q35, q36, q37, q38, q39, q40, q41, q42, q43, q44, q45, q46, q47, q55, q48, q49, q50, q51, q52, q53, q54, r0, r1, r2, r3, r4, r5, r6, r7, r8, r9, r10, r11, r12, r13, r14, r15, r16, r17, r18, r19, r20, r21, r22, r23, r24, r25, o] : List Nat).getD k 0) (mem0 x)) H := by
  intro k q hk
  obtain ⟨hl, rfl⟩ := wld_of hk
  clear hk
  match k, hl with
  | 0, _ => exact hP 0 _ rfl
  | 1, _ => exact hP 1 _ rfl
  | 2, _ => exact hP 2 _ rfl
  | 3, _ => exact hP 3 _ rfl
  | 4, _ => exact hP 4 _ rfl
  | 5, _ => exact hP 5 _ rfl
  | 6, _ => exact hP 6 _ rfl
  | 7, _ => exact hP 7 _ rfl
  | 8, _ => exact hP 8 _ rfl
  | 9, _ => exact hP 9 _ rfl
  | 10, _ => exact hP 10 _ rfl
  | 11, _ => exact hP 11 _ rfl
  | 12, _ => exact hP 12 _ rfl
  | 13, _ => exact hP 13 _ rfl
  | 14, _ => exact hP 14 _ rfl
  | 15, _ => exact hP 15 _ rfl
  | 16, _ => exact hP 16 _ rfl
  | 17, _ => exact hP 17 _ rfl
  | 18, _ => exact hP 18 _ rfl
  | 19, _ => exact hP 19 _ rfl
  | 20, _ => exact hP 20 _ rfl
  | 21, _ => exact hP 21 _ rfl
  | 22, _ => exact hP 24 _ rfl
  | 23, _ => exact hP 22 _ rfl
  | 24, _ => exact hP 23 _ rfl
  | 25, _ => exact hP 25 _ rfl
  | 26, _ => exact hP 26 _ rfl
  | 27, _ => exact hP 27 _ rfl
  | 28, _ => exact hP 28 _ rfl
  | 29, _ => exact hP 29 _ rfl
  | 30, _ => exact hP 30 _ rfl
  | 31, _ => exact hP 31 _ rfl
  | 32, _ => exact hP 32 _ rfl
  | 33, _ => exact hP 33 _ rfl
  | 34, _ => exact hP 34 _ rfl
  | 35, _ => exact hP 35 _ rfl
  | 36, _ => exact hP 36 _ rfl
  | 37, _ => exact hP 37 _ rfl
  | 38, _ => exact hP 38 _ rfl
  | 39, _ => exact hP 39 _ rfl
  | 40, _ => exact hP 40 _ rfl
  | 41, _ => exact hP 41 _ rfl
  | 42, _ => exact hP 42 _ rfl
  | 43, _ => exact hP 43 _ rfl
  | 44, _ => exact hP 44 _ rfl
  | 45, _ => exact hP 45 _ rfl
  | 46, _ => exact hP 46 _ rfl
  | 47, _ => exact hP 47 _ rfl
  | 48, _ => exact hP 55 _ rfl
  | 49, _ => exact hP 48 _ rfl
  | 50, _ => exact hP 49 _ rfl
  | 51, _ => exact hP 50 _ rfl
  | 52, _ => exact hP 51 _ rfl
  | 53, _ => exact hP 52 _ rfl
  | 54, _ => exact hP 53 _ rfl
  | 55, _ => exact hP 54 _ rfl
  | 56, _ => exact hP 56 _ rfl
  | 57, _ => exact hP 57 _ rfl
  | 58, _ => exact hP 58 _ rfl
  | 59, _ => exact hP 59 _ rfl
  | 60, _ => exact hP 60 _ rfl
  | 61, _ => exact hP 61 _ rfl
  | 62, _ => exact hP 62 _ rfl
  | 63, _ => exact hP 63 _ rfl
  | 64, _ => exact hP 64 _ rfl
  | 65, _ => exact hP 65 _ rfl
  | 66, _ => exact hP 66 _ rfl
  | 67, _ => exact hP 67 _ rfl
  | 68, _ => exact hP 68 _ rfl
  | 69, _ => exact hP 69 _ rfl
  | 70, _ => exact hP 70 _ rfl
  | 71, _ => exact hP 71 _ rfl
  | 72, _ => exact hP 72 _ rfl
  | 73, _ => exact hP 73 _ rfl
  | 74, _ => exact hP 74 _ rfl
  | 75, _ => exact hP 75 _ rfl
  | 76, _ => exact hP 76 _ rfl
  | 77, _ => exact hP 77 _ rfl
  | 78, _ => exact hP 78 _ rfl
  | 79, _ => exact hP 79 _ rfl
  | 80, _ => exact hP 80 _ rfl
  | 81, _ => exact hP 81 _ rfl
  | 82, _ => exact hP 82 _ rfl
  | k + 83, hl => exact absurd hl (by show ¬ k + 83 < 83; omega)
set_option maxRecDepth 100000 in
set_option maxHeartbeats 4000000 in
theorem w_at {G : GC} {x : Int32} {q0 q1 q2 q3 q4 q5 q6 q7 q8 q9 q10 q11 q12 q13 q14 q15 q16 q17 q18 q19 q20 q21 q24 q22 q23 q25 q26 q27 q28 q29 q30 q31 q32 q33 q34 q35 q36 q37 q38 q39 q40 q41 q42 q43 q44 q45 q46 q47 q48 q49 q50 q51 q52 q53 q54 q55 r0 r1 r2 r3 r4 r5 r6 r7 r8 r9 r10 r11 r12 r13 r14 r15 r16 r17 r18 r19 r20 r21 r22 r23 r24 r25 o : Nat} : ∀ k, k < 83 → ∃ e, ([(q0, .inr (0, [.int (imax 0 (imin 2 x)), .ref q1, .ref q17, .ref q19, .ref q21, .ref q30])), (q1, .inr (7, [.ref q2, .ref q4, .ref q6, .ref q8, .ref q10, .int 0, .int 0, .int 0, .int 0])), (q2, .inr (8, [.ref q3])), (q3, .inl (G.1, 576, .inl fun _ => 0)), (q4, .inr (8, [.ref q5])), (q5, .inl (G.1, 3, .inl fun _ => 0)), (q6, .inr (8, [.ref q7])), (q7, .inl (G.1, 4, .inl fun _ => 0)), (q8, .inr (8, [.ref q9])), (q9, .inl (G.1, 1024, .inl fun _ => 0)), (q10, .inr (6, [.ref q11, .ref q13, .ref q15, .int 0])), (q11, .inr (8, [.ref q12])), (q12, .inl (G.1, 6, .inl fun _ => 0)), (q13, .inr (8, [.ref q14])), (q14, .inl (G.1, 6, .inl fun _ => 0)), (q15, .inr (8, [.ref q16])), (q16, .inl (G.1, 180, .inl fun _ => 0)), (q17, .inr (3, [.ref q18, .int 0])), (q18, .inl (G.1, 6000, .inl fun _ => 0)), (q19, .inr (3, [.ref q20, .int 0])), (q20, .inl (G.1, 6000, .inl fun _ => 0)), (q21, .inr (10, [.ref q1, .ref q17, .ref q24, .ref q29])), (q22, .inr (8, [.ref q23])), (q23, .inl (G.1, 576, .inl fun _ => 0)), (q24, .inr (5, [.ref q22, .ref q25, .ref q27, .int 0, .int 0, .int 1, .int 1, .int 64, .int 4])), (q25, .inr (8, [.ref q26])), (q26, .inl (G.1, 4, .inl fun _ => 0)), (q27, .inr (8, [.ref q28])), (q28, .inl (G.1, 4, .inl fun _ => 0)), (q29, .inr (1, [.ref q17, .int 0, .int 8])), (q30, .inr (9, [.ref q19, .ref q31, .ref q47, .ref q55, .ref q48, .ref q53, .int 0, .int 0, .int 0, .int 0, .int 0, .int 0, .int 0, .int 0])), (q31, .inr (7, [.ref q32, .ref q34, .ref q36, .ref q38, .ref q40, .int 0, .int 0, .int 0, .int 0])), (q32, .inr (8, [.ref q33])), (q33, .inl (G.1, 576, .inl fun _ => 0)), (q34, .inr (8, [.ref q35])), (q35, .inl (G.1, 3, .inl fun _ => 0)), (q36, .inr (8, [.ref q37])), (q37, .inl (G.1, 4, .inl fun _ => 0)), (q38, .inr (8, [.ref q39])), (q39, .inl (G.1, 1024, .inl fun _ => 0)), (q40, .inr (6, [.ref q41, .ref q43, .ref q45, .int 0])), (q41, .inr (8, [.ref q42])), (q42, .inl (G.1, 6, .inl fun _ => 0)), (q43, .inr (8, [.ref q44])), (q44, .inl (G.1, 6, .inl fun _ => 0)), (q45, .inr (8, [.ref q46])), (q46, .inl (G.1, 180, .inl fun _ => 0)), (q47, .inr (4, [.int 0, .int 0])), (q48, .inr (5, [.ref q32, .ref q49, .ref q51, .int 0, .int 0, .int 1, .int 1, .int 64, .int 4])), (q49, .inr (8, [.ref q50])), (q50, .inl (G.1, 4, .inl fun _ => 0)), (q51, .inr (8, [.ref q52])), (q52, .inl (G.1, 4, .inl fun _ => 0)), (q53, .inr (8, [.ref q54])), (q54, .inl (G.1, 4, .inl fun _ => 0)), (q55, .inr (2, [.ref q19, .ref q47, .int 0, .int 0, .int 0])), (r0, .inr (11, [.int (rturn x), .int 0, .int 0, .int 0, .int 0, .int 0, .ref r1, .ref r2, .ref r3, .int 0, .int 0, .int 0, .int 0, .ref r4, .ref r5, .ref r6, .ref r7, .int 0, .ref r8, .int 0, .int 0, .ref r9, .ref r10, .ref r11, .ref r12, .ref r13, .ref r14, .ref r15, .int 0, .int 0, .int 0, .int 0, .int 0, .int 0, .int 0, .int 0, .int 0, .int 0, .int 0, .int 0, .int 0, .int 0, .int 0, .int 0, .ref r16, .ref r17, .ref r18, .ref r19, .ref r20, .ref r21, .ref r22, .ref r23, .ref r24, .ref r25, .int 0, .int 0, .int 0, .int 0, .int 0, .int 0, .int 0, .int 0, .int 0, .int 0, .int 0])), (r1, .inl (G.1, 576, .inl fun _ => 0)), (r2, .inl (G.2.1, 4, .inl fun _ => 0)), (r3, .inl (G.1, 1024, .inl fun _ => 0)), (r4, .inl (G.1, 6, .inl fun _ => 0)), (r5, .inl (G.1, 6, .inl fun _ => 0)), (r6, .inl (G.1, 180, .inl fun _ => 0)), (r7, .inl (G.1, 9000, .inl fun _ => 0)), (r8, .inl (G.1, 6000, .inl fun _ => 0)), (r9, .inl (G.1, 10, .inl fun _ => 0)), (r10, .inl (G.1, 576, .inl fun _ => 0)), (r11, .inl (G.2.1, 4, .inl fun _ => 0)), (r12, .inl (G.1, 1024, .inl fun _ => 0)), (r13, .inl (G.1, 6, .inl fun _ => 0)), (r14, .inl (G.1, 6, .inl fun _ => 0)), (r15, .inl (G.1, 180, .inl fun _ => 0)), (r16, .inl (G.1, 576, .inl fun _ => 0)), (r17, .inl (G.2.1, 4, .inl fun _ => 0)), (r18, .inl (G.1, 1024, .inl fun _ => 0)), (r19, .inl (G.1, 6, .inl fun _ => 0)), (r20, .inl (G.1, 6, .inl fun _ => 0)), (r21, .inl (G.1, 180, .inl fun _ => 0)), (r22, .inl (G.2.1, 4, .inl fun _ => 0)), (r23, .inl (G.1, 576, .inl fun _ => 0)), (r24, .inl (G.1, 4, .inl fun _ => 0)), (r25, .inl (G.1, 4, .inl fun _ => 0)), (o, .inl (G.2.2, 1, .inr (.inl fun _ => 0)))] : va_W)[wpos.getD k 0]? = some (([q0, q1, q2, q3, q4, q5, q6, q7, q8, q9, q10, q11, q12, q13, q14, q15, q16, q17, q18, q19, q20, q21, q24, q22, q23, q25, q26, q27, q28, q29, q30, q31, q32, q33, q34, q35, q36, q37, q38, q39, q40, q41, q42, q43, q44, q45, q46, q47, q55, q48, q49, q50, q51, q52, q53, q54, r0, r1, r2, r3, r4, r5, r6, r7, r8, r9, r10, r11, r12, r13, r14, r15, r16, r17, r18, r19, r20, r21, r22, r23, r24, r25, o] : List Nat).getD k 0, e) := by
  intro k hk
  match k, hk with
  | 0, _ => exact ⟨_, rfl⟩
  | 1, _ => exact ⟨_, rfl⟩
  | 2, _ => exact ⟨_, rfl⟩
  | 3, _ => exact ⟨_, rfl⟩
  | 4, _ => exact ⟨_, rfl⟩
  | 5, _ => exact ⟨_, rfl⟩
  | 6, _ => exact ⟨_, rfl⟩
  | 7, _ => exact ⟨_, rfl⟩
  | 8, _ => exact ⟨_, rfl⟩
  | 9, _ => exact ⟨_, rfl⟩
  | 10, _ => exact ⟨_, rfl⟩
  | 11, _ => exact ⟨_, rfl⟩
  | 12, _ => exact ⟨_, rfl⟩
  | 13, _ => exact ⟨_, rfl⟩
  | 14, _ => exact ⟨_, rfl⟩
  | 15, _ => exact ⟨_, rfl⟩
  | 16, _ => exact ⟨_, rfl⟩
  | 17, _ => exact ⟨_, rfl⟩
  | 18, _ => exact ⟨_, rfl⟩
  | 19, _ => exact ⟨_, rfl⟩
  | 20, _ => exact ⟨_, rfl⟩
  | 21, _ => exact ⟨_, rfl⟩
  | 22, _ => exact ⟨_, rfl⟩
  | 23, _ => exact ⟨_, rfl⟩
  | 24, _ => exact ⟨_, rfl⟩
  | 25, _ => exact ⟨_, rfl⟩
  | 26, _ => exact ⟨_, rfl⟩
  | 27, _ => exact ⟨_, rfl⟩
  | 28, _ => exact ⟨_, rfl⟩
  | 29, _ => exact ⟨_, rfl⟩
  | 30, _ => exact ⟨_, rfl⟩
  | 31, _ => exact ⟨_, rfl⟩
  | 32, _ => exact ⟨_, rfl⟩
  | 33, _ => exact ⟨_, rfl⟩
  | 34, _ => exact ⟨_, rfl⟩
  | 35, _ => exact ⟨_, rfl⟩
  | 36, _ => exact ⟨_, rfl⟩
  | 37, _ => exact ⟨_, rfl⟩
  | 38, _ => exact ⟨_, rfl⟩
  | 39, _ => exact ⟨_, rfl⟩
  | 40, _ => exact ⟨_, rfl⟩
  | 41, _ => exact ⟨_, rfl⟩
  | 42, _ => exact ⟨_, rfl⟩
  | 43, _ => exact ⟨_, rfl⟩
  | 44, _ => exact ⟨_, rfl⟩
  | 45, _ => exact ⟨_, rfl⟩
  | 46, _ => exact ⟨_, rfl⟩
  | 47, _ => exact ⟨_, rfl⟩
  | 48, _ => exact ⟨_, rfl⟩
  | 49, _ => exact ⟨_, rfl⟩
  | 50, _ => exact ⟨_, rfl⟩
  | 51, _ => exact ⟨_, rfl⟩
  | 52, _ => exact ⟨_, rfl⟩
  | 53, _ => exact ⟨_, rfl⟩
  | 54, _ => exact ⟨_, rfl⟩
  | 55, _ => exact ⟨_, rfl⟩
  | 56, _ => exact ⟨_, rfl⟩
  | 57, _ => exact ⟨_, rfl⟩
  | 58, _ => exact ⟨_, rfl⟩
  | 59, _ => exact ⟨_, rfl⟩
  | 60, _ => exact ⟨_, rfl⟩
  | 61, _ => exact ⟨_, rfl⟩
  | 62, _ => exact ⟨_, rfl⟩
  | 63, _ => exact ⟨_, rfl⟩
  | 64, _ => exact ⟨_, rfl⟩
  | 65, _ => exact ⟨_, rfl⟩
  | 66, _ => exact ⟨_, rfl⟩
  | 67, _ => exact ⟨_, rfl⟩
  | 68, _ => exact ⟨_, rfl⟩
  | 69, _ => exact ⟨_, rfl⟩
  | 70, _ => exact ⟨_, rfl⟩
  | 71, _ => exact ⟨_, rfl⟩
  | 72, _ => exact ⟨_, rfl⟩
  | 73, _ => exact ⟨_, rfl⟩
  | 74, _ => exact ⟨_, rfl⟩
  | 75, _ => exact ⟨_, rfl⟩
  | 76, _ => exact ⟨_, rfl⟩
  | 77, _ => exact ⟨_, rfl⟩
  | 78, _ => exact ⟨_, rfl⟩
  | 79, _ => exact ⟨_, rfl⟩
  | 80, _ => exact ⟨_, rfl⟩
  | 81, _ => exact ⟨_, rfl⟩
  | 82, _ => exact ⟨_, rfl⟩
  | k + 83, hl => exact absurd hl (by omega)
