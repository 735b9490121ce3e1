/-! The answers of many, both sides. -/
section
variable {N : Nat} {X : ez_X} {I : Nat → Nat → Int32} {J : Nat → Nat → Int64} {R : Nat → Nat} {T : List ez_C} {Q : pw_Q} {cz kz : Nat}
set_option maxRecDepth 100000 in
theorem my_r0  : ∀ G : ez_F, fx_up X 5 G 33 0 [.ref 0, .int (0 : Int32)] [] (ev_hp I J R T) cz kz = G 33 43 [.ref 0, .int (0 : Int32)] [.int (I 1 6)] (ev_hp I J R T) cz kz := by
  intro G
  rfl
set_option maxRecDepth 100000 in
theorem my_r1 {a0 : Int32} : ∀ G : ez_F, fx_up X 1 G 33 43 [.ref 0, .int (0 : Int32)] [.int a0] (ev_hp I J R T) cz kz = some (some (.int a0), (ev_hp I J R T), cz, kz) := by
  intro G
  rfl
theorem mn_c0 
    (H : Q (some (.int (I 1 6))) (ev_hp I J R T)) : pw (N + 1) X 33 0 [.ref 0, .int (0 : Int32)] [] (ev_hp I J R T) Q := by
  refine pw_seg (by decide) (fun _ _ => my_r0) ?_
  exact pw_p (pw_ret (by decide) (fun _ _ => my_r1) H)
set_option maxRecDepth 100000 in
theorem my_r2  : ∀ G : ez_F, fx_up X 6 G 210 0 [.ref 35, .int (0 : Int32)] [] (ev_hp I J R T) cz kz = ev_C G 179 [.ref 35] (ev_hp I J R T) fun r h1 c1 k1 => G 210 40 [.ref 35, .int (0 : Int32), .int (0 : Int32)] (r.toList ++ []) h1 (cz + c1) (kz + k1) := by
  intro G
  rfl
set_option maxRecDepth 100000 in
theorem my_r3 {a0 : Int32} : ∀ G : ez_F, fx_up X 1 G 210 40 [.ref 35, .int (0 : Int32), .int (0 : Int32)] [.int a0] (ev_hp I J R T) cz kz = some (some (.int a0), (ev_hp I J R T), cz, kz) := by
  intro G
  rfl
theorem mm_c0 
    (H : Q (some (.int ((I 35 0) * (I 35 1)))) (ev_hp I J R T)) : pw (N + 1) X 210 0 [.ref 35, .int (0 : Int32)] [] (ev_hp I J R T) Q := by
  refine pw_callp (by decide) (fun _ _ => my_r2) (pe_mcount) ?_
  exact pw_p (pw_ret (by decide) (fun _ _ => my_r3) H)
set_option maxRecDepth 100000 in
theorem my_r4  : ∀ G : ez_F, fx_up X 5 G 33 0 [.ref 0, .int (1 : Int32)] [] (ev_hp I J R T) cz kz = G 33 51 [.ref 0, .int (1 : Int32)] [.int (I 3 3)] (ev_hp I J R T) cz kz := by
  intro G
  rfl
set_option maxRecDepth 100000 in
theorem my_r5 {a0 : Int32} : ∀ G : ez_F, fx_up X 1 G 33 51 [.ref 0, .int (1 : Int32)] [.int a0] (ev_hp I J R T) cz kz = some (some (.int a0), (ev_hp I J R T), cz, kz) := by
  intro G
  rfl
theorem mn_c1 
    (H : Q (some (.int (I 3 3))) (ev_hp I J R T)) : pw (N + 1) X 33 0 [.ref 0, .int (1 : Int32)] [] (ev_hp I J R T) Q := by
  refine pw_seg (by decide) (fun _ _ => my_r4) ?_
  exact pw_p (pw_ret (by decide) (fun _ _ => my_r5) H)
set_option maxRecDepth 100000 in
theorem my_r6  : ∀ G : ez_F, fx_up X 6 G 210 0 [.ref 35, .int (1 : Int32)] [] (ev_hp I J R T) cz kz = G 210 45 [.ref 35, .int (1 : Int32), .int (0 : Int32)] [.int (I 35 3)] (ev_hp I J R T) cz kz := by
  intro G
  rfl
set_option maxRecDepth 100000 in
theorem my_r7 {a0 : Int32} : ∀ G : ez_F, fx_up X 1 G 210 45 [.ref 35, .int (1 : Int32), .int (0 : Int32)] [.int a0] (ev_hp I J R T) cz kz = some (some (.int a0), (ev_hp I J R T), cz, kz) := by
  intro G
  rfl
theorem mm_c1 
    (H : Q (some (.int (I 35 3))) (ev_hp I J R T)) : pw (N + 1) X 210 0 [.ref 35, .int (1 : Int32)] [] (ev_hp I J R T) Q := by
  refine pw_seg (by decide) (fun _ _ => my_r6) ?_
  exact pw_p (pw_ret (by decide) (fun _ _ => my_r7) H)
set_option maxRecDepth 100000 in
theorem my_r8  : ∀ G : ez_F, fx_up X 5 G 33 0 [.ref 0, .int (2 : Int32)] [] (ev_hp I J R T) cz kz = G 33 59 [.ref 0, .int (2 : Int32)] [.int (I 8 1)] (ev_hp I J R T) cz kz := by
  intro G
  rfl
set_option maxRecDepth 100000 in
theorem my_r9 {a0 : Int32} : ∀ G : ez_F, fx_up X 1 G 33 59 [.ref 0, .int (2 : Int32)] [.int a0] (ev_hp I J R T) cz kz = some (some (.int a0), (ev_hp I J R T), cz, kz) := by
  intro G
  rfl
theorem mn_c2 
    (H : Q (some (.int (I 8 1))) (ev_hp I J R T)) : pw (N + 1) X 33 0 [.ref 0, .int (2 : Int32)] [] (ev_hp I J R T) Q := by
  refine pw_seg (by decide) (fun _ _ => my_r8) ?_
  exact pw_p (pw_ret (by decide) (fun _ _ => my_r9) H)
set_option maxRecDepth 100000 in
theorem my_r10  : ∀ G : ez_F, fx_up X 6 G 210 0 [.ref 35, .int (2 : Int32)] [] (ev_hp I J R T) cz kz = G 210 50 [.ref 35, .int (2 : Int32), .int (0 : Int32)] [.int (I 35 16)] (ev_hp I J R T) cz kz := by
  intro G
  rfl
set_option maxRecDepth 100000 in
theorem my_r11 {a0 : Int32} : ∀ G : ez_F, fx_up X 1 G 210 50 [.ref 35, .int (2 : Int32), .int (0 : Int32)] [.int a0] (ev_hp I J R T) cz kz = some (some (.int a0), (ev_hp I J R T), cz, kz) := by
  intro G
  rfl
theorem mm_c2 
    (H : Q (some (.int (I 35 16))) (ev_hp I J R T)) : pw (N + 1) X 210 0 [.ref 35, .int (2 : Int32)] [] (ev_hp I J R T) Q := by
  refine pw_seg (by decide) (fun _ _ => my_r10) ?_
  exact pw_p (pw_ret (by decide) (fun _ _ => my_r11) H)
set_option maxRecDepth 100000 in
theorem my_r12  : ∀ G : ez_F, fx_up X 5 G 33 0 [.ref 0, .int (3 : Int32)] [] (ev_hp I J R T) cz kz = G 33 67 [.ref 0, .int (3 : Int32)] [.long (J 8 3)] (ev_hp I J R T) cz kz := by
  intro G
  rfl
set_option maxRecDepth 100000 in
theorem my_r13 {a0 : Int64} : ∀ G : ez_F, fx_up X 1 G 33 67 [.ref 0, .int (3 : Int32)] [.long a0] (ev_hp I J R T) cz kz = ev_C G 237 [.long a0] (ev_hp I J R T) fun r h1 c1 k1 => G 33 70 [.ref 0, .int (3 : Int32)] (r.toList ++ []) h1 (cz + c1) (kz + k1) := by
  intro G
  rfl
set_option maxRecDepth 100000 in
theorem my_r14 {a0 : Int32} : ∀ G : ez_F, fx_up X 1 G 33 70 [.ref 0, .int (3 : Int32)] [.int a0] (ev_hp I J R T) cz kz = some (some (.int a0), (ev_hp I J R T), cz, kz) := by
  intro G
  rfl
theorem mn_c3 
    (H : Q (some (.int (ev_bcJ (J 8 3)))) (ev_hp I J R T)) : pw (N + 1) X 33 0 [.ref 0, .int (3 : Int32)] [] (ev_hp I J R T) Q := by
  refine pw_seg (by decide) (fun _ _ => my_r12) ?_
  refine pw_p (pw_callp (by decide) (fun _ _ => my_r13) (pe_is (ec_bcJ _ _ _)) ?_)
  exact pw_p (pw_ret (by decide) (fun _ _ => my_r14) H)
set_option maxRecDepth 100000 in
theorem my_r15  : ∀ G : ez_F, fx_up X 6 G 210 0 [.ref 35, .int (3 : Int32)] [] (ev_hp I J R T) cz kz = G 210 53 [.ref 35, .int (3 : Int32), .int (0 : Int32), .int (0 : Int32)] [] (ev_hp I J R T) cz kz := by
  intro G
  rfl
theorem mm_c3 
    (H : pw N X 210 53 [.ref 35, .int (3 : Int32), .int (0 : Int32), .int (0 : Int32)] [] (ev_hp I J R T) Q) : pw (N + 1) X 210 0 [.ref 35, .int (3 : Int32)] [] (ev_hp I J R T) Q := by
  refine pw_seg (by decide) (fun _ _ => my_r15) ?_
  exact H
set_option maxRecDepth 100000 in
theorem my_r16  : ∀ G : ez_F, fx_up X 5 G 33 0 [.ref 0, .int (4 : Int32)] [] (ev_hp I J R T) cz kz = ev_C G 82 [.ref 32] (ev_hp I J R T) fun r h1 c1 k1 => G 33 78 [.ref 0, .int (4 : Int32)] (r.toList ++ []) h1 (cz + c1) (kz + k1) := by
  intro G
  rfl
theorem mn_c4 
    (H : (∃ Q1 : pw_Q, pe N X 82 [.ref 32] (ev_hp I J R T) Q1 ∧ ∀ (r : Option Value) (h1 : ez_H), Q1 r h1 → pw N X 33 78 [.ref 0, .int (4 : Int32)] (r.toList ++ []) h1 Q)) : pw (N + 1) X 33 0 [.ref 0, .int (4 : Int32)] [] (ev_hp I J R T) Q := by
  obtain ⟨Q1, hc, hk⟩ := H
  exact pw_call (by decide) (fun _ _ => my_r16) hc hk
set_option maxRecDepth 100000 in
theorem my_r17  : ∀ G : ez_F, fx_up X 6 G 210 0 [.ref 35, .int (4 : Int32)] [] (ev_hp I J R T) cz kz = G 210 89 [.ref 35, .int (4 : Int32), .int (0 : Int32), .int (0 : Int32)] [] (ev_hp I J R T) cz kz := by
  intro G
  rfl
theorem mm_c4 
    (H : pw N X 210 89 [.ref 35, .int (4 : Int32), .int (0 : Int32), .int (0 : Int32)] [] (ev_hp I J R T) Q) : pw (N + 1) X 210 0 [.ref 35, .int (4 : Int32)] [] (ev_hp I J R T) Q := by
  refine pw_seg (by decide) (fun _ _ => my_r17) ?_
  exact H
set_option maxRecDepth 100000 in
theorem my_r18 {a0 : Int32} : ∀ G : ez_F, fx_up X 1 G 33 78 [.ref 0, .int (4 : Int32)] [.int a0] (ev_hp I J R T) cz kz = some (some (.int a0), (ev_hp I J R T), cz, kz) := by
  intro G
  rfl
theorem mn_78 {v : Int32}
    (H : Q (some (.int v)) (ev_hp I J R T)) : pw (N + 1) X 33 78 [.ref 0, .int (4 : Int32)] [.int v] (ev_hp I J R T) Q := by
  exact pw_ret (by decide) (fun _ _ => my_r18) H
set_option maxRecDepth 100000 in
theorem my_r19 {a0 : Int32} : ∀ G : ez_F, fx_up X 1 G 33 0 [.ref 0, .int a0] [] (ev_hp I J R T) cz kz = G 33 1 [.ref 0, .int a0] [.int a0] (ev_hp I J R T) cz kz := by
  intro G
  rfl
theorem mn_d {x : Int32}
    (H : pw N X 33 1 [.ref 0, .int x] [.int x] (ev_hp I J R T) Q) : pw (N + 1) X 33 0 [.ref 0, .int x] [] (ev_hp I J R T) Q := by
  refine pw_seg (by decide) (fun _ _ => my_r19) ?_
  exact H
set_option maxRecDepth 100000 in
theorem my_r20 {a0 : Int32} : ∀ G : ez_F, fx_up X 2 G 33 79 [.ref 0, .int a0] [] (ev_hp I J R T) cz kz = some (some (.int (-3 : Int32)), (ev_hp I J R T), cz, kz) := by
  intro G
  rfl
theorem mn_79 {x : Int32}
    (H : Q (some (.int (-3 : Int32))) (ev_hp I J R T)) : pw (N + 1) X 33 79 [.ref 0, .int x] [] (ev_hp I J R T) Q := by
  exact pw_ret (by decide) (fun _ _ => my_r20) H
set_option maxRecDepth 100000 in
theorem my_r21 {a0 : Int32} : ∀ G : ez_F, fx_up X 3 G 210 0 [.ref 35, .int a0] [] (ev_hp I J R T) cz kz = G 210 3 [.ref 35, .int a0, .int (0 : Int32)] [.int a0] (ev_hp I J R T) cz kz := by
  intro G
  rfl
theorem mm_d {x : Int32}
    (H : pw N X 210 3 [.ref 35, .int x, .int (0 : Int32)] [.int x] (ev_hp I J R T) Q) : pw (N + 1) X 210 0 [.ref 35, .int x] [] (ev_hp I J R T) Q := by
  refine pw_seg (by decide) (fun _ _ => my_r21) ?_
  exact H
set_option maxRecDepth 100000 in
theorem my_r22 {a0 : Int32} {a1 : Int32} : ∀ G : ez_F, fx_up X 2 G 210 128 [.ref 35, .int a0, .int a1] [] (ev_hp I J R T) cz kz = some (some (.int (-3 : Int32)), (ev_hp I J R T), cz, kz) := by
  intro G
  rfl
theorem mm_128 {x n : Int32}
    (H : Q (some (.int (-3 : Int32))) (ev_hp I J R T)) : pw (N + 1) X 210 128 [.ref 35, .int x, .int n] [] (ev_hp I J R T) Q := by
  exact pw_ret (by decide) (fun _ _ => my_r22) H
set_option maxRecDepth 100000 in
theorem my_r23 {a0 : Int32} {a1 : Int32} {a2 : Int32} : ∀ G : ez_F, fx_up X 3 G 210 53 [.ref 35, .int a0, .int a1, .int a2] [] (ev_hp I J R T) cz kz = G 210 58 [.ref 35, .int a0, .int a1, .int a2] [.int (I 35 16), .int a2] (ev_hp I J R T) cz kz := by
  intro G
  rfl
set_option maxRecDepth 100000 in
theorem my_r24 {a0 : Int32} {a1 : Int32} {a2 : Int32} {a3 : Int32} {a4 : Int32} : ∀ G : ez_F, fx_up X 1 G 210 58 [.ref 35, .int a0, .int a1, .int a2] [.int a3, .int a4] (ev_hp I J R T) cz kz = bif decide (a3 ≤ a4) then G 210 85 [.ref 35, .int a0, .int a1, .int a2] [] (ev_hp I J R T) cz kz else G 210 61 [.ref 35, .int a0, .int a1, .int a2] [] (ev_hp I J R T) cz kz := by
  intro G
  rfl
set_option maxRecDepth 100000 in
theorem my_r25 {a0 : Int32} {a1 : Int32} {a2 : Int32} : ∀ G : ez_F, fx_up X 2 G 210 85 [.ref 35, .int a0, .int a1, .int a2] [] (ev_hp I J R T) cz kz = some (some (.int a1), (ev_hp I J R T), cz, kz) := by
  intro G
  rfl
set_option maxRecDepth 100000 in
theorem my_r26 {a0 : Int32} {a1 : Int32} {a2 : Int32} : ∀ G : ez_F, fx_up X 4 G 210 61 [.ref 35, .int a0, .int a1, .int a2] [] (ev_hp I J R T) cz kz = G 210 67 [.ref 35, .int a0, .int a1, .int a2] [.int a2, .ref 44, .int a1] (ev_hp I J R T) cz kz := by
  intro G
  rfl
set_option maxRecDepth 100000 in
theorem my_r27 {a0 : Int32} {a1 : Int32} {a2 : Int32} {a3 : Int32} {a4 : Int32} : ∀ G : ez_F, fx_up X 2 G 210 68 [.ref 35, .int a0, .int a1, .int a2] [.int a3, .int a4] (ev_hp I J R T) cz kz = bif decide (¬ a3 = (-1 : Int32)) then G 210 76 [.ref 35, .int a0, .int a1, .int a2] [.int a4] (ev_hp I J R T) cz kz else G 210 72 [.ref 35, .int a0, .int a1, .int a2] [.int a4] (ev_hp I J R T) cz kz := by
  intro G
  rfl
set_option maxRecDepth 100000 in
theorem my_r28 {a0 : Int32} {a1 : Int32} {a2 : Int32} {a3 : Int32} : ∀ G : ez_F, fx_up X 5 G 210 76 [.ref 35, .int a0, .int a1, .int a2] [.int a3] (ev_hp I J R T) cz kz = G 210 53 [.ref 35, .int a0, .int (a3 + (1 : Int32)), .int (a2 + (1 : Int32))] [] (ev_hp I J R T) cz kz := by
  intro G
  rfl
set_option maxRecDepth 100000 in
theorem my_r29 {a0 : Int32} {a1 : Int32} {a2 : Int32} {a3 : Int32} : ∀ G : ez_F, fx_up X 6 G 210 72 [.ref 35, .int a0, .int a1, .int a2] [.int a3] (ev_hp I J R T) cz kz = G 210 53 [.ref 35, .int a0, .int (a3 + (0 : Int32)), .int (a2 + (1 : Int32))] [] (ev_hp I J R T) cz kz := by
  intro G
  rfl
theorem mm_53 {x n i : Int32}
    (H : (((I 35 16) ≤ i → Q (some (.int n)) (ev_hp I J R T)) ∧ (¬ ((I 35 16) ≤ i) → (ev_ix i 30 → ((¬ (I 44 i.toNatClampNeg) = (-1 : Int32) → pw N X 210 53 [.ref 35, .int x, .int (n + (1 : Int32)), .int (i + (1 : Int32))] [] (ev_hp I J R T) Q) ∧ (¬ (¬ (I 44 i.toNatClampNeg) = (-1 : Int32)) → pw N X 210 53 [.ref 35, .int x, .int (n + (0 : Int32)), .int (i + (1 : Int32))] [] (ev_hp I J R T) Q)))))) : pw (N + 1) X 210 53 [.ref 35, .int x, .int n, .int i] [] (ev_hp I J R T) Q := by
  refine pw_seg (by decide) (fun _ _ => my_r23) ?_
  refine pw_p (pw_if (by decide) (fun _ _ => my_r24) (fun w1 => ?_) (fun w1 => ?_))
  · have h1 := H.1 w1
    exact pw_p (pw_ret (by decide) (fun _ _ => my_r25) h1)
  · have h1 := H.2 w1
    refine pw_p (pw_seg (by decide) (fun _ _ => my_r26) ?_)
    refine pw_p (pw_iald (by rfl) (cx_getI (show cx_Ds[44]? = some (0, 30, []) from rfl)) (fun w2 => ?_))
    have h2 := h1 w2
    refine pw_p (pw_if (by decide) (fun _ _ => my_r27) (fun w2 => ?_) (fun w2 => ?_))
    · have h2 := h2.1 w2
      refine pw_p (pw_seg (by decide) (fun _ _ => my_r28) ?_)
      exact h2
    · have h2 := h2.2 w2
      refine pw_p (pw_seg (by decide) (fun _ _ => my_r29) ?_)
      exact h2
set_option maxRecDepth 100000 in
theorem my_r30 {a0 : Int32} {a1 : Int32} {a2 : Int32} : ∀ G : ez_F, fx_up X 3 G 210 89 [.ref 35, .int a0, .int a1, .int a2] [] (ev_hp I J R T) cz kz = G 210 94 [.ref 35, .int a0, .int a1, .int a2] [.int (I 35 0), .int a2] (ev_hp I J R T) cz kz := by
  intro G
  rfl
set_option maxRecDepth 100000 in
theorem my_r31 {a0 : Int32} {a1 : Int32} {a2 : Int32} {a3 : Int32} {a4 : Int32} : ∀ G : ez_F, fx_up X 2 G 210 94 [.ref 35, .int a0, .int a1, .int a2] [.int a3, .int a4] (ev_hp I J R T) cz kz = G 210 98 [.ref 35, .int a0, .int a1, .int a2] [.int (I 35 1), .int a3, .int a4] (ev_hp I J R T) cz kz := by
  intro G
  rfl
set_option maxRecDepth 100000 in
theorem my_r32 {a0 : Int32} {a1 : Int32} {a2 : Int32} {a3 : Int32} {a4 : Int32} {a5 : Int32} : ∀ G : ez_F, fx_up X 2 G 210 98 [.ref 35, .int a0, .int a1, .int a2] [.int a3, .int a4, .int a5] (ev_hp I J R T) cz kz = bif decide ((a4 + a3) ≤ a5) then G 210 126 [.ref 35, .int a0, .int a1, .int a2] [] (ev_hp I J R T) cz kz else G 210 102 [.ref 35, .int a0, .int a1, .int a2] [] (ev_hp I J R T) cz kz := by
  intro G
  rfl
set_option maxRecDepth 100000 in
theorem my_r33 {a0 : Int32} {a1 : Int32} {a2 : Int32} : ∀ G : ez_F, fx_up X 2 G 210 126 [.ref 35, .int a0, .int a1, .int a2] [] (ev_hp I J R T) cz kz = some (some (.int a1), (ev_hp I J R T), cz, kz) := by
  intro G
  rfl
set_option maxRecDepth 100000 in
theorem my_r34 {a0 : Int32} {a1 : Int32} {a2 : Int32} : ∀ G : ez_F, fx_up X 4 G 210 102 [.ref 35, .int a0, .int a1, .int a2] [] (ev_hp I J R T) cz kz = G 210 108 [.ref 35, .int a0, .int a1, .int a2] [.int a2, .ref 61, .int a1] (ev_hp I J R T) cz kz := by
  intro G
  rfl
set_option maxRecDepth 100000 in
theorem my_r35 {a0 : Int32} {a1 : Int32} {a2 : Int32} {a3 : Int32} {a4 : Int32} : ∀ G : ez_F, fx_up X 2 G 210 109 [.ref 35, .int a0, .int a1, .int a2] [.int a3, .int a4] (ev_hp I J R T) cz kz = bif decide (¬ a3 = (-1 : Int32)) then G 210 117 [.ref 35, .int a0, .int a1, .int a2] [.int a4] (ev_hp I J R T) cz kz else G 210 113 [.ref 35, .int a0, .int a1, .int a2] [.int a4] (ev_hp I J R T) cz kz := by
  intro G
  rfl
set_option maxRecDepth 100000 in
theorem my_r36 {a0 : Int32} {a1 : Int32} {a2 : Int32} {a3 : Int32} : ∀ G : ez_F, fx_up X 5 G 210 117 [.ref 35, .int a0, .int a1, .int a2] [.int a3] (ev_hp I J R T) cz kz = G 210 89 [.ref 35, .int a0, .int (a3 + (1 : Int32)), .int (a2 + (1 : Int32))] [] (ev_hp I J R T) cz kz := by
  intro G
  rfl
set_option maxRecDepth 100000 in
theorem my_r37 {a0 : Int32} {a1 : Int32} {a2 : Int32} {a3 : Int32} : ∀ G : ez_F, fx_up X 6 G 210 113 [.ref 35, .int a0, .int a1, .int a2] [.int a3] (ev_hp I J R T) cz kz = G 210 89 [.ref 35, .int a0, .int (a3 + (0 : Int32)), .int (a2 + (1 : Int32))] [] (ev_hp I J R T) cz kz := by
  intro G
  rfl
theorem mm_89 {x n i : Int32}
    (H : ((((I 35 0) + (I 35 1)) ≤ i → Q (some (.int n)) (ev_hp I J R T)) ∧ (¬ (((I 35 0) + (I 35 1)) ≤ i) → (ev_ix i 12 → ((¬ (I 61 i.toNatClampNeg) = (-1 : Int32) → pw N X 210 89 [.ref 35, .int x, .int (n + (1 : Int32)), .int (i + (1 : Int32))] [] (ev_hp I J R T) Q) ∧ (¬ (¬ (I 61 i.toNatClampNeg) = (-1 : Int32)) → pw N X 210 89 [.ref 35, .int x, .int (n + (0 : Int32)), .int (i + (1 : Int32))] [] (ev_hp I J R T) Q)))))) : pw (N + 1) X 210 89 [.ref 35, .int x, .int n, .int i] [] (ev_hp I J R T) Q := by
  refine pw_seg (by decide) (fun _ _ => my_r30) ?_
  refine pw_p (pw_seg (by decide) (fun _ _ => my_r31) ?_)
  refine pw_p (pw_if (by decide) (fun _ _ => my_r32) (fun w1 => ?_) (fun w1 => ?_))
  · have h1 := H.1 w1
    exact pw_p (pw_ret (by decide) (fun _ _ => my_r33) h1)
  · have h1 := H.2 w1
    refine pw_p (pw_seg (by decide) (fun _ _ => my_r34) ?_)
    refine pw_p (pw_iald (by rfl) (cx_getI (show cx_Ds[61]? = some (0, 12, []) from rfl)) (fun w2 => ?_))
    have h2 := h1 w2
    refine pw_p (pw_if (by decide) (fun _ _ => my_r35) (fun w2 => ?_) (fun w2 => ?_))
    · have h2 := h2.1 w2
      refine pw_p (pw_seg (by decide) (fun _ _ => my_r36) ?_)
      exact h2
    · have h2 := h2.2 w2
      refine pw_p (pw_seg (by decide) (fun _ _ => my_r37) ?_)
      exact h2
set_option maxRecDepth 100000 in
theorem my_r38  : ∀ G : ez_F, fx_up X 4 G 82 0 [.ref 32] [] (ev_hp I J R T) cz kz = G 82 4 [.ref 32, .int (0 : Int32), .int (0 : Int32)] [] (ev_hp I J R T) cz kz := by
  intro G
  rfl
theorem tc_0 
    (H : pw N X 82 4 [.ref 32, .int (0 : Int32), .int (0 : Int32)] [] (ev_hp I J R T) Q) : pw (N + 1) X 82 0 [.ref 32] [] (ev_hp I J R T) Q := by
  refine pw_seg (by decide) (fun _ _ => my_r38) ?_
  exact H
set_option maxRecDepth 100000 in
theorem my_r39 {a0 : Int32} {a1 : Int32} : ∀ G : ez_F, fx_up X 3 G 82 4 [.ref 32, .int a0, .int a1] [] (ev_hp I J R T) cz kz = bif decide ((12 : Int32) ≤ a1) then G 82 31 [.ref 32, .int a0, .int a1] [] (ev_hp I J R T) cz kz else G 82 10 [.ref 32, .int a0, .int a1] [] (ev_hp I J R T) cz kz := by
  intro G
  rfl
set_option maxRecDepth 100000 in
theorem my_r40 {a0 : Int32} {a1 : Int32} : ∀ G : ez_F, fx_up X 2 G 82 31 [.ref 32, .int a0, .int a1] [] (ev_hp I J R T) cz kz = some (some (.int a0), (ev_hp I J R T), cz, kz) := by
  intro G
  rfl
set_option maxRecDepth 100000 in
theorem my_r41 {a0 : Int32} {a1 : Int32} : ∀ G : ez_F, fx_up X 4 G 82 10 [.ref 32, .int a0, .int a1] [] (ev_hp I J R T) cz kz = ev_C G 3 [.ref 33, .int a1] (ev_hp I J R T) fun r h1 c1 k1 => G 82 18 [.ref 32, .int a0, .int a1] (r.toList ++ []) h1 (cz + c1) (kz + k1) := by
  intro G
  rfl
set_option maxRecDepth 100000 in
theorem my_r42 {a0 : Int32} {a1 : Int32} {a2 : Int32} : ∀ G : ez_F, fx_up X 2 G 82 18 [.ref 32, .int a0, .int a1] [.int a2] (ev_hp I J R T) cz kz = bif decide (a2 = (-1 : Int32)) then G 82 25 [.ref 32, .int a0, .int a1] [] (ev_hp I J R T) cz kz else G 82 22 [.ref 32, .int a0, .int a1] [] (ev_hp I J R T) cz kz := by
  intro G
  rfl
set_option maxRecDepth 100000 in
theorem my_r43 {a0 : Int32} {a1 : Int32} : ∀ G : ez_F, fx_up X 2 G 82 25 [.ref 32, .int a0, .int a1] [] (ev_hp I J R T) cz kz = G 82 4 [.ref 32, .int a0, .int (a1 + (1 : Int32))] [] (ev_hp I J R T) cz kz := by
  intro G
  rfl
set_option maxRecDepth 100000 in
theorem my_r44 {a0 : Int32} {a1 : Int32} : ∀ G : ez_F, fx_up X 3 G 82 22 [.ref 32, .int a0, .int a1] [] (ev_hp I J R T) cz kz = G 82 4 [.ref 32, .int (a0 + (1 : Int32)), .int (a1 + (1 : Int32))] [] (ev_hp I J R T) cz kz := by
  intro G
  rfl
theorem tc_4 {n i : Int32}
    (H : (((12 : Int32) ≤ i → Q (some (.int n)) (ev_hp I J R T)) ∧ (¬ ((12 : Int32) ≤ i) → (((ev_at 12 (I 33) i) = (-1 : Int32) → pw N X 82 4 [.ref 32, .int n, .int (i + (1 : Int32))] [] (ev_hp I J R T) Q) ∧ (¬ ((ev_at 12 (I 33) i) = (-1 : Int32)) → pw N X 82 4 [.ref 32, .int (n + (1 : Int32)), .int (i + (1 : Int32))] [] (ev_hp I J R T) Q))))) : pw (N + 1) X 82 4 [.ref 32, .int n, .int i] [] (ev_hp I J R T) Q := by
  refine pw_if (by decide) (fun _ _ => my_r39) (fun w1 => ?_) (fun w1 => ?_)
  · have h1 := H.1 w1
    exact pw_p (pw_ret (by decide) (fun _ _ => my_r40) h1)
  · have h1 := H.2 w1
    refine pw_p (pw_callp (by decide) (fun _ _ => my_r41) (pe_at (show cx_Ds[33]? = some (0, 12, []) from rfl) (by decide)) ?_)
    refine pw_p (pw_if (by decide) (fun _ _ => my_r42) (fun w2 => ?_) (fun w2 => ?_))
    · have h2 := h1.1 w2
      refine pw_p (pw_seg (by decide) (fun _ _ => my_r43) ?_)
      exact h2
    · have h2 := h1.2 w2
      refine pw_p (pw_seg (by decide) (fun _ _ => my_r44) ?_)
      exact h2
end
/-- a switch at a number that stands in no row of it -/
theorem pw_swd {N : Nat} {X : ez_X} {m pc a b cut w d : Nat} {ls st : List Value} {h : ez_H} {Q : pw_Q} {dflt lo hi : Int} {offs : Array Int} {len q : Nat} {v : Int32} (hP : ez_P0 m pc = some (.tableswitch dflt lo hi offs, len, a, b, cut, w, d)) (hv : v.toInt < lo ∨ hi < v.toInt) (hq : ez_tg pc dflt = some q)
    (e : pw N X m q (ez_cut cut ls) st h Q) : pw (N + 1) X m pc ls (.int v :: st) h Q := by
  refine pw_seg (a := 1) (by decide) (fun c k G => ?_) e
  rw [ev_up1]
  unfold ez_stp
  rw [hP]
  have e1 : ez_sw dflt lo hi offs pc v = some q := by
    unfold ez_sw
    rw [decide_eq_true hv]
    exact hq
  simp only [e1]
theorem cq_even {p : Nat → Bool} (h : ∀ i, p (2 * i + 1) = false) : ∀ m, cq p (2 * m) = cq (fun c => p (2 * c)) m := by
  intro m
  induction m with
  | zero => rfl
  | succ m ih =>
    show cq p (2 * m) + (bif p (2 * m) then 1 else 0) + (bif p (2 * m + 1) then 1 else 0) = cq (fun c => p (2 * c)) m + (bif p (2 * m) then 1 else 0)
    rw [ih, h m]
    rfl
section
variable {N : Nat} {X : ez_X} {I I' I1 : Nat → Nat → Int32} {J J' J1 : Nat → Nat → Int64} {R R' R1 : Nat → Nat} {T T' T1 : List ez_C} {v x y z : Int32}
def v_many (I : Nat → Nat → Int32) (J : Nat → Nat → Int64) (x : Int32) : Int32 := if x = 0 then I 1 6 else if x = 1 then I 3 3 else if x = 2 then I 8 1 else if x = 3 then Int32.ofNat (pcJ (J 8 3)) else if x = 4 then Int32.ofNat (cq (fun r => decide (I 33 r ≠ -1)) 12) else -3
theorem v_many_b (e : bk I' J' = bk I J) : v_many I' J' x = v_many I J x := by
  obtain ⟨e81, e33, -, -, -, -, -, -, -, -, -, e16, -, -, -, -, e83, er⟩ := bk_at e
  unfold v_many
  rw [e81, e33, e16, e83, er]
theorem pe_told12 : pe N X 82 [.ref 32] (ev_hp I J R T) (fun r h => r = some (.int (Int32.ofNat (cq (fun r => decide (I 33 r ≠ -1)) 12))) ∧ h = ev_hp I J R T) := by
  have loop : ∀ (d i : Nat), i + d = 12 → ∀ N, pw N X 82 4 [.ref 32, .int (Int32.ofNat (cq (fun r => decide (I 33 r ≠ -1)) i)), .int (Int32.ofNat i)] [] (ev_hp I J R T) (fun r h => r = some (.int (Int32.ofNat (cq (fun r => decide (I 33 r ≠ -1)) 12))) ∧ h = ev_hp I J R T) := by
    intro d
    induction d with
    | zero =>
      intro i hi N
      obtain rfl : i = 12 := by omega
      exact pw_p (tc_4 ⟨fun _ => ⟨rfl, rfl⟩, fun g => absurd (by decide) g⟩)
    | succ d ih =>
      intro i hid N
      have hq : cq (fun r => decide (I 33 r ≠ -1)) (i + 1) = cq (fun r => decide (I 33 r ≠ -1)) i + (bif decide (I 33 i ≠ -1) then 1 else 0) := rfl
      have h5 := ih (i + 1) (by omega) N
      rw [hq] at h5
      refine pw_p (tc_4 ?_)
      rw [at_in (by omega) (by decide), io_1, io_1]
      refine ⟨fun g => ?_, fun _ => ⟨fun g => ?_, fun g => ?_⟩⟩
      · rw [show (12 : Int32) = Int32.ofNat 12 from rfl, io_le (by omega) (by omega)] at g
        omega
      · rw [decide_eq_false (p := I 33 i ≠ -1) (fun z => z g)] at h5
        exact h5
      · rw [decide_eq_true (p := I 33 i ≠ -1) g] at h5
        exact h5
  exact pe_of (pw_p (tc_0 (loop 12 0 (by omega) _)))
theorem n_5 {x : Int32} (h0 : ¬ x = 0) (h1 : ¬ x = 1) (h2 : ¬ x = 2) (h3 : ¬ x = 3) (h4 : ¬ x = 4) : x.toInt < 0 ∨ 4 < x.toInt := by
  rw [← Int32.toInt_inj, show (0 : Int32).toInt = 0 from by decide] at h0
  rw [← Int32.toInt_inj, show (1 : Int32).toInt = 1 from by decide] at h1
  rw [← Int32.toInt_inj, show (2 : Int32).toInt = 2 from by decide] at h2
  rw [← Int32.toInt_inj, show (3 : Int32).toInt = 3 from by decide] at h3
  rw [← Int32.toInt_inj, show (4 : Int32).toInt = 4 from by decide] at h4
  omega
theorem pe_xmany : pe N X 33 [.ref 0, .int x] (ev_hp I J R T) (fun r _ => r = some (.int (v_many I J x))) := by
  unfold v_many
  by_cases h0 : x = 0
  · subst h0
    exact pe_of (pw_p (mn_c0 rfl))
  by_cases h1 : x = 1
  · subst h1
    exact pe_of (pw_p (mn_c1 rfl))
  by_cases h2 : x = 2
  · subst h2
    exact pe_of (pw_p (mn_c2 rfl))
  by_cases h3 : x = 3
  · subst h3
    exact pe_of (pw_p (mn_c3 (by rw [pcJ_bc]; rfl)))
  by_cases h4 : x = 4
  · subst h4
    refine pe_of (pw_p (mn_c4 ⟨_, pe_told12, ?_⟩))
    rintro r h ⟨rfl, rfl⟩
    exact pw_p (mn_78 rfl)
  rw [if_neg h0, if_neg h1, if_neg h2, if_neg h3, if_neg h4]
  exact pe_of (pw_p (mn_d (pw_p (pw_swd (q := 79) (by rfl) (n_5 h0 h1 h2 h3 h4) (by rfl) (pw_p (mn_79 rfl))))))
theorem pe_mmany (h : rl3 I J R T) (hB : cx_hB cx_B0 I) : pe N X 210 [.ref 35, .int x] (ev_hp I J R T) (fun r _ => r = some (.int (v_many I J x))) := by
  have hr := h.1.1
  obtain ⟨k, ek, hk, ek2, c1, c2, -, c4⟩ := c3_of h.2
  obtain ⟨a0, a1, a2, a3⟩ := km_0 hr.1
  obtain ⟨w, ht, ew, eh, hw, hhh⟩ := wh_is hB
  unfold v_many
  by_cases h0 : x = 0
  · subst h0
    refine pe_of (pw_p (mm_c0 ?_))
    rw [if_pos rfl, h.1.2.1.1, a0, a1]
  by_cases h1 : x = 1
  · subst h1
    refine pe_of (pw_p (mm_c1 ?_))
    rw [if_neg h0, if_pos rfl, a3]
  by_cases h2 : x = 2
  · subst h2
    refine pe_of (pw_p (mm_c2 ?_))
    rw [if_neg h0, if_neg h1, if_pos rfl, ek2]
  by_cases h3 : x = 3
  · subst h3
    have eq : pcJ (J 8 3) = cq (fun c => decide (I 44 c ≠ -1)) k := by
      rw [pcJ_cq, show 64 = 2 * 32 from rfl, cq_even (fun i => by
        cases hz : kb (J 8 3) (2 * i + 1)
        · rfl
        · have := (c2 _ hz).1
          omega), show 32 = k + (32 - k) by omega, cq_pad (fun i hi => by
        cases hz : kb (J 8 3) (2 * i)
        · rfl
        · have := (c2 _ hz).2
          omega)]
      refine cq_c k fun c hc => ?_
      obtain ⟨-, -, -, g4, g5⟩ := c1 c hc
      rw [← g4]
      unfold td_at
      cases hz : kb (J 8 3) (2 * c)
      · exact (decide_eq_false (fun z => z rfl)).symm
      · refine (decide_eq_true ?_).symm
        show td_v (kb (J 8 2) (2 * c)) (kb (J 8 2) (2 * c + 1)) ≠ -1
        cases kb (J 8 2) (2 * c) <;> cases kb (J 8 2) (2 * c + 1) <;> decide
    have loop : ∀ (d i : Nat), i + d = k → ∀ N, pw N X 210 53 [.ref 35, .int (3 : Int32), .int (Int32.ofNat (cq (fun c => decide (I 44 c ≠ -1)) i)), .int (Int32.ofNat i)] [] (ev_hp I J R T) (fun r _ => r = some (.int (Int32.ofNat (cq (fun c => decide (I 44 c ≠ -1)) k)))) := by
      intro d
      induction d with
      | zero =>
        intro i hi N
        obtain rfl : i = k := by omega
        refine pw_p (mm_53 ⟨fun _ => rfl, fun g => ?_⟩)
        rw [ek2, ek] at g
        exact absurd (Int32.le_refl _) g
      | succ d ih =>
        intro i hid N
        have hq : cq (fun c => decide (I 44 c ≠ -1)) (i + 1) = cq (fun c => decide (I 44 c ≠ -1)) i + (bif decide (I 44 i ≠ -1) then 1 else 0) := rfl
        have h5 := ih (i + 1) (by omega) N
        rw [hq] at h5
        refine pw_p (mm_53 ?_)
        rw [ek2, ek, io_cl (by omega), io_1, io_1, Int32.add_zero]
        refine ⟨fun g => ?_, fun _ _ => ⟨fun g => ?_, fun g => ?_⟩⟩
        · rw [io_le (by omega) (by omega)] at g
          omega
        · rw [decide_eq_true (p := I 44 i ≠ -1) g] at h5
          exact h5
        · rw [decide_eq_false (p := I 44 i ≠ -1) g] at h5
          exact h5
    rw [if_neg h0, if_neg h1, if_neg h2, if_pos rfl, eq]
    exact pe_of (pw_p (mm_c3 (loop k 0 (by omega) _)))
  by_cases h4 : x = 4
  · subst h4
    have eq : cq (fun r => decide (I 33 r ≠ -1)) 12 = cq (fun r => decide (I 61 r ≠ -1)) (w + ht) := by
      have e12 : (I 1 4 + I 1 3).toInt.toNat = w + ht := by
        rw [ew, eh, io_add, io_ti (by omega)]
        omega
      rw [show 12 = (w + ht) + (12 - (w + ht)) by omega]
      have pad : ∀ d, w + ht + d ≤ 12 → cq (fun r => decide (I 33 r ≠ -1)) (w + ht + d) = cq (fun r => decide (I 33 r ≠ -1)) (w + ht) := by
        intro d
        induction d with
        | zero => intro _; rfl
        | succ d ih =>
          intro hd
          show cq (fun r => decide (I 33 r ≠ -1)) (w + ht + d) + (bif decide (I 33 (w + ht + d) ≠ -1) then 1 else 0) = _
          rw [ih (by omega), decide_eq_false (p := I 33 (w + ht + d) ≠ -1) (fun z => z (c4 _ (by omega) (by omega)))]
          rfl
      rw [pad _ (by omega)]
      exact cq_c _ fun r hr2 => by rw [km_c hr.1 (show r < 12 by omega)]
    have loop : ∀ (d i : Nat), i + d = w + ht → ∀ N, pw N X 210 89 [.ref 35, .int (4 : Int32), .int (Int32.ofNat (cq (fun r => decide (I 61 r ≠ -1)) i)), .int (Int32.ofNat i)] [] (ev_hp I J R T) (fun r _ => r = some (.int (Int32.ofNat (cq (fun r => decide (I 61 r ≠ -1)) (w + ht))))) := by
      intro d
      induction d with
      | zero =>
        intro i hi N
        obtain rfl : i = w + ht := by omega
        refine pw_p (mm_89 ⟨fun _ => rfl, fun g => ?_⟩)
        rw [← a0, ← a1, ew, eh, io_add] at g
        exact absurd (Int32.le_refl _) g
      | succ d ih =>
        intro i hid N
        have hq : cq (fun r => decide (I 61 r ≠ -1)) (i + 1) = cq (fun r => decide (I 61 r ≠ -1)) i + (bif decide (I 61 i ≠ -1) then 1 else 0) := rfl
        have h5 := ih (i + 1) (by omega) N
        rw [hq] at h5
        refine pw_p (mm_89 ?_)
        rw [← a0, ← a1, ew, eh, io_add, io_cl (by omega), io_1, io_1, Int32.add_zero]
        refine ⟨fun g => ?_, fun _ _ => ⟨fun g => ?_, fun g => ?_⟩⟩
        · rw [io_le (by omega) (by omega)] at g
          omega
        · rw [decide_eq_true (p := I 61 i ≠ -1) g] at h5
          exact h5
        · rw [decide_eq_false (p := I 61 i ≠ -1) g] at h5
          exact h5
    rw [if_neg h0, if_neg h1, if_neg h2, if_neg h3, if_pos rfl, eq]
    exact pe_of (pw_p (mm_c4 (loop (w + ht) 0 (by omega) _)))
  rw [if_neg h0, if_neg h1, if_neg h2, if_neg h3, if_neg h4]
  exact pe_of (pw_p (mm_d (pw_p (pw_swd (q := 128) (by rfl) (n_5 h0 h1 h2 h3 h4) (by rfl) (pw_p (mm_128 rfl))))))
theorem lxc_many (hX2 : X.1 < 2 ^ 31) (hh : cx_hok cx_B0 I R T) (hr : rl3 I J R T) (x : Int32) : ev_W X 33 0 (ez_lay [.ref 0, .int x]) [] (ev_hp I J R T) 0 0 (lw_mid T (fun v I1 J1 R1 T1 => v = v_many I1 J1 x ∧ rl3 I1 J1 R1 T1)) := by
  refine (lxc_of (l3x_many hX2 hh hr x) (fun N => pe_xmany) (by rfl) cv_33_0 hX2 hh ao_1).mono (lw_mono fun v I1 J1 R1 T1 q => ⟨?_, q.2.2⟩)
  rw [q.1, v_many_b q.2.1]
theorem lmc_many (hX2 : X.1 < 2 ^ 31) (hh : cx_hok cx_B0 I R T) (hr : rl3 I J R T) (x : Int32) (hh1 : cx_hok cx_B0 I1 R1 T1) (hm : v = v_many I1 J1 x ∧ rl3 I1 J1 R1 T1) : ev_W X 210 0 (ez_lay [.ref 35, .int x]) [] (ev_hp I1 J1 R1 T1) 0 0 (lw_mid T1 (fun u I2 J2 R2 T2 => u = v ∧ rl3 I2 J2 R2 T2)) := by
  refine (lmc_of (l3m_many hX2 hh hr x hh1 hm.2) (fun N => pe_mmany hm.2 hh1.1)).mono (lw_mono fun u I2 J2 R2 T2 q => ⟨?_, q.2⟩)
  rw [q.1, hm.1]
end
