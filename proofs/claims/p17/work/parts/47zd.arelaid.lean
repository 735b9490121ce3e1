/-! The reference finds all layings. -/
section
variable {N : Nat} {X : ez_X} {I : Nat → Nat → Int32} {J : Nat → Nat → Int64} {R : Nat → Nat} {T : List ez_C} {Q : pw_Q} {cz kz : Nat}
set_option maxRecDepth 100000 in
theorem al_r0  : ∀ G : ez_F, fx_up X 4 G 167 0 [.ref 35] [] (ev_hp I J R T) cz kz = G 167 4 [.ref 35, .long (1 : Int64), ez_fill, .int (0 : Int32)] [] (ev_hp I J R T) cz kz := by
  intro G
  rfl
theorem al_0 
    (H : pw N X 167 4 [.ref 35, .long (1 : Int64), ez_fill, .int (0 : Int32)] [] (ev_hp I J R T) Q) : pw (N + 1) X 167 0 [.ref 35] [] (ev_hp I J R T) Q := by
  refine pw_seg (by decide) (fun _ _ => al_r0) ?_
  exact H
set_option maxRecDepth 100000 in
theorem al_r1 {a0 : Int64} {a1 : Int32} : ∀ G : ez_F, fx_up X 3 G 167 4 [.ref 35, .long a0, ez_fill, .int a1] [] (ev_hp I J R T) cz kz = G 167 9 [.ref 35, .long a0, ez_fill, .int a1] [.int (I 35 3), .int a1] (ev_hp I J R T) cz kz := by
  intro G
  rfl
set_option maxRecDepth 100000 in
theorem al_r2 {a0 : Int64} {a1 : Int32} {a2 : Int32} {a3 : Int32} : ∀ G : ez_F, fx_up X 1 G 167 9 [.ref 35, .long a0, ez_fill, .int a1] [.int a2, .int a3] (ev_hp I J R T) cz kz = bif decide (a2 ≤ a3) then G 167 33 [.ref 35, .long a0, ez_fill, .int a1] [] (ev_hp I J R T) cz kz else G 167 12 [.ref 35, .long a0, ez_fill, .int a1] [] (ev_hp I J R T) cz kz := by
  intro G
  rfl
set_option maxRecDepth 100000 in
theorem al_r3 {a0 : Int64} {a1 : Int32} : ∀ G : ez_F, fx_up X 3 G 167 12 [.ref 35, .long a0, ez_fill, .int a1] [] (ev_hp I J R T) cz kz = ev_C G 190 [.ref 35, .int a1] (ev_hp I J R T) fun r h1 c1 k1 => G 167 17 [.ref 35, .long a0, ez_fill, .int a1] (r.toList ++ []) h1 (cz + c1) (kz + k1) := by
  intro G
  rfl
theorem al_4 {al : Int64} {s : Int32}
    (H : (((I 35 3) ≤ s → pw N X 167 33 [.ref 35, .long al, ez_fill, .int s] [] (ev_hp I J R T) Q) ∧ (¬ ((I 35 3) ≤ s) → (∃ Q1 : pw_Q, pe N X 190 [.ref 35, .int s] (ev_hp I J R T) Q1 ∧ ∀ (r : Option Value) (h1 : ez_H), Q1 r h1 → pw N X 167 17 [.ref 35, .long al, ez_fill, .int s] (r.toList ++ []) h1 Q)))) : pw (N + 1) X 167 4 [.ref 35, .long al, ez_fill, .int s] [] (ev_hp I J R T) Q := by
  refine pw_seg (by decide) (fun _ _ => al_r1) ?_
  refine pw_p (pw_if (by decide) (fun _ _ => al_r2) (fun w1 => ?_) (fun w1 => ?_))
  · have h1 := H.1 w1
    exact h1
  · have h1 := H.2 w1
    obtain ⟨Q1, hc, hk⟩ := h1
    exact pw_p (pw_call (by decide) (fun _ _ => al_r3) hc hk)
set_option maxRecDepth 100000 in
theorem al_r4 {a0 : Int64} {a1 : Int32} : ∀ G : ez_F, fx_up X 4 G 167 17 [.ref 35, .long a0, ez_fill, .int a1] [] (ev_hp I J R T) cz kz = G 167 23 [.ref 35, .long a0, ez_fill, .int a1] [.int a1, .ref 38, .long a0] (ev_hp I J R T) cz kz := by
  intro G
  rfl
set_option maxRecDepth 100000 in
theorem al_r5 {a0 : Int64} {a1 : Int32} {a2 : Int32} {a3 : Int64} : ∀ G : ez_F, fx_up X 5 G 167 24 [.ref 35, .long a0, ez_fill, .int a1] [.int a2, .long a3] (ev_hp I J R T) cz kz = G 167 4 [.ref 35, .long (a3 * a2.toInt64), ez_fill, .int (a1 + (1 : Int32))] [] (ev_hp I J R T) cz kz := by
  intro G
  rfl
theorem al_17 {al : Int64} {s : Int32}
    (H : (ev_ix s 3 → pw N X 167 4 [.ref 35, .long (al * (I 38 s.toNatClampNeg).toInt64), ez_fill, .int (s + (1 : Int32))] [] (ev_hp I J R T) Q)) : pw (N + 1) X 167 17 [.ref 35, .long al, ez_fill, .int s] [] (ev_hp I J R T) Q := by
  refine pw_seg (by decide) (fun _ _ => al_r4) ?_
  refine pw_p (pw_iald (by rfl) (cx_getI (show cx_Ds[38]? = some (0, 3, []) from rfl)) (fun w1 => ?_))
  have h1 := H w1
  refine pw_p (pw_seg (by decide) (fun _ _ => al_r5) ?_)
  exact h1
set_option maxRecDepth 100000 in
theorem al_r6 {a0 : Int64} {a1 : Int32} : ∀ G : ez_F, fx_up X 4 G 167 33 [.ref 35, .long a0, ez_fill, .int a1] [] (ev_hp I J R T) cz kz = bif decide ((lg_cmp a0 (10000 : Int64)) ≤ (0 : Int32)) then G 167 43 [.ref 35, .long a0, ez_fill, .int a1] [] (ev_hp I J R T) cz kz else G 167 41 [.ref 35, .long a0, ez_fill, .int a1] [] (ev_hp I J R T) cz kz := by
  intro G
  rfl
set_option maxRecDepth 100000 in
theorem al_r7 {a0 : Int64} {a1 : Int32} : ∀ G : ez_F, fx_up X 3 G 167 43 [.ref 35, .long a0, ez_fill, .int a1] [] (ev_hp I J R T) cz kz = G 167 48 [.ref 35, .long a0, ez_fill, .int a1] [] (ev_hp (ev_sI I 35 (upd (I 35) 14 (0 : Int32))) J R T) cz kz := by
  intro G
  rfl
set_option maxRecDepth 100000 in
theorem al_r8 {a0 : Int64} {a1 : Int32} : ∀ G : ez_F, fx_up X 2 G 167 48 [.ref 35, .long a0, ez_fill, .int a1] [] (ev_hp I J R T) cz kz = G 167 52 [.ref 35, .long a0, ez_fill, .int a1] [.int (I 35 3)] (ev_hp I J R T) cz kz := by
  intro G
  rfl
set_option maxRecDepth 100000 in
theorem al_r9 {a0 : Int64} {a1 : Int32} {a2 : Int32} : ∀ G : ez_F, fx_up X 1 G 167 52 [.ref 35, .long a0, ez_fill, .int a1] [.int a2] (ev_hp I J R T) cz kz = bif decide (a2 ≤ (0 : Int32)) then G 167 64 [.ref 35, .long a0, ez_fill, .int a1] [] (ev_hp I J R T) cz kz else G 167 55 [.ref 35, .long a0, ez_fill, .int a1] [] (ev_hp I J R T) cz kz := by
  intro G
  rfl
set_option maxRecDepth 100000 in
theorem al_r10 {a0 : Int64} {a1 : Int32} : ∀ G : ez_F, fx_up X 1 G 167 64 [.ref 35, .long a0, ez_fill, .int a1] [] (ev_hp I J R T) cz kz = G 167 65 [.ref 35, .long a0, ez_fill, .int a1] [.int (1 : Int32)] (ev_hp I J R T) cz kz := by
  intro G
  rfl
set_option maxRecDepth 100000 in
theorem al_r11 {a0 : Int64} {a1 : Int32} : ∀ G : ez_F, fx_up X 3 G 167 55 [.ref 35, .long a0, ez_fill, .int a1] [] (ev_hp I J R T) cz kz = G 167 60 [.ref 35, .long a0, ez_fill, .int a1] [.int (0 : Int32), .ref 38] (ev_hp I J R T) cz kz := by
  intro G
  rfl
set_option maxRecDepth 100000 in
theorem al_r12 {a0 : Int64} {a1 : Int32} {a2 : Int32} : ∀ G : ez_F, fx_up X 1 G 167 61 [.ref 35, .long a0, ez_fill, .int a1] [.int a2] (ev_hp I J R T) cz kz = G 167 65 [.ref 35, .long a0, ez_fill, .int a1] [.int a2] (ev_hp I J R T) cz kz := by
  intro G
  rfl
set_option maxRecDepth 100000 in
theorem al_r13 {a0 : Int64} {a1 : Int32} : ∀ G : ez_F, fx_up X 1 G 167 41 [.ref 35, .long a0, ez_fill, .int a1] [] (ev_hp I J R T) cz kz = G 167 42 [.ref 35, .long a0, ez_fill, .int a1] [.int (0 : Int32)] (ev_hp I J R T) cz kz := by
  intro G
  rfl
theorem al_33 {al : Int64} {s : Int32}
    (H : (((lg_cmp al (10000 : Int64)) ≤ (0 : Int32) → (((I 35 3) ≤ (0 : Int32) → pw N X 167 65 [.ref 35, .long al, ez_fill, .int s] [.int (1 : Int32)] (ev_hp (ev_sI I 35 (upd (I 35) 14 (0 : Int32))) J R T) Q) ∧ (¬ ((I 35 3) ≤ (0 : Int32)) → (ev_ix (0 : Int32) 3 → pw N X 167 65 [.ref 35, .long al, ez_fill, .int s] [.int (I 38 (0 : Int32).toNatClampNeg)] (ev_hp (ev_sI I 35 (upd (I 35) 14 (0 : Int32))) J R T) Q)))) ∧ (¬ ((lg_cmp al (10000 : Int64)) ≤ (0 : Int32)) → ((0 : Int32) = 0 ∨ (0 : Int32) = 1 → Q (some (.int (0 : Int32))) (ev_hp I J R T))))) : pw (N + 1) X 167 33 [.ref 35, .long al, ez_fill, .int s] [] (ev_hp I J R T) Q := by
  refine pw_if (by decide) (fun _ _ => al_r6) (fun w1 => ?_) (fun w1 => ?_)
  · have h1 := H.1 w1
    refine pw_p (pw_seg (by decide) (fun _ _ => al_r7) ?_)
    refine pw_p (pw_seg (by decide) (fun _ _ => al_r8) ?_)
    refine pw_p (pw_if (by decide) (fun _ _ => al_r9) (fun w2 => ?_) (fun w2 => ?_))
    · have h2 := h1.1 w2
      refine pw_p (pw_seg (by decide) (fun _ _ => al_r10) ?_)
      exact h2
    · have h2 := h1.2 w2
      refine pw_p (pw_seg (by decide) (fun _ _ => al_r11) ?_)
      refine pw_p (pw_iald (by rfl) (cx_getI (show cx_Ds[38]? = some (0, 3, []) from rfl)) (fun w3 => ?_))
      have h3 := h2 w3
      refine pw_p (pw_seg (by decide) (fun _ _ => al_r12) ?_)
      exact h3
  · have h1 := H.2 w1
    refine pw_p (pw_seg (by decide) (fun _ _ => al_r13) ?_)
    exact pw_p (pw_zret (by rfl) h1)
set_option maxRecDepth 100000 in
theorem al_r14 {a0 : Int64} {a1 : Int32} {a2 : Int32} : ∀ G : ez_F, fx_up X 3 G 167 65 [.ref 35, .long a0, ez_fill, .int a1] [.int a2] (ev_hp I J R T) cz kz = G 167 70 [.ref 35, .long a0, ez_fill, .int a2] [.int (I 35 3)] (ev_hp I J R T) cz kz := by
  intro G
  rfl
set_option maxRecDepth 100000 in
theorem al_r15 {a0 : Int64} {a1 : Int32} {a2 : Int32} : ∀ G : ez_F, fx_up X 2 G 167 70 [.ref 35, .long a0, ez_fill, .int a1] [.int a2] (ev_hp I J R T) cz kz = bif decide (a2 ≤ (1 : Int32)) then G 167 83 [.ref 35, .long a0, ez_fill, .int a1] [] (ev_hp I J R T) cz kz else G 167 74 [.ref 35, .long a0, ez_fill, .int a1] [] (ev_hp I J R T) cz kz := by
  intro G
  rfl
set_option maxRecDepth 100000 in
theorem al_r16 {a0 : Int64} {a1 : Int32} : ∀ G : ez_F, fx_up X 1 G 167 83 [.ref 35, .long a0, ez_fill, .int a1] [] (ev_hp I J R T) cz kz = G 167 84 [.ref 35, .long a0, ez_fill, .int a1] [.int (1 : Int32)] (ev_hp I J R T) cz kz := by
  intro G
  rfl
set_option maxRecDepth 100000 in
theorem al_r17 {a0 : Int64} {a1 : Int32} : ∀ G : ez_F, fx_up X 3 G 167 74 [.ref 35, .long a0, ez_fill, .int a1] [] (ev_hp I J R T) cz kz = G 167 79 [.ref 35, .long a0, ez_fill, .int a1] [.int (1 : Int32), .ref 38] (ev_hp I J R T) cz kz := by
  intro G
  rfl
set_option maxRecDepth 100000 in
theorem al_r18 {a0 : Int64} {a1 : Int32} {a2 : Int32} : ∀ G : ez_F, fx_up X 1 G 167 80 [.ref 35, .long a0, ez_fill, .int a1] [.int a2] (ev_hp I J R T) cz kz = G 167 84 [.ref 35, .long a0, ez_fill, .int a1] [.int a2] (ev_hp I J R T) cz kz := by
  intro G
  rfl
theorem al_65 {al : Int64} {s x : Int32}
    (H : (((I 35 3) ≤ (1 : Int32) → pw N X 167 84 [.ref 35, .long al, ez_fill, .int x] [.int (1 : Int32)] (ev_hp I J R T) Q) ∧ (¬ ((I 35 3) ≤ (1 : Int32)) → (ev_ix (1 : Int32) 3 → pw N X 167 84 [.ref 35, .long al, ez_fill, .int x] [.int (I 38 (1 : Int32).toNatClampNeg)] (ev_hp I J R T) Q)))) : pw (N + 1) X 167 65 [.ref 35, .long al, ez_fill, .int s] [.int x] (ev_hp I J R T) Q := by
  refine pw_seg (by decide) (fun _ _ => al_r14) ?_
  refine pw_p (pw_if (by decide) (fun _ _ => al_r15) (fun w1 => ?_) (fun w1 => ?_))
  · have h1 := H.1 w1
    refine pw_p (pw_seg (by decide) (fun _ _ => al_r16) ?_)
    exact h1
  · have h1 := H.2 w1
    refine pw_p (pw_seg (by decide) (fun _ _ => al_r17) ?_)
    refine pw_p (pw_iald (by rfl) (cx_getI (show cx_Ds[38]? = some (0, 3, []) from rfl)) (fun w2 => ?_))
    have h2 := h1 w2
    refine pw_p (pw_seg (by decide) (fun _ _ => al_r18) ?_)
    exact h2
set_option maxRecDepth 100000 in
theorem al_r19 {a0 : Int64} {a1 : Int32} {a2 : Int32} : ∀ G : ez_F, fx_up X 3 G 167 84 [.ref 35, .long a0, ez_fill, .int a1] [.int a2] (ev_hp I J R T) cz kz = G 167 90 [.ref 35, .long a0, ez_fill, .int a1, .int a2] [.int (I 35 3)] (ev_hp I J R T) cz kz := by
  intro G
  rfl
set_option maxRecDepth 100000 in
theorem al_r20 {a0 : Int64} {a1 : Int32} {a2 : Int32} {a3 : Int32} : ∀ G : ez_F, fx_up X 2 G 167 90 [.ref 35, .long a0, ez_fill, .int a1, .int a2] [.int a3] (ev_hp I J R T) cz kz = bif decide (a3 ≤ (2 : Int32)) then G 167 103 [.ref 35, .long a0, ez_fill, .int a1, .int a2] [] (ev_hp I J R T) cz kz else G 167 94 [.ref 35, .long a0, ez_fill, .int a1, .int a2] [] (ev_hp I J R T) cz kz := by
  intro G
  rfl
set_option maxRecDepth 100000 in
theorem al_r21 {a0 : Int64} {a1 : Int32} {a2 : Int32} : ∀ G : ez_F, fx_up X 1 G 167 103 [.ref 35, .long a0, ez_fill, .int a1, .int a2] [] (ev_hp I J R T) cz kz = G 167 104 [.ref 35, .long a0, ez_fill, .int a1, .int a2] [.int (1 : Int32)] (ev_hp I J R T) cz kz := by
  intro G
  rfl
set_option maxRecDepth 100000 in
theorem al_r22 {a0 : Int64} {a1 : Int32} {a2 : Int32} : ∀ G : ez_F, fx_up X 3 G 167 94 [.ref 35, .long a0, ez_fill, .int a1, .int a2] [] (ev_hp I J R T) cz kz = G 167 99 [.ref 35, .long a0, ez_fill, .int a1, .int a2] [.int (2 : Int32), .ref 38] (ev_hp I J R T) cz kz := by
  intro G
  rfl
set_option maxRecDepth 100000 in
theorem al_r23 {a0 : Int64} {a1 : Int32} {a2 : Int32} {a3 : Int32} : ∀ G : ez_F, fx_up X 1 G 167 100 [.ref 35, .long a0, ez_fill, .int a1, .int a2] [.int a3] (ev_hp I J R T) cz kz = G 167 104 [.ref 35, .long a0, ez_fill, .int a1, .int a2] [.int a3] (ev_hp I J R T) cz kz := by
  intro G
  rfl
theorem al_84 {al : Int64} {s x : Int32}
    (H : (((I 35 3) ≤ (2 : Int32) → pw N X 167 104 [.ref 35, .long al, ez_fill, .int s, .int x] [.int (1 : Int32)] (ev_hp I J R T) Q) ∧ (¬ ((I 35 3) ≤ (2 : Int32)) → (ev_ix (2 : Int32) 3 → pw N X 167 104 [.ref 35, .long al, ez_fill, .int s, .int x] [.int (I 38 (2 : Int32).toNatClampNeg)] (ev_hp I J R T) Q)))) : pw (N + 1) X 167 84 [.ref 35, .long al, ez_fill, .int s] [.int x] (ev_hp I J R T) Q := by
  refine pw_seg (by decide) (fun _ _ => al_r19) ?_
  refine pw_p (pw_if (by decide) (fun _ _ => al_r20) (fun w1 => ?_) (fun w1 => ?_))
  · have h1 := H.1 w1
    refine pw_p (pw_seg (by decide) (fun _ _ => al_r21) ?_)
    exact h1
  · have h1 := H.2 w1
    refine pw_p (pw_seg (by decide) (fun _ _ => al_r22) ?_)
    refine pw_p (pw_iald (by rfl) (cx_getI (show cx_Ds[38]? = some (0, 3, []) from rfl)) (fun w2 => ?_))
    have h2 := h1 w2
    refine pw_p (pw_seg (by decide) (fun _ _ => al_r23) ?_)
    exact h2
set_option maxRecDepth 100000 in
theorem al_r24 {a0 : Int64} {a1 : Int32} {a2 : Int32} {a3 : Int32} : ∀ G : ez_F, fx_up X 3 G 167 104 [.ref 35, .long a0, ez_fill, .int a1, .int a2] [.int a3] (ev_hp I J R T) cz kz = G 167 109 [.ref 35, .long a0, ez_fill, .int a1, .int a2, .int a3, .int (0 : Int32)] [] (ev_hp I J R T) cz kz := by
  intro G
  rfl
theorem al_104 {al : Int64} {s x y : Int32}
    (H : pw N X 167 109 [.ref 35, .long al, ez_fill, .int s, .int y, .int x, .int (0 : Int32)] [] (ev_hp I J R T) Q) : pw (N + 1) X 167 104 [.ref 35, .long al, ez_fill, .int s, .int y] [.int x] (ev_hp I J R T) Q := by
  refine pw_seg (by decide) (fun _ _ => al_r24) ?_
  exact H
set_option maxRecDepth 100000 in
theorem al_r25 {a0 : Int64} {a1 : Int32} {a2 : Int32} {a3 : Int32} {a4 : Int32} : ∀ G : ez_F, fx_up X 3 G 167 109 [.ref 35, .long a0, ez_fill, .int a1, .int a2, .int a3, .int a4] [] (ev_hp I J R T) cz kz = bif decide (a1 ≤ a4) then G 167 310 [.ref 35, .long a0, ez_fill, .int a1, .int a2, .int a3, .int a4] [] (ev_hp I J R T) cz kz else G 167 115 [.ref 35, .long a0, ez_fill, .int a1, .int a2, .int a3, .int a4] [] (ev_hp I J R T) cz kz := by
  intro G
  rfl
set_option maxRecDepth 100000 in
theorem al_r26 {a0 : Int64} {a1 : Int32} {a2 : Int32} {a3 : Int32} {a4 : Int32} : ∀ G : ez_F, fx_up X 1 G 167 310 [.ref 35, .long a0, ez_fill, .int a1, .int a2, .int a3, .int a4] [] (ev_hp I J R T) cz kz = G 167 311 [.ref 35, .long a0, ez_fill, .int a1, .int a2, .int a3, .int a4] [.int (1 : Int32)] (ev_hp I J R T) cz kz := by
  intro G
  rfl
set_option maxRecDepth 100000 in
theorem al_r27 {a0 : Int64} {a1 : Int32} {a2 : Int32} {a3 : Int32} {a4 : Int32} : ∀ G : ez_F, fx_up X 2 G 167 115 [.ref 35, .long a0, ez_fill, .int a1, .int a2, .int a3, .int a4] [] (ev_hp I J R T) cz kz = G 167 118 [.ref 35, .long a0, ez_fill, .int a1, .int a2, .int a3, .int a4, .int (0 : Int32)] [] (ev_hp I J R T) cz kz := by
  intro G
  rfl
theorem al_109 {al : Int64} {m0 m1 m2 a : Nat}
    (H : (((Int32.ofNat m0) ≤ (Int32.ofNat a) → ((1 : Int32) = 0 ∨ (1 : Int32) = 1 → Q (some (.int (1 : Int32))) (ev_hp I J R T))) ∧ (¬ ((Int32.ofNat m0) ≤ (Int32.ofNat a)) → pw N X 167 118 [.ref 35, .long al, ez_fill, .int (Int32.ofNat m0), .int (Int32.ofNat m1), .int (Int32.ofNat m2), .int (Int32.ofNat a), .int (0 : Int32)] [] (ev_hp I J R T) Q))) : pw (N + 1) X 167 109 [.ref 35, .long al, ez_fill, .int (Int32.ofNat m0), .int (Int32.ofNat m1), .int (Int32.ofNat m2), .int (Int32.ofNat a)] [] (ev_hp I J R T) Q := by
  refine pw_if (by decide) (fun _ _ => al_r25) (fun w1 => ?_) (fun w1 => ?_)
  · have h1 := H.1 w1
    refine pw_p (pw_seg (by decide) (fun _ _ => al_r26) ?_)
    exact pw_p (pw_zret (by rfl) h1)
  · have h1 := H.2 w1
    refine pw_p (pw_seg (by decide) (fun _ _ => al_r27) ?_)
    exact h1
set_option maxRecDepth 100000 in
theorem al_r28 {a0 : Int64} {a1 : Int32} {a2 : Int32} {a3 : Int32} {a4 : Int32} {a5 : Int32} : ∀ G : ez_F, fx_up X 3 G 167 118 [.ref 35, .long a0, ez_fill, .int a1, .int a2, .int a3, .int a4, .int a5] [] (ev_hp I J R T) cz kz = bif decide (a2 ≤ a5) then G 167 304 [.ref 35, .long a0, ez_fill, .int a1, .int a2, .int a3, .int a4, .int a5] [] (ev_hp I J R T) cz kz else G 167 125 [.ref 35, .long a0, ez_fill, .int a1, .int a2, .int a3, .int a4, .int a5] [] (ev_hp I J R T) cz kz := by
  intro G
  rfl
set_option maxRecDepth 100000 in
theorem al_r29 {a0 : Int64} {a1 : Int32} {a2 : Int32} {a3 : Int32} {a4 : Int32} {a5 : Int32} : ∀ G : ez_F, fx_up X 2 G 167 125 [.ref 35, .long a0, ez_fill, .int a1, .int a2, .int a3, .int a4, .int a5] [] (ev_hp I J R T) cz kz = G 167 129 [.ref 35, .long a0, ez_fill, .int a1, .int a2, .int a3, .int a4, .int a5] [.int (I 35 3)] (ev_hp I J R T) cz kz := by
  intro G
  rfl
set_option maxRecDepth 100000 in
theorem al_r30 {a0 : Int64} {a1 : Int32} {a2 : Int32} {a3 : Int32} {a4 : Int32} {a5 : Int32} {a6 : Int32} : ∀ G : ez_F, fx_up X 2 G 167 129 [.ref 35, .long a0, ez_fill, .int a1, .int a2, .int a3, .int a4, .int a5] [.int a6] (ev_hp I J R T) cz kz = bif decide (a6 < (2 : Int32)) then G 167 157 [.ref 35, .long a0, ez_fill, .int a1, .int a2, .int a3, .int a4, .int a5] [] (ev_hp I J R T) cz kz else G 167 133 [.ref 35, .long a0, ez_fill, .int a1, .int a2, .int a3, .int a4, .int a5] [] (ev_hp I J R T) cz kz := by
  intro G
  rfl
set_option maxRecDepth 100000 in
theorem al_r31 {a0 : Int64} {a1 : Int32} {a2 : Int32} {a3 : Int32} {a4 : Int32} {a5 : Int32} : ∀ G : ez_F, fx_up X 2 G 167 157 [.ref 35, .long a0, ez_fill, .int a1, .int a2, .int a3, .int a4, .int a5] [] (ev_hp I J R T) cz kz = G 167 162 [.ref 35, .long a0, ez_fill, .int a1, .int a2, .int a3, .int a4, .int a5] [.int (1 : Int32)] (ev_hp I J R T) cz kz := by
  intro G
  rfl
set_option maxRecDepth 100000 in
theorem al_r32 {a0 : Int64} {a1 : Int32} {a2 : Int32} {a3 : Int32} {a4 : Int32} {a5 : Int32} : ∀ G : ez_F, fx_up X 3 G 167 133 [.ref 35, .long a0, ez_fill, .int a1, .int a2, .int a3, .int a4, .int a5] [] (ev_hp I J R T) cz kz = G 167 139 [.ref 35, .long a0, ez_fill, .int a1, .int a2, .int a3, .int a4, .int a5] [.int a4, .ref 40] (ev_hp I J R T) cz kz := by
  intro G
  rfl
set_option maxRecDepth 100000 in
theorem al_r33 {a0 : Int64} {a1 : Int32} {a2 : Int32} {a3 : Int32} {a4 : Int32} {a5 : Int32} {a6 : Int64} : ∀ G : ez_F, fx_up X 5 G 167 140 [.ref 35, .long a0, ez_fill, .int a1, .int a2, .int a3, .int a4, .int a5] [.long a6] (ev_hp I J R T) cz kz = G 167 150 [.ref 35, .long a0, ez_fill, .int a1, .int a2, .int a3, .int a4, .int a5] [.int ((300 : Int32) + a5), .ref 39, .long a6] (ev_hp I J R T) cz kz := by
  intro G
  rfl
set_option maxRecDepth 100000 in
theorem al_r34 {a0 : Int64} {a1 : Int32} {a2 : Int32} {a3 : Int32} {a4 : Int32} {a5 : Int32} {a6 : Int64} {a7 : Int64} : ∀ G : ez_F, fx_up X 4 G 167 151 [.ref 35, .long a0, ez_fill, .int a1, .int a2, .int a3, .int a4, .int a5] [.long a6, .long a7] (ev_hp I J R T) cz kz = bif decide (¬ (lg_cmp (a7 &&& a6) (0 : Int64)) = (0 : Int32)) then G 167 161 [.ref 35, .long a0, ez_fill, .int a1, .int a2, .int a3, .int a4, .int a5] [] (ev_hp I J R T) cz kz else G 167 157 [.ref 35, .long a0, ez_fill, .int a1, .int a2, .int a3, .int a4, .int a5] [] (ev_hp I J R T) cz kz := by
  intro G
  rfl
set_option maxRecDepth 100000 in
theorem al_r35 {a0 : Int64} {a1 : Int32} {a2 : Int32} {a3 : Int32} {a4 : Int32} {a5 : Int32} : ∀ G : ez_F, fx_up X 1 G 167 161 [.ref 35, .long a0, ez_fill, .int a1, .int a2, .int a3, .int a4, .int a5] [] (ev_hp I J R T) cz kz = G 167 162 [.ref 35, .long a0, ez_fill, .int a1, .int a2, .int a3, .int a4, .int a5] [.int (0 : Int32)] (ev_hp I J R T) cz kz := by
  intro G
  rfl
theorem al_118 {al : Int64} {m0 m1 m2 a b : Nat}
    (H : (((Int32.ofNat m1) ≤ (Int32.ofNat b) → pw N X 167 304 [.ref 35, .long al, ez_fill, .int (Int32.ofNat m0), .int (Int32.ofNat m1), .int (Int32.ofNat m2), .int (Int32.ofNat a), .int (Int32.ofNat b)] [] (ev_hp I J R T) Q) ∧ (¬ ((Int32.ofNat m1) ≤ (Int32.ofNat b)) → (((I 35 3) < (2 : Int32) → pw N X 167 162 [.ref 35, .long al, ez_fill, .int (Int32.ofNat m0), .int (Int32.ofNat m1), .int (Int32.ofNat m2), .int (Int32.ofNat a), .int (Int32.ofNat b)] [.int (1 : Int32)] (ev_hp I J R T) Q) ∧ (¬ ((I 35 3) < (2 : Int32)) → (ev_ix (Int32.ofNat a) 900 → (ev_ix ((300 : Int32) + (Int32.ofNat b)) 900 → ((¬ (lg_cmp ((J 40 (Int32.ofNat a).toNatClampNeg) &&& (J 39 ((300 : Int32) + (Int32.ofNat b)).toNatClampNeg)) (0 : Int64)) = (0 : Int32) → pw N X 167 162 [.ref 35, .long al, ez_fill, .int (Int32.ofNat m0), .int (Int32.ofNat m1), .int (Int32.ofNat m2), .int (Int32.ofNat a), .int (Int32.ofNat b)] [.int (0 : Int32)] (ev_hp I J R T) Q) ∧ (¬ (¬ (lg_cmp ((J 40 (Int32.ofNat a).toNatClampNeg) &&& (J 39 ((300 : Int32) + (Int32.ofNat b)).toNatClampNeg)) (0 : Int64)) = (0 : Int32)) → pw N X 167 162 [.ref 35, .long al, ez_fill, .int (Int32.ofNat m0), .int (Int32.ofNat m1), .int (Int32.ofNat m2), .int (Int32.ofNat a), .int (Int32.ofNat b)] [.int (1 : Int32)] (ev_hp I J R T) Q))))))))) : pw (N + 1) X 167 118 [.ref 35, .long al, ez_fill, .int (Int32.ofNat m0), .int (Int32.ofNat m1), .int (Int32.ofNat m2), .int (Int32.ofNat a), .int (Int32.ofNat b)] [] (ev_hp I J R T) Q := by
  refine pw_if (by decide) (fun _ _ => al_r28) (fun w1 => ?_) (fun w1 => ?_)
  · have h1 := H.1 w1
    exact h1
  · have h1 := H.2 w1
    refine pw_p (pw_seg (by decide) (fun _ _ => al_r29) ?_)
    refine pw_p (pw_if (by decide) (fun _ _ => al_r30) (fun w2 => ?_) (fun w2 => ?_))
    · have h2 := h1.1 w2
      refine pw_p (pw_seg (by decide) (fun _ _ => al_r31) ?_)
      exact h2
    · have h2 := h1.2 w2
      refine pw_p (pw_seg (by decide) (fun _ _ => al_r32) ?_)
      refine pw_p (pw_lald (by rfl) (cx_getJ (show cx_Ds[40]? = some (1, 900, []) from rfl)) (fun w3 => ?_))
      have h3 := h2 w3
      refine pw_p (pw_seg (by decide) (fun _ _ => al_r33) ?_)
      refine pw_p (pw_lald (by rfl) (cx_getJ (show cx_Ds[39]? = some (1, 900, []) from rfl)) (fun w3 => ?_))
      have h3 := h3 w3
      refine pw_p (pw_if (by decide) (fun _ _ => al_r34) (fun w3 => ?_) (fun w3 => ?_))
      · have h3 := h3.1 w3
        refine pw_p (pw_seg (by decide) (fun _ _ => al_r35) ?_)
        exact h3
      · have h3 := h3.2 w3
        refine pw_p (pw_seg (by decide) (fun _ _ => al_r31) ?_)
        exact h3
set_option maxRecDepth 100000 in
theorem al_r36 {a0 : Int64} {a1 : Int32} {a2 : Int32} {a3 : Int32} {a4 : Int32} {a5 : Int32} {a6 : Int32} : ∀ G : ez_F, fx_up X 3 G 167 162 [.ref 35, .long a0, ez_fill, .int a1, .int a2, .int a3, .int a4, .int a5] [.int a6] (ev_hp I J R T) cz kz = G 167 167 [.ref 35, .long a0, ez_fill, .int a1, .int a2, .int a3, .int a4, .int a5, .int a6, .int (0 : Int32)] [] (ev_hp I J R T) cz kz := by
  intro G
  rfl
theorem al_162 {al : Int64} {m0 m1 m2 a b : Nat} {x : Int32}
    (H : pw N X 167 167 [.ref 35, .long al, ez_fill, .int (Int32.ofNat m0), .int (Int32.ofNat m1), .int (Int32.ofNat m2), .int (Int32.ofNat a), .int (Int32.ofNat b), .int x, .int (0 : Int32)] [] (ev_hp I J R T) Q) : pw (N + 1) X 167 162 [.ref 35, .long al, ez_fill, .int (Int32.ofNat m0), .int (Int32.ofNat m1), .int (Int32.ofNat m2), .int (Int32.ofNat a), .int (Int32.ofNat b)] [.int x] (ev_hp I J R T) Q := by
  refine pw_seg (by decide) (fun _ _ => al_r36) ?_
  exact H
set_option maxRecDepth 100000 in
theorem al_r37 {a0 : Int64} {a1 : Int32} {a2 : Int32} {a3 : Int32} {a4 : Int32} {a5 : Int32} {a6 : Int32} {a7 : Int32} : ∀ G : ez_F, fx_up X 3 G 167 167 [.ref 35, .long a0, ez_fill, .int a1, .int a2, .int a3, .int a4, .int a5, .int a6, .int a7] [] (ev_hp I J R T) cz kz = bif decide (a3 ≤ a7) then G 167 298 [.ref 35, .long a0, ez_fill, .int a1, .int a2, .int a3, .int a4, .int a5, .int a6, .int a7] [] (ev_hp I J R T) cz kz else G 167 174 [.ref 35, .long a0, ez_fill, .int a1, .int a2, .int a3, .int a4, .int a5, .int a6, .int a7] [] (ev_hp I J R T) cz kz := by
  intro G
  rfl
set_option maxRecDepth 100000 in
theorem al_r38 {a0 : Int64} {a1 : Int32} {a2 : Int32} {a3 : Int32} {a4 : Int32} {a5 : Int32} {a6 : Int32} {a7 : Int32} : ∀ G : ez_F, fx_up X 2 G 167 174 [.ref 35, .long a0, ez_fill, .int a1, .int a2, .int a3, .int a4, .int a5, .int a6, .int a7] [] (ev_hp I J R T) cz kz = bif decide (a6 = (0 : Int32)) then G 167 298 [.ref 35, .long a0, ez_fill, .int a1, .int a2, .int a3, .int a4, .int a5, .int a6, .int a7] [] (ev_hp I J R T) cz kz else G 167 179 [.ref 35, .long a0, ez_fill, .int a1, .int a2, .int a3, .int a4, .int a5, .int a6, .int a7] [] (ev_hp I J R T) cz kz := by
  intro G
  rfl
set_option maxRecDepth 100000 in
theorem al_r39 {a0 : Int64} {a1 : Int32} {a2 : Int32} {a3 : Int32} {a4 : Int32} {a5 : Int32} {a6 : Int32} {a7 : Int32} : ∀ G : ez_F, fx_up X 2 G 167 179 [.ref 35, .long a0, ez_fill, .int a1, .int a2, .int a3, .int a4, .int a5, .int a6, .int a7] [] (ev_hp I J R T) cz kz = G 167 183 [.ref 35, .long a0, ez_fill, .int a1, .int a2, .int a3, .int a4, .int a5, .int a6, .int a7] [.int (I 35 3)] (ev_hp I J R T) cz kz := by
  intro G
  rfl
set_option maxRecDepth 100000 in
theorem al_r40 {a0 : Int64} {a1 : Int32} {a2 : Int32} {a3 : Int32} {a4 : Int32} {a5 : Int32} {a6 : Int32} {a7 : Int32} {a8 : Int32} : ∀ G : ez_F, fx_up X 2 G 167 183 [.ref 35, .long a0, ez_fill, .int a1, .int a2, .int a3, .int a4, .int a5, .int a6, .int a7] [.int a8] (ev_hp I J R T) cz kz = bif decide (a8 < (3 : Int32)) then G 167 239 [.ref 35, .long a0, ez_fill, .int a1, .int a2, .int a3, .int a4, .int a5, .int a6, .int a7] [] (ev_hp I J R T) cz kz else G 167 187 [.ref 35, .long a0, ez_fill, .int a1, .int a2, .int a3, .int a4, .int a5, .int a6, .int a7] [] (ev_hp I J R T) cz kz := by
  intro G
  rfl
set_option maxRecDepth 100000 in
theorem al_r41 {a0 : Int64} {a1 : Int32} {a2 : Int32} {a3 : Int32} {a4 : Int32} {a5 : Int32} {a6 : Int32} {a7 : Int32} : ∀ G : ez_F, fx_up X 3 G 167 187 [.ref 35, .long a0, ez_fill, .int a1, .int a2, .int a3, .int a4, .int a5, .int a6, .int a7] [] (ev_hp I J R T) cz kz = G 167 193 [.ref 35, .long a0, ez_fill, .int a1, .int a2, .int a3, .int a4, .int a5, .int a6, .int a7] [.int a4, .ref 40] (ev_hp I J R T) cz kz := by
  intro G
  rfl
set_option maxRecDepth 100000 in
theorem al_r42 {a0 : Int64} {a1 : Int32} {a2 : Int32} {a3 : Int32} {a4 : Int32} {a5 : Int32} {a6 : Int32} {a7 : Int32} {a8 : Int64} : ∀ G : ez_F, fx_up X 5 G 167 194 [.ref 35, .long a0, ez_fill, .int a1, .int a2, .int a3, .int a4, .int a5, .int a6, .int a7] [.long a8] (ev_hp I J R T) cz kz = G 167 204 [.ref 35, .long a0, ez_fill, .int a1, .int a2, .int a3, .int a4, .int a5, .int a6, .int a7] [.int ((600 : Int32) + a7), .ref 39, .long a8] (ev_hp I J R T) cz kz := by
  intro G
  rfl
set_option maxRecDepth 100000 in
theorem al_r43 {a0 : Int64} {a1 : Int32} {a2 : Int32} {a3 : Int32} {a4 : Int32} {a5 : Int32} {a6 : Int32} {a7 : Int32} {a8 : Int64} {a9 : Int64} : ∀ G : ez_F, fx_up X 4 G 167 205 [.ref 35, .long a0, ez_fill, .int a1, .int a2, .int a3, .int a4, .int a5, .int a6, .int a7] [.long a8, .long a9] (ev_hp I J R T) cz kz = bif decide (¬ (lg_cmp (a9 &&& a8) (0 : Int64)) = (0 : Int32)) then G 167 292 [.ref 35, .long a0, ez_fill, .int a1, .int a2, .int a3, .int a4, .int a5, .int a6, .int a7] [] (ev_hp I J R T) cz kz else G 167 211 [.ref 35, .long a0, ez_fill, .int a1, .int a2, .int a3, .int a4, .int a5, .int a6, .int a7] [] (ev_hp I J R T) cz kz := by
  intro G
  rfl
set_option maxRecDepth 100000 in
theorem al_r44 {a0 : Int64} {a1 : Int32} {a2 : Int32} {a3 : Int32} {a4 : Int32} {a5 : Int32} {a6 : Int32} {a7 : Int32} : ∀ G : ez_F, fx_up X 5 G 167 211 [.ref 35, .long a0, ez_fill, .int a1, .int a2, .int a3, .int a4, .int a5, .int a6, .int a7] [] (ev_hp I J R T) cz kz = G 167 221 [.ref 35, .long a0, ez_fill, .int a1, .int a2, .int a3, .int a4, .int a5, .int a6, .int a7] [.int ((300 : Int32) + a5), .ref 40] (ev_hp I J R T) cz kz := by
  intro G
  rfl
set_option maxRecDepth 100000 in
theorem al_r45 {a0 : Int64} {a1 : Int32} {a2 : Int32} {a3 : Int32} {a4 : Int32} {a5 : Int32} {a6 : Int32} {a7 : Int32} {a8 : Int64} : ∀ G : ez_F, fx_up X 5 G 167 222 [.ref 35, .long a0, ez_fill, .int a1, .int a2, .int a3, .int a4, .int a5, .int a6, .int a7] [.long a8] (ev_hp I J R T) cz kz = G 167 232 [.ref 35, .long a0, ez_fill, .int a1, .int a2, .int a3, .int a4, .int a5, .int a6, .int a7] [.int ((600 : Int32) + a7), .ref 39, .long a8] (ev_hp I J R T) cz kz := by
  intro G
  rfl
set_option maxRecDepth 100000 in
theorem al_r46 {a0 : Int64} {a1 : Int32} {a2 : Int32} {a3 : Int32} {a4 : Int32} {a5 : Int32} {a6 : Int32} {a7 : Int32} {a8 : Int64} {a9 : Int64} : ∀ G : ez_F, fx_up X 4 G 167 233 [.ref 35, .long a0, ez_fill, .int a1, .int a2, .int a3, .int a4, .int a5, .int a6, .int a7] [.long a8, .long a9] (ev_hp I J R T) cz kz = bif decide (¬ (lg_cmp (a9 &&& a8) (0 : Int64)) = (0 : Int32)) then G 167 292 [.ref 35, .long a0, ez_fill, .int a1, .int a2, .int a3, .int a4, .int a5, .int a6, .int a7] [] (ev_hp I J R T) cz kz else G 167 239 [.ref 35, .long a0, ez_fill, .int a1, .int a2, .int a3, .int a4, .int a5, .int a6, .int a7] [] (ev_hp I J R T) cz kz := by
  intro G
  rfl
theorem al_167 {al : Int64} {m0 m1 m2 a b c : Nat} {x : Int32}
    (H : (((Int32.ofNat m2) ≤ (Int32.ofNat c) → pw N X 167 298 [.ref 35, .long al, ez_fill, .int (Int32.ofNat m0), .int (Int32.ofNat m1), .int (Int32.ofNat m2), .int (Int32.ofNat a), .int (Int32.ofNat b), .int x, .int (Int32.ofNat c)] [] (ev_hp I J R T) Q) ∧ (¬ ((Int32.ofNat m2) ≤ (Int32.ofNat c)) → ((x = (0 : Int32) → pw N X 167 298 [.ref 35, .long al, ez_fill, .int (Int32.ofNat m0), .int (Int32.ofNat m1), .int (Int32.ofNat m2), .int (Int32.ofNat a), .int (Int32.ofNat b), .int x, .int (Int32.ofNat c)] [] (ev_hp I J R T) Q) ∧ (¬ (x = (0 : Int32)) → (((I 35 3) < (3 : Int32) → pw N X 167 239 [.ref 35, .long al, ez_fill, .int (Int32.ofNat m0), .int (Int32.ofNat m1), .int (Int32.ofNat m2), .int (Int32.ofNat a), .int (Int32.ofNat b), .int x, .int (Int32.ofNat c)] [] (ev_hp I J R T) Q) ∧ (¬ ((I 35 3) < (3 : Int32)) → (ev_ix (Int32.ofNat a) 900 → (ev_ix ((600 : Int32) + (Int32.ofNat c)) 900 → ((¬ (lg_cmp ((J 40 (Int32.ofNat a).toNatClampNeg) &&& (J 39 ((600 : Int32) + (Int32.ofNat c)).toNatClampNeg)) (0 : Int64)) = (0 : Int32) → pw N X 167 292 [.ref 35, .long al, ez_fill, .int (Int32.ofNat m0), .int (Int32.ofNat m1), .int (Int32.ofNat m2), .int (Int32.ofNat a), .int (Int32.ofNat b), .int x, .int (Int32.ofNat c)] [] (ev_hp I J R T) Q) ∧ (¬ (¬ (lg_cmp ((J 40 (Int32.ofNat a).toNatClampNeg) &&& (J 39 ((600 : Int32) + (Int32.ofNat c)).toNatClampNeg)) (0 : Int64)) = (0 : Int32)) → (ev_ix ((300 : Int32) + (Int32.ofNat b)) 900 → (ev_ix ((600 : Int32) + (Int32.ofNat c)) 900 → ((¬ (lg_cmp ((J 40 ((300 : Int32) + (Int32.ofNat b)).toNatClampNeg) &&& (J 39 ((600 : Int32) + (Int32.ofNat c)).toNatClampNeg)) (0 : Int64)) = (0 : Int32) → pw N X 167 292 [.ref 35, .long al, ez_fill, .int (Int32.ofNat m0), .int (Int32.ofNat m1), .int (Int32.ofNat m2), .int (Int32.ofNat a), .int (Int32.ofNat b), .int x, .int (Int32.ofNat c)] [] (ev_hp I J R T) Q) ∧ (¬ (¬ (lg_cmp ((J 40 ((300 : Int32) + (Int32.ofNat b)).toNatClampNeg) &&& (J 39 ((600 : Int32) + (Int32.ofNat c)).toNatClampNeg)) (0 : Int64)) = (0 : Int32)) → pw N X 167 239 [.ref 35, .long al, ez_fill, .int (Int32.ofNat m0), .int (Int32.ofNat m1), .int (Int32.ofNat m2), .int (Int32.ofNat a), .int (Int32.ofNat b), .int x, .int (Int32.ofNat c)] [] (ev_hp I J R T) Q))))))))))))))) : pw (N + 1) X 167 167 [.ref 35, .long al, ez_fill, .int (Int32.ofNat m0), .int (Int32.ofNat m1), .int (Int32.ofNat m2), .int (Int32.ofNat a), .int (Int32.ofNat b), .int x, .int (Int32.ofNat c)] [] (ev_hp I J R T) Q := by
  refine pw_if (by decide) (fun _ _ => al_r37) (fun w1 => ?_) (fun w1 => ?_)
  · have h1 := H.1 w1
    exact h1
  · have h1 := H.2 w1
    refine pw_p (pw_if (by decide) (fun _ _ => al_r38) (fun w2 => ?_) (fun w2 => ?_))
    · have h2 := h1.1 w2
      exact h2
    · have h2 := h1.2 w2
      refine pw_p (pw_seg (by decide) (fun _ _ => al_r39) ?_)
      refine pw_p (pw_if (by decide) (fun _ _ => al_r40) (fun w3 => ?_) (fun w3 => ?_))
      · have h3 := h2.1 w3
        exact h3
      · have h3 := h2.2 w3
        refine pw_p (pw_seg (by decide) (fun _ _ => al_r41) ?_)
        refine pw_p (pw_lald (by rfl) (cx_getJ (show cx_Ds[40]? = some (1, 900, []) from rfl)) (fun w4 => ?_))
        have h4 := h3 w4
        refine pw_p (pw_seg (by decide) (fun _ _ => al_r42) ?_)
        refine pw_p (pw_lald (by rfl) (cx_getJ (show cx_Ds[39]? = some (1, 900, []) from rfl)) (fun w4 => ?_))
        have h4 := h4 w4
        refine pw_p (pw_if (by decide) (fun _ _ => al_r43) (fun w4 => ?_) (fun w4 => ?_))
        · have h4 := h4.1 w4
          exact h4
        · have h4 := h4.2 w4
          refine pw_p (pw_seg (by decide) (fun _ _ => al_r44) ?_)
          refine pw_p (pw_lald (by rfl) (cx_getJ (show cx_Ds[40]? = some (1, 900, []) from rfl)) (fun w5 => ?_))
          have h5 := h4 w5
          refine pw_p (pw_seg (by decide) (fun _ _ => al_r45) ?_)
          refine pw_p (pw_lald (by rfl) (cx_getJ (show cx_Ds[39]? = some (1, 900, []) from rfl)) (fun w5 => ?_))
          have h5 := h5 w5
          refine pw_p (pw_if (by decide) (fun _ _ => al_r46) (fun w5 => ?_) (fun w5 => ?_))
          · have h5 := h5.1 w5
            exact h5
          · have h5 := h5.2 w5
            exact h5
set_option maxRecDepth 100000 in
theorem al_r47 {a0 : Int64} {a1 : Int32} {a2 : Int32} {a3 : Int32} {a4 : Int32} {a5 : Int32} {a6 : Int32} {a7 : Int32} : ∀ G : ez_F, fx_up X 5 G 167 239 [.ref 35, .long a0, ez_fill, .int a1, .int a2, .int a3, .int a4, .int a5, .int a6, .int a7] [] (ev_hp I J R T) cz kz = G 167 248 [.ref 35, .long a0, ez_fill, .int a1, .int a2, .int a3, .int a4, .int a5, .int a6, .int a7] [.int (I 35 14), .int (3 : Int32), .ref 41] (ev_hp I J R T) cz kz := by
  intro G
  rfl
set_option maxRecDepth 100000 in
theorem al_r48 {a0 : Int64} {a1 : Int32} {a2 : Int32} {a3 : Int32} {a4 : Int32} {a5 : Int32} {a6 : Int32} {a7 : Int32} {a8 : Int32} {a9 : Int32} : ∀ G : ez_F, fx_up X 2 G 167 248 [.ref 35, .long a0, ez_fill, .int a1, .int a2, .int a3, .int a4, .int a5, .int a6, .int a7] [.int a8, .int a9, .ref 41] (ev_hp I J R T) cz kz = G 167 251 [.ref 35, .long a0, ez_fill, .int a1, .int a2, .int a3, .int a4, .int a5, .int a6, .int a7] [.int a4, .int (a9 * a8), .ref 41] (ev_hp I J R T) cz kz := by
  intro G
  rfl
set_option maxRecDepth 100000 in
theorem al_r49 {a0 : Int64} {a1 : Int32} {a2 : Int32} {a3 : Int32} {a4 : Int32} {a5 : Int32} {a6 : Int32} {a7 : Int32} : ∀ G : ez_F, fx_up X 5 G 167 252 [.ref 35, .long a0, ez_fill, .int a1, .int a2, .int a3, .int a4, .int a5, .int a6, .int a7] [] (ev_hp I J R T) cz kz = G 167 261 [.ref 35, .long a0, ez_fill, .int a1, .int a2, .int a3, .int a4, .int a5, .int a6, .int a7] [.int (I 35 14), .int (3 : Int32), .ref 41] (ev_hp I J R T) cz kz := by
  intro G
  rfl
set_option maxRecDepth 100000 in
theorem al_r50 {a0 : Int64} {a1 : Int32} {a2 : Int32} {a3 : Int32} {a4 : Int32} {a5 : Int32} {a6 : Int32} {a7 : Int32} {a8 : Int32} {a9 : Int32} : ∀ G : ez_F, fx_up X 4 G 167 261 [.ref 35, .long a0, ez_fill, .int a1, .int a2, .int a3, .int a4, .int a5, .int a6, .int a7] [.int a8, .int a9, .ref 41] (ev_hp I J R T) cz kz = G 167 266 [.ref 35, .long a0, ez_fill, .int a1, .int a2, .int a3, .int a4, .int a5, .int a6, .int a7] [.int a5, .int ((a9 * a8) + (1 : Int32)), .ref 41] (ev_hp I J R T) cz kz := by
  intro G
  rfl
set_option maxRecDepth 100000 in
theorem al_r51 {a0 : Int64} {a1 : Int32} {a2 : Int32} {a3 : Int32} {a4 : Int32} {a5 : Int32} {a6 : Int32} {a7 : Int32} : ∀ G : ez_F, fx_up X 5 G 167 267 [.ref 35, .long a0, ez_fill, .int a1, .int a2, .int a3, .int a4, .int a5, .int a6, .int a7] [] (ev_hp I J R T) cz kz = G 167 276 [.ref 35, .long a0, ez_fill, .int a1, .int a2, .int a3, .int a4, .int a5, .int a6, .int a7] [.int (I 35 14), .int (3 : Int32), .ref 41] (ev_hp I J R T) cz kz := by
  intro G
  rfl
set_option maxRecDepth 100000 in
theorem al_r52 {a0 : Int64} {a1 : Int32} {a2 : Int32} {a3 : Int32} {a4 : Int32} {a5 : Int32} {a6 : Int32} {a7 : Int32} {a8 : Int32} {a9 : Int32} : ∀ G : ez_F, fx_up X 4 G 167 276 [.ref 35, .long a0, ez_fill, .int a1, .int a2, .int a3, .int a4, .int a5, .int a6, .int a7] [.int a8, .int a9, .ref 41] (ev_hp I J R T) cz kz = G 167 281 [.ref 35, .long a0, ez_fill, .int a1, .int a2, .int a3, .int a4, .int a5, .int a6, .int a7] [.int a7, .int ((a9 * a8) + (2 : Int32)), .ref 41] (ev_hp I J R T) cz kz := by
  intro G
  rfl
set_option maxRecDepth 100000 in
theorem al_r53 {a0 : Int64} {a1 : Int32} {a2 : Int32} {a3 : Int32} {a4 : Int32} {a5 : Int32} {a6 : Int32} {a7 : Int32} : ∀ G : ez_F, fx_up X 3 G 167 282 [.ref 35, .long a0, ez_fill, .int a1, .int a2, .int a3, .int a4, .int a5, .int a6, .int a7] [] (ev_hp I J R T) cz kz = G 167 287 [.ref 35, .long a0, ez_fill, .int a1, .int a2, .int a3, .int a4, .int a5, .int a6, .int a7] [.int (I 35 14), .ref 35] (ev_hp I J R T) cz kz := by
  intro G
  rfl
set_option maxRecDepth 100000 in
theorem al_r54 {a0 : Int64} {a1 : Int32} {a2 : Int32} {a3 : Int32} {a4 : Int32} {a5 : Int32} {a6 : Int32} {a7 : Int32} {a8 : Int32} : ∀ G : ez_F, fx_up X 3 G 167 287 [.ref 35, .long a0, ez_fill, .int a1, .int a2, .int a3, .int a4, .int a5, .int a6, .int a7] [.int a8, .ref 35] (ev_hp I J R T) cz kz = G 167 292 [.ref 35, .long a0, ez_fill, .int a1, .int a2, .int a3, .int a4, .int a5, .int a6, .int a7] [] (ev_hp (ev_sI I 35 (upd (I 35) 14 (a8 + (1 : Int32)))) J R T) cz kz := by
  intro G
  rfl
theorem al_239 {al : Int64} {m0 m1 m2 a b c : Nat} {x : Int32}
    (H : (ev_ix ((3 : Int32) * (I 35 14)) 30003 → (ev_ix (((3 : Int32) * (I 35 14)) + (1 : Int32)) 30003 → (ev_ix (((3 : Int32) * (I 35 14)) + (2 : Int32)) 30003 → pw N X 167 292 [.ref 35, .long al, ez_fill, .int (Int32.ofNat m0), .int (Int32.ofNat m1), .int (Int32.ofNat m2), .int (Int32.ofNat a), .int (Int32.ofNat b), .int x, .int (Int32.ofNat c)] [] (ev_hp (ev_sI (ev_sI (ev_sI (ev_sI I 41 (upd (I 41) (((3 : Int32) * (I 35 14)).toNatClampNeg) (Int32.ofNat a))) 41 (upd (upd (I 41) (((3 : Int32) * (I 35 14)).toNatClampNeg) (Int32.ofNat a)) ((((3 : Int32) * (I 35 14)) + (1 : Int32)).toNatClampNeg) (Int32.ofNat b))) 41 (upd (upd (upd (I 41) (((3 : Int32) * (I 35 14)).toNatClampNeg) (Int32.ofNat a)) ((((3 : Int32) * (I 35 14)) + (1 : Int32)).toNatClampNeg) (Int32.ofNat b)) ((((3 : Int32) * (I 35 14)) + (2 : Int32)).toNatClampNeg) (Int32.ofNat c))) 35 (upd (I 35) 14 ((I 35 14) + (1 : Int32)))) J R T) Q)))) : pw (N + 1) X 167 239 [.ref 35, .long al, ez_fill, .int (Int32.ofNat m0), .int (Int32.ofNat m1), .int (Int32.ofNat m2), .int (Int32.ofNat a), .int (Int32.ofNat b), .int x, .int (Int32.ofNat c)] [] (ev_hp I J R T) Q := by
  refine pw_seg (by decide) (fun _ _ => al_r47) ?_
  refine pw_p (pw_seg (by decide) (fun _ _ => al_r48) ?_)
  refine pw_p (pw_iast (by rfl) (cx_getI (show cx_Ds[41]? = some (0, 30003, []) from rfl)) (cx_setI (show cx_Ds[41]? = some (0, 30003, []) from rfl) _) (fun w1 => ?_))
  have h1 := H w1
  refine pw_p (pw_seg (by decide) (fun _ _ => al_r49) ?_)
  refine pw_p (pw_seg (by decide) (fun _ _ => al_r50) ?_)
  refine pw_p (pw_iast (by rfl) (cx_getI (show cx_Ds[41]? = some (0, 30003, []) from rfl)) (cx_setI (show cx_Ds[41]? = some (0, 30003, []) from rfl) _) (fun w1 => ?_))
  have h1 := h1 w1
  refine pw_p (pw_seg (by decide) (fun _ _ => al_r51) ?_)
  refine pw_p (pw_seg (by decide) (fun _ _ => al_r52) ?_)
  refine pw_p (pw_iast (by rfl) (cx_getI (show cx_Ds[41]? = some (0, 30003, []) from rfl)) (cx_setI (show cx_Ds[41]? = some (0, 30003, []) from rfl) _) (fun w1 => ?_))
  have h1 := h1 w1
  refine pw_p (pw_seg (by decide) (fun _ _ => al_r53) ?_)
  refine pw_p (pw_seg (by decide) (fun _ _ => al_r54) ?_)
  exact h1
set_option maxRecDepth 100000 in
theorem al_r55 {a0 : Int64} {a1 : Int32} {a2 : Int32} {a3 : Int32} {a4 : Int32} {a5 : Int32} {a6 : Int32} {a7 : Int32} : ∀ G : ez_F, fx_up X 2 G 167 292 [.ref 35, .long a0, ez_fill, .int a1, .int a2, .int a3, .int a4, .int a5, .int a6, .int a7] [] (ev_hp I J R T) cz kz = G 167 167 [.ref 35, .long a0, ez_fill, .int a1, .int a2, .int a3, .int a4, .int a5, .int a6, .int (a7 + (1 : Int32))] [] (ev_hp I J R T) cz kz := by
  intro G
  rfl
theorem al_292 {al : Int64} {m0 m1 m2 a b c : Nat} {x : Int32}
    (H : pw N X 167 167 [.ref 35, .long al, ez_fill, .int (Int32.ofNat m0), .int (Int32.ofNat m1), .int (Int32.ofNat m2), .int (Int32.ofNat a), .int (Int32.ofNat b), .int x, .int ((Int32.ofNat c) + (1 : Int32))] [] (ev_hp I J R T) Q) : pw (N + 1) X 167 292 [.ref 35, .long al, ez_fill, .int (Int32.ofNat m0), .int (Int32.ofNat m1), .int (Int32.ofNat m2), .int (Int32.ofNat a), .int (Int32.ofNat b), .int x, .int (Int32.ofNat c)] [] (ev_hp I J R T) Q := by
  refine pw_seg (by decide) (fun _ _ => al_r55) ?_
  exact H
set_option maxRecDepth 100000 in
theorem al_r56 {a0 : Int64} {a1 : Int32} {a2 : Int32} {a3 : Int32} {a4 : Int32} {a5 : Int32} {a6 : Int32} {a7 : Int32} : ∀ G : ez_F, fx_up X 2 G 167 298 [.ref 35, .long a0, ez_fill, .int a1, .int a2, .int a3, .int a4, .int a5, .int a6, .int a7] [] (ev_hp I J R T) cz kz = G 167 118 [.ref 35, .long a0, ez_fill, .int a1, .int a2, .int a3, .int a4, .int (a5 + (1 : Int32)), .int a6, .int a7] [] (ev_hp I J R T) cz kz := by
  intro G
  rfl
theorem al_298 {al : Int64} {m0 m1 m2 a b c : Nat} {x : Int32}
    (H : pw N X 167 118 [.ref 35, .long al, ez_fill, .int (Int32.ofNat m0), .int (Int32.ofNat m1), .int (Int32.ofNat m2), .int (Int32.ofNat a), .int ((Int32.ofNat b) + (1 : Int32))] [] (ev_hp I J R T) Q) : pw (N + 1) X 167 298 [.ref 35, .long al, ez_fill, .int (Int32.ofNat m0), .int (Int32.ofNat m1), .int (Int32.ofNat m2), .int (Int32.ofNat a), .int (Int32.ofNat b), .int x, .int (Int32.ofNat c)] [] (ev_hp I J R T) Q := by
  refine pw_seg (by decide) (fun _ _ => al_r56) ?_
  refine pw_cutl (by rfl) ?_
  exact H
set_option maxRecDepth 100000 in
theorem al_r57 {a0 : Int64} {a1 : Int32} {a2 : Int32} {a3 : Int32} {a4 : Int32} {a5 : Int32} : ∀ G : ez_F, fx_up X 2 G 167 304 [.ref 35, .long a0, ez_fill, .int a1, .int a2, .int a3, .int a4, .int a5] [] (ev_hp I J R T) cz kz = G 167 109 [.ref 35, .long a0, ez_fill, .int a1, .int a2, .int a3, .int (a4 + (1 : Int32)), .int a5] [] (ev_hp I J R T) cz kz := by
  intro G
  rfl
theorem al_304 {al : Int64} {m0 m1 m2 a b : Nat}
    (H : pw N X 167 109 [.ref 35, .long al, ez_fill, .int (Int32.ofNat m0), .int (Int32.ofNat m1), .int (Int32.ofNat m2), .int ((Int32.ofNat a) + (1 : Int32))] [] (ev_hp I J R T) Q) : pw (N + 1) X 167 304 [.ref 35, .long al, ez_fill, .int (Int32.ofNat m0), .int (Int32.ofNat m1), .int (Int32.ofNat m2), .int (Int32.ofNat a), .int (Int32.ofNat b)] [] (ev_hp I J R T) Q := by
  refine pw_seg (by decide) (fun _ _ => al_r57) ?_
  refine pw_cutl (by rfl) ?_
  exact H
end
def pr (n : Nat → Nat) : Nat → Nat
  | 0 => 1
  | s + 1 => pr n s * n s
def mm (n : Nat → Nat) (ns s : Nat) : Nat := if s < ns then n s else 1
theorem pr_mm (n : Nat → Nat) {ns : Nat} (h : ns ≤ 3) : mm n ns 0 * (mm n ns 1 * mm n ns 2) = pr n ns := by
  rcases (show ns = 0 ∨ ns = 1 ∨ ns = 2 ∨ ns = 3 by omega) with rfl | rfl | rfl | rfl
  · rfl
  · show n 0 * 1 = 1 * n 0
    rw [Nat.mul_one, Nat.one_mul]
  · show n 0 * (n 1 * 1) = 1 * n 0 * n 1
    rw [Nat.mul_one, Nat.one_mul]
  · show n 0 * (n 1 * n 2) = 1 * n 0 * n 1 * n 2
    rw [Nat.one_mul, Nat.mul_assoc]
theorem pr_le {n : Nat → Nat} : ∀ s, s ≤ 3 → (∀ k, k < s → n k ≤ 288) → pr n s ≤ 288 ^ s := by
  intro s
  induction s with
  | zero => exact fun _ _ => Nat.le_refl 1
  | succ s ih =>
    intro h1 h2
    unfold pr
    rw [Nat.pow_succ]
    exact Nat.mul_le_mul (ih (by omega) fun k hk => h2 k (by omega)) (h2 s (by omega))
def ml_row (f : Nat → Int32) (L : List ly_t) : Prop := ∀ (k : Nat) (h : k < L.length), f (3 * k) = Int32.ofNat L[k].1 ∧ f (3 * k + 1) = Int32.ofNat L[k].2.1 ∧ f (3 * k + 2) = Int32.ofNat L[k].2.2
theorem ml_row_add {f : Nat → Int32} {L : List ly_t} {a b c : Nat} (h : ml_row f L) : ml_row (upd (upd (upd f (3 * L.length) (Int32.ofNat a)) (3 * L.length + 1) (Int32.ofNat b)) (3 * L.length + 2) (Int32.ofNat c)) (L ++ [(a, b, c)]) := by
  intro k hk
  rw [List.length_append, List.length_singleton] at hk
  by_cases h2 : k < L.length
  · rw [List.getElem_append_left h2, upd_n _ _ (by omega), upd_n _ _ (by omega), upd_n _ _ (by omega), upd_n _ _ (by omega), upd_n _ _ (by omega), upd_n _ _ (by omega), upd_n _ _ (by omega), upd_n _ _ (by omega), upd_n _ _ (by omega)]
    exact h k h2
  · obtain rfl : k = L.length := by omega
    rw [upd_n _ _ (by omega), upd_n _ _ (by omega), upd_s, upd_n _ _ (by omega), upd_s, upd_s]
    simp
theorem sI_comm (I : Nat → Nat → Int32) {a b : Nat} (hab : a ≠ b) (f g : Nat → Int32) : ev_sI (ev_sI I a f) b g = ev_sI (ev_sI I b g) a f := by
  funext q
  by_cases h : q = a
  · subst h
    rw [cx_sI_n _ _ hab, cx_sI_s, cx_sI_s]
  · by_cases h2 : q = b
    · subst h2
      rw [cx_sI_s, cx_sI_n _ _ h, cx_sI_s]
    · rw [cx_sI_n _ _ h2, cx_sI_n _ _ h, cx_sI_n _ _ h, cx_sI_n _ _ h2]
/-- the rows of the first ships stand -/
def fnd (I : Nat → Nat → Int32) (J : Nat → Nat → Int64) (n : Nat → Nat) (f g : Nat → Nat → Int64) (s : Nat) (I' : Nat → Nat → Int32) (J' : Nat → Nat → Int64) : Prop := (∀ a, a ≠ 38 → I' a = I a) ∧ (∀ a, a ≠ 39 → a ≠ 40 → J' a = J a) ∧ ∀ s', s' < s → I' 38 s' = Int32.ofNat (n s') ∧ ∀ a, a < n s' → J' 39 (300 * s' + a) = f s' a ∧ J' 40 (300 * s' + a) = g s' a
def lm_p (ns : Nat) (f g : Nat → Nat → Int64) (a b : Nat) : Bool := decide (ns < 2 ∨ g 0 a &&& f 1 b = 0)
def lm_q (ns : Nat) (f g : Nat → Nat → Int64) (a b c : Nat) : Bool := decide (ns < 3 ∨ (g 0 a &&& f 2 c = 0 ∧ g 1 b &&& f 2 c = 0))
def lm_L (ns : Nat) (n : Nat → Nat) (f g : Nat → Nat → Int64) : List ly_t := ly_1 (lm_p ns f g) (lm_q ns f g) (mm n ns 1) (mm n ns 2) (mm n ns 0)
def al_I (I' : Nat → Nat → Int32) (w : Nat → Int32) (k : Nat) : Nat → Nat → Int32 := ev_sI (ev_sI I' 41 w) 35 (upd (I' 35) 14 (Int32.ofNat k))
def al_Q (I : Nat → Nat → Int32) (J : Nat → Nat → Int64) (R : Nat → Nat) (T : List ez_C) (ns : Nat) (n : Nat → Nat) (f g : Nat → Nat → Int64) : pw_Q := fun r h => ∃ I' J', fnd I J n f g ns I' J' ∧ ((10000 < pr n ns ∧ r = some (.int 0) ∧ h = ev_hp I' J' R T) ∨
  (pr n ns ≤ 10000 ∧ r = some (.int 1) ∧ ∃ w, h = ev_hp (al_I I' w (lm_L ns n f g).length) J' R T ∧ ml_row w (lm_L ns n f g)))
section
variable {X : ez_X} {I I' : Nat → Nat → Int32} {J J' : Nat → Nat → Int64} {R : Nat → Nat} {T : List ez_C} {ns : Nat} {n : Nat → Nat} {f g : Nat → Nat → Int64} {al : Int64} {Q : pw_Q}
theorem al_add {w : Nat → Int32} {L : List ly_t} {a b c : Nat} (hL : L.length < 10000) (h : ml_row w L) : ∃ w', ev_sI (ev_sI (ev_sI (ev_sI (al_I I' w L.length) 41 (upd (al_I I' w L.length 41) (((3 : Int32) * (al_I I' w L.length 35 14)).toNatClampNeg) (Int32.ofNat a))) 41 (upd (upd (al_I I' w L.length 41) (((3 : Int32) * (al_I I' w L.length 35 14)).toNatClampNeg) (Int32.ofNat a)) ((((3 : Int32) * (al_I I' w L.length 35 14)) + (1 : Int32)).toNatClampNeg) (Int32.ofNat b))) 41
    (upd (upd (upd (al_I I' w L.length 41) (((3 : Int32) * (al_I I' w L.length 35 14)).toNatClampNeg) (Int32.ofNat a)) ((((3 : Int32) * (al_I I' w L.length 35 14)) + (1 : Int32)).toNatClampNeg) (Int32.ofNat b)) ((((3 : Int32) * (al_I I' w L.length 35 14)) + (2 : Int32)).toNatClampNeg) (Int32.ofNat c))) 35 (upd (al_I I' w L.length 35) 14 ((al_I I' w L.length 35 14) + (1 : Int32)))
    = al_I I' w' (L ++ [(a, b, c)]).length ∧ ml_row w' (L ++ [(a, b, c)]) := by
  have e35 : al_I I' w L.length 35 = upd (I' 35) 14 (Int32.ofNat L.length) := by unfold al_I; rw [cx_sI_s]
  have e41 : al_I I' w L.length 41 = w := by unfold al_I; rw [cx_sI_n _ _ (by decide), cx_sI_s]
  have e3 : (3 : Int32) * Int32.ofNat L.length = Int32.ofNat (3 * L.length) := io_mul 3 _
  rw [e35, e41, upd_s, e3, io_1, show (2 : Int32) = Int32.ofNat 2 from rfl, io_add, ix_cl (by omega), ix_cl (by omega), ix_cl (by omega), sI2, sI2, upd_2, io_1]
  refine ⟨_, ?_, ml_row_add h⟩
  unfold al_I
  rw [List.length_append, List.length_singleton, sI_comm (ev_sI I' 41 w) (show (35 : Nat) ≠ 41 by decide), sI2, sI2]
theorem al_loop3 (hns : ns ≤ 3) (h35 : I' 35 3 = Int32.ofNat ns) (hJ : ∀ s', s' < ns → ∀ a, a < n s' → J' 39 (300 * s' + a) = f s' a ∧ J' 40 (300 * s' + a) = g s' a) (hn : ∀ s, s < ns → n s ≤ 288) {a b : Nat} {L : List ly_t} (ha : a < mm n ns 0) (hb : b < mm n ns 1) (hL : L.length + mm n ns 2 ≤ 10000) (N : Nat)
    (cont : ∀ (w : Nat → Int32) (c : Nat), ml_row w (L ++ ly_3 (lm_q ns f g) a b (mm n ns 2)) → pw N X 167 298 [.ref 35, .long al, ez_fill, .int (Int32.ofNat (mm n ns 0)), .int (Int32.ofNat (mm n ns 1)), .int (Int32.ofNat (mm n ns 2)), .int (Int32.ofNat a), .int (Int32.ofNat b), .int (1 : Int32), .int (Int32.ofNat c)] [] (ev_hp (al_I I' w (L ++ ly_3 (lm_q ns f g) a b (mm n ns 2)).length) J' R T) Q) :
    ∀ (D c : Nat) (w : Nat → Int32), c + D = mm n ns 2 → ml_row w (L ++ ly_3 (lm_q ns f g) a b c) →
      pw N X 167 167 [.ref 35, .long al, ez_fill, .int (Int32.ofNat (mm n ns 0)), .int (Int32.ofNat (mm n ns 1)), .int (Int32.ofNat (mm n ns 2)), .int (Int32.ofNat a), .int (Int32.ofNat b), .int (1 : Int32), .int (Int32.ofNat c)] [] (ev_hp (al_I I' w (L ++ ly_3 (lm_q ns f g) a b c).length) J' R T) Q := by
  have hm : ∀ s, mm n ns s ≤ 288 := fun s => by
    unfold mm
    split
    · exact hn s (by assumption)
    · omega
  have e35 : ∀ (w : Nat → Int32) (k : Nat), al_I I' w k 35 3 = Int32.ofNat ns := fun w k => by
    unfold al_I
    rw [cx_sI_s, upd_n _ _ (by decide), h35]
  intro D
  induction D with
  | zero =>
    intro c w hc hw
    obtain rfl : c = mm n ns 2 := by omega
    exact pw_p (al_167 ⟨fun _ => cont w _ hw, fun z => absurd ((io_le (by have := hm 2; omega) (by have := hm 2; omega)).mpr (Nat.le_refl _)) z⟩)
  | succ D ih =>
    intro c w hc hw
    have h0 := hm 0
    have h1 := hm 1
    have h2 := hm 2
    have skip : lm_q ns f g a b c = false → pw N X 167 292 [.ref 35, .long al, ez_fill, .int (Int32.ofNat (mm n ns 0)), .int (Int32.ofNat (mm n ns 1)), .int (Int32.ofNat (mm n ns 2)), .int (Int32.ofNat a), .int (Int32.ofNat b), .int (1 : Int32), .int (Int32.ofNat c)] [] (ev_hp (al_I I' w (L ++ ly_3 (lm_q ns f g) a b c).length) J' R T) Q := by
      intro hq
      refine pw_p (al_292 ?_)
      rw [io_1]
      have e : ly_3 (lm_q ns f g) a b (c + 1) = ly_3 (lm_q ns f g) a b c := by
        rw [show ly_3 (lm_q ns f g) a b (c + 1) = ly_3 (lm_q ns f g) a b c ++ (bif lm_q ns f g a b c then [(a, b, c)] else []) from rfl, hq]
        simp
      have := ih (c + 1) w (by omega) (by rw [e]; exact hw)
      rw [e] at this
      exact this
    have take : lm_q ns f g a b c = true → pw N X 167 239 [.ref 35, .long al, ez_fill, .int (Int32.ofNat (mm n ns 0)), .int (Int32.ofNat (mm n ns 1)), .int (Int32.ofNat (mm n ns 2)), .int (Int32.ofNat a), .int (Int32.ofNat b), .int (1 : Int32), .int (Int32.ofNat c)] [] (ev_hp (al_I I' w (L ++ ly_3 (lm_q ns f g) a b c).length) J' R T) Q := by
      intro hq
      refine pw_p (al_239 fun _ _ _ => ?_)
      have e : L ++ ly_3 (lm_q ns f g) a b (c + 1) = (L ++ ly_3 (lm_q ns f g) a b c) ++ [(a, b, c)] := by
        rw [show ly_3 (lm_q ns f g) a b (c + 1) = ly_3 (lm_q ns f g) a b c ++ (bif lm_q ns f g a b c then [(a, b, c)] else []) from rfl, hq, List.append_assoc]
        rfl
      have hlen : (L ++ ly_3 (lm_q ns f g) a b c).length < 10000 := by
        rw [List.length_append]
        have := ly_3l (lm_q ns f g) a b c
        omega
      obtain ⟨w', e1, e2⟩ := al_add (I' := I') (a := a) (b := b) (c := c) hlen hw
      rw [e1]
      refine pw_p (al_292 ?_)
      rw [io_1]
      have := ih (c + 1) w' (by omega) (by rw [e]; exact e2)
      rw [e] at this
      exact this
    refine pw_p (al_167 ⟨fun z => ?_, fun _ => ⟨fun z => absurd z (by decide), fun _ => ⟨fun z => ?_, fun z _ _ => ⟨fun z2 => ?_, fun z2 _ _ => ⟨fun z3 => ?_, fun z3 => ?_⟩⟩⟩⟩⟩)
    · rw [io_le (by omega) (by omega)] at z
      omega
    · rw [e35, show (3 : Int32) = Int32.ofNat 3 from rfl, io_lt (by omega) (by omega)] at z
      exact take (decide_eq_true (Or.inl z))
    · rw [e35, show (3 : Int32) = Int32.ofNat 3 from rfl, io_lt (by omega) (by omega)] at z
      have hs3 : ns = 3 := by omega
      subst hs3
      rw [lg_eq, ix_cl (by omega), show (600 : Int32) = Int32.ofNat 600 from rfl, io_add, ix_cl (by omega)] at z2
      have j0 := (hJ 0 (by decide) a ha).2
      have em2 : mm n 3 2 = n 2 := rfl
      have j2 := (hJ 2 (by decide) c (by omega)).1
      rw [show 300 * 0 + a = a by omega] at j0
      rw [show 300 * 2 + c = 600 + c by omega] at j2
      rw [j0, j2] at z2
      exact skip (decide_eq_false fun o => o.elim (fun h => z h) fun h => z2 h.1)
    · rw [e35, show (3 : Int32) = Int32.ofNat 3 from rfl, io_lt (by omega) (by omega)] at z
      have hs3 : ns = 3 := by omega
      subst hs3
      rw [lg_eq, show (300 : Int32) = Int32.ofNat 300 from rfl, io_add, ix_cl (by omega), show (600 : Int32) = Int32.ofNat 600 from rfl, io_add, ix_cl (by omega)] at z3
      have j1 := (hJ 1 (by decide) b hb).2
      have em2 : mm n 3 2 = n 2 := rfl
      have j2 := (hJ 2 (by decide) c (by omega)).1
      rw [show 300 * 1 + b = 300 + b by omega] at j1
      rw [show 300 * 2 + c = 600 + c by omega] at j2
      rw [j1, j2] at z3
      exact skip (decide_eq_false fun o => o.elim (fun h => z h) fun h => z3 h.2)
    · rw [e35, show (3 : Int32) = Int32.ofNat 3 from rfl, io_lt (by omega) (by omega)] at z
      have hs3 : ns = 3 := by omega
      subst hs3
      have z2 := Classical.not_not.mp z2
      have z3 := Classical.not_not.mp z3
      rw [lg_eq, ix_cl (by omega), show (600 : Int32) = Int32.ofNat 600 from rfl, io_add, ix_cl (by omega)] at z2
      rw [lg_eq, show (300 : Int32) = Int32.ofNat 300 from rfl, io_add, ix_cl (by omega), show (600 : Int32) = Int32.ofNat 600 from rfl, io_add, ix_cl (by omega)] at z3
      have j0 := (hJ 0 (by decide) a ha).2
      have j1 := (hJ 1 (by decide) b hb).2
      have em2 : mm n 3 2 = n 2 := rfl
      have j2 := (hJ 2 (by decide) c (by omega)).1
      rw [show 300 * 0 + a = a by omega] at j0
      rw [show 300 * 1 + b = 300 + b by omega] at j1
      rw [show 300 * 2 + c = 600 + c by omega] at j2
      rw [j0, j2] at z2
      rw [j1, j2] at z3
      exact take (decide_eq_true (Or.inr ⟨z2, z3⟩))
theorem mm_le (hn : ∀ s, s < ns → n s ≤ 288) (s : Nat) : mm n ns s ≤ 288 := by
  unfold mm
  split
  · exact hn s (by assumption)
  · omega
theorem al_35 (h35 : I' 35 3 = Int32.ofNat ns) (w : Nat → Int32) (k : Nat) : al_I I' w k 35 3 = Int32.ofNat ns := by
  unfold al_I
  rw [cx_sI_s, upd_n _ _ (by decide), h35]
theorem al_loop2 (hns : ns ≤ 3) (h35 : I' 35 3 = Int32.ofNat ns) (hJ : ∀ s', s' < ns → ∀ a, a < n s' → J' 39 (300 * s' + a) = f s' a ∧ J' 40 (300 * s' + a) = g s' a) (hn : ∀ s, s < ns → n s ≤ 288) {a : Nat} {L : List ly_t} (ha : a < mm n ns 0) (hL : L.length + mm n ns 1 * mm n ns 2 ≤ 10000) (N : Nat)
    (cont : ∀ (w : Nat → Int32) (b : Nat), ml_row w (L ++ ly_2 (lm_p ns f g) (lm_q ns f g) (mm n ns 2) a (mm n ns 1)) → pw N X 167 304 [.ref 35, .long al, ez_fill, .int (Int32.ofNat (mm n ns 0)), .int (Int32.ofNat (mm n ns 1)), .int (Int32.ofNat (mm n ns 2)), .int (Int32.ofNat a), .int (Int32.ofNat b)] [] (ev_hp (al_I I' w (L ++ ly_2 (lm_p ns f g) (lm_q ns f g) (mm n ns 2) a (mm n ns 1)).length) J' R T) Q) :
    ∀ (D b : Nat) (w : Nat → Int32), b + D = mm n ns 1 → ml_row w (L ++ ly_2 (lm_p ns f g) (lm_q ns f g) (mm n ns 2) a b) →
      pw N X 167 118 [.ref 35, .long al, ez_fill, .int (Int32.ofNat (mm n ns 0)), .int (Int32.ofNat (mm n ns 1)), .int (Int32.ofNat (mm n ns 2)), .int (Int32.ofNat a), .int (Int32.ofNat b)] [] (ev_hp (al_I I' w (L ++ ly_2 (lm_p ns f g) (lm_q ns f g) (mm n ns 2) a b).length) J' R T) Q := by
  have h0 := mm_le hn 0
  have h1 := mm_le hn 1
  have h2 := mm_le hn 2
  intro D
  induction D with
  | zero =>
    intro b w hb hw
    obtain rfl : b = mm n ns 1 := by omega
    exact pw_p (al_118 ⟨fun _ => cont w _ hw, fun z => absurd ((io_le (by omega) (by omega)).mpr (Nat.le_refl _)) z⟩)
  | succ D ih =>
    intro b w hb hw
    have hlen : (L ++ ly_2 (lm_p ns f g) (lm_q ns f g) (mm n ns 2) a b).length + mm n ns 2 ≤ 10000 := by
      rw [List.length_append]
      have h5 := ly_2l (lm_p ns f g) (lm_q ns f g) (mm n ns 2) a b
      have h6 : (b + 1) * mm n ns 2 ≤ mm n ns 1 * mm n ns 2 := Nat.mul_le_mul_right _ (by omega)
      rw [Nat.succ_mul] at h6
      omega
    have no : lm_p ns f g a b = false → pw N X 167 162 [.ref 35, .long al, ez_fill, .int (Int32.ofNat (mm n ns 0)), .int (Int32.ofNat (mm n ns 1)), .int (Int32.ofNat (mm n ns 2)), .int (Int32.ofNat a), .int (Int32.ofNat b)] [.int (0 : Int32)] (ev_hp (al_I I' w (L ++ ly_2 (lm_p ns f g) (lm_q ns f g) (mm n ns 2) a b).length) J' R T) Q := by
      intro hp
      have e : ly_2 (lm_p ns f g) (lm_q ns f g) (mm n ns 2) a (b + 1) = ly_2 (lm_p ns f g) (lm_q ns f g) (mm n ns 2) a b := by
        rw [show ly_2 (lm_p ns f g) (lm_q ns f g) (mm n ns 2) a (b + 1) = ly_2 (lm_p ns f g) (lm_q ns f g) (mm n ns 2) a b ++ (bif lm_p ns f g a b then ly_3 (lm_q ns f g) a b (mm n ns 2) else []) from rfl, hp]
        simp
      have go : pw N X 167 298 [.ref 35, .long al, ez_fill, .int (Int32.ofNat (mm n ns 0)), .int (Int32.ofNat (mm n ns 1)), .int (Int32.ofNat (mm n ns 2)), .int (Int32.ofNat a), .int (Int32.ofNat b), .int (0 : Int32), .int (Int32.ofNat 0)] [] (ev_hp (al_I I' w (L ++ ly_2 (lm_p ns f g) (lm_q ns f g) (mm n ns 2) a b).length) J' R T) Q := by
        refine pw_p (al_298 ?_)
        rw [io_1]
        have := ih (b + 1) w (by omega) (by rw [e]; exact hw)
        rw [e] at this
        exact this
      refine pw_p (al_162 ?_)
      exact pw_p (al_167 (c := 0) ⟨fun _ => go, fun _ => ⟨fun _ => go, fun z => absurd rfl z⟩⟩)
    have yes : lm_p ns f g a b = true → pw N X 167 162 [.ref 35, .long al, ez_fill, .int (Int32.ofNat (mm n ns 0)), .int (Int32.ofNat (mm n ns 1)), .int (Int32.ofNat (mm n ns 2)), .int (Int32.ofNat a), .int (Int32.ofNat b)] [.int (1 : Int32)] (ev_hp (al_I I' w (L ++ ly_2 (lm_p ns f g) (lm_q ns f g) (mm n ns 2) a b).length) J' R T) Q := by
      intro hp
      have e : L ++ ly_2 (lm_p ns f g) (lm_q ns f g) (mm n ns 2) a (b + 1) = (L ++ ly_2 (lm_p ns f g) (lm_q ns f g) (mm n ns 2) a b) ++ ly_3 (lm_q ns f g) a b (mm n ns 2) := by
        rw [show ly_2 (lm_p ns f g) (lm_q ns f g) (mm n ns 2) a (b + 1) = ly_2 (lm_p ns f g) (lm_q ns f g) (mm n ns 2) a b ++ (bif lm_p ns f g a b then ly_3 (lm_q ns f g) a b (mm n ns 2) else []) from rfl, hp, List.append_assoc]
        rfl
      refine pw_p (al_162 ?_)
      have h3 := al_loop3 (X := X) (R := R) (T := T) (al := al) (Q := Q) hns h35 hJ hn ha (show b < mm n ns 1 by omega) hlen N (fun w' c hw' => ?_) (mm n ns 2) 0 w (by omega) (by unfold ly_3; rw [List.append_nil]; exact hw)
      · unfold ly_3 at h3
        rw [List.append_nil] at h3
        exact h3
      · refine pw_p (al_298 ?_)
        rw [io_1]
        have := ih (b + 1) w' (by omega) (by rw [e]; exact hw')
        rw [e] at this
        exact this
    refine pw_p (al_118 ⟨fun z => ?_, fun _ => ⟨fun z => ?_, fun z _ _ => ⟨fun z2 => ?_, fun z2 => ?_⟩⟩⟩)
    · rw [io_le (by omega) (by omega)] at z
      omega
    · rw [al_35 h35, show (2 : Int32) = Int32.ofNat 2 from rfl, io_lt (by omega) (by omega)] at z
      exact yes (decide_eq_true (Or.inl z))
    · rw [al_35 h35, show (2 : Int32) = Int32.ofNat 2 from rfl, io_lt (by omega) (by omega)] at z
      rw [lg_eq, ix_cl (by omega), show (300 : Int32) = Int32.ofNat 300 from rfl, io_add, ix_cl (by omega)] at z2
      have j0 := (hJ 0 (by omega) a (by unfold mm at ha; rw [if_pos (by omega)] at ha; exact ha)).2
      have j1 := (hJ 1 (by omega) b (by have hb2 : b < mm n ns 1 := by omega
                                        unfold mm at hb2; rw [if_pos (by omega)] at hb2; exact hb2)).1
      rw [show 300 * 0 + a = a by omega] at j0
      rw [show 300 * 1 + b = 300 + b by omega] at j1
      rw [j0, j1] at z2
      exact no (decide_eq_false fun o => o.elim (fun h => z h) z2)
    · rw [al_35 h35, show (2 : Int32) = Int32.ofNat 2 from rfl, io_lt (by omega) (by omega)] at z
      have z2 := Classical.not_not.mp z2
      rw [lg_eq, ix_cl (by omega), show (300 : Int32) = Int32.ofNat 300 from rfl, io_add, ix_cl (by omega)] at z2
      have j0 := (hJ 0 (by omega) a (by unfold mm at ha; rw [if_pos (by omega)] at ha; exact ha)).2
      have j1 := (hJ 1 (by omega) b (by have hb2 : b < mm n ns 1 := by omega
                                        unfold mm at hb2; rw [if_pos (by omega)] at hb2; exact hb2)).1
      rw [show 300 * 0 + a = a by omega] at j0
      rw [show 300 * 1 + b = 300 + b by omega] at j1
      rw [j0, j1] at z2
      exact yes (decide_eq_true (Or.inr z2))
theorem al_loop1 (hns : ns ≤ 3) (h35 : I' 35 3 = Int32.ofNat ns) (hJ : ∀ s', s' < ns → ∀ a, a < n s' → J' 39 (300 * s' + a) = f s' a ∧ J' 40 (300 * s' + a) = g s' a) (hn : ∀ s, s < ns → n s ≤ 288) (hP : pr n ns ≤ 10000) (N : Nat)
    (fin : ∀ w : Nat → Int32, ml_row w (lm_L ns n f g) → Q (some (.int (1 : Int32))) (ev_hp (al_I I' w (lm_L ns n f g).length) J' R T)) :
    ∀ (D a : Nat) (w : Nat → Int32), a + D = mm n ns 0 → ml_row w (ly_1 (lm_p ns f g) (lm_q ns f g) (mm n ns 1) (mm n ns 2) a) →
      pw N X 167 109 [.ref 35, .long al, ez_fill, .int (Int32.ofNat (mm n ns 0)), .int (Int32.ofNat (mm n ns 1)), .int (Int32.ofNat (mm n ns 2)), .int (Int32.ofNat a)] [] (ev_hp (al_I I' w (ly_1 (lm_p ns f g) (lm_q ns f g) (mm n ns 1) (mm n ns 2) a).length) J' R T) Q := by
  have h0 := mm_le hn 0
  rw [← pr_mm n hns] at hP
  intro D
  induction D with
  | zero =>
    intro a w ha hw
    obtain rfl : a = mm n ns 0 := by omega
    exact pw_p (al_109 ⟨fun _ _ => fin w hw, fun z => absurd ((io_le (by omega) (by omega)).mpr (Nat.le_refl _)) z⟩)
  | succ D ih =>
    intro a w ha hw
    have hlen : (ly_1 (lm_p ns f g) (lm_q ns f g) (mm n ns 1) (mm n ns 2) a).length + mm n ns 1 * mm n ns 2 ≤ 10000 := by
      have h5 := ly_1l (lm_p ns f g) (lm_q ns f g) (mm n ns 1) (mm n ns 2) a
      have h6 : (a + 1) * (mm n ns 1 * mm n ns 2) ≤ mm n ns 0 * (mm n ns 1 * mm n ns 2) := Nat.mul_le_mul_right _ (by omega)
      rw [Nat.succ_mul] at h6
      omega
    refine pw_p (al_109 ⟨fun z => ?_, fun _ => ?_⟩)
    · rw [io_le (by omega) (by omega)] at z
      omega
    · have h3 := al_loop2 (X := X) (R := R) (T := T) (al := al) (Q := Q) hns h35 hJ hn (show a < mm n ns 0 by omega) hlen N (fun w' b hw' => ?_) (mm n ns 1) 0 w (by omega) (by unfold ly_2; rw [List.append_nil]; exact hw)
      · unfold ly_2 at h3
        rw [List.append_nil] at h3
        exact h3
      · refine pw_p (al_304 ?_)
        rw [io_1]
        exact ih (a + 1) w' (by omega) hw'
theorem l_nat {k : Nat} (h : k < 65536) : (Int32.ofNat k).toInt64 = Int64.ofNat k := Int64.toInt_inj.mp (by rw [Int32.toInt_toInt64, Int32.toInt_ofNat_of_lt (by omega), Int64.toInt_ofNat_of_lt (by omega)])
theorem pe_areLaid (hB : cx_hB cx_B0 I) (hns : ns ≤ 3) (h35 : I 35 3 = Int32.ofNat ns) (hn : ∀ s, s < ns → n s ≤ 288) (hr : ∀ s, s < ns → mr_row I s (n s) (f s)) (hg : ∀ s a, s < ns → a < n s → g s a = ab_F (I 35 0) (I 35 1) (I 35 2) (I 35 6) (f s a)) (N : Nat) :
    pe N X 167 [.ref 35] (ev_hp I J R T) (al_Q I J R T ns n f g) := by
  -- behind the spots
  have rest : ∀ I' J' (s : Int32), fnd I J n f g ns I' J' → pw N X 167 33 [.ref 35, .long (Int64.ofNat (pr n ns)), ez_fill, .int s] [] (ev_hp I' J' R T) (al_Q I J R T ns n f g) := by
    intro I' J' s hf
    obtain ⟨f1, f2, f3⟩ := hf
    have e35 : I' 35 3 = Int32.ofNat ns := by rw [f1 35 (by decide)]; exact h35
    have hP := pr_le (n := n) ns hns hn
    have hP2 : (288 : Nat) ^ ns ≤ 288 ^ 3 := Nat.pow_le_pow_right (by decide) hns
    have hP3 : (288 : Nat) ^ 3 = 23887872 := by decide
    have el : (Int64.ofNat (pr n ns)).toInt = pr n ns := Int64.toInt_ofNat_of_lt (by omega)
    have i0 : ev_sI I' 35 (upd (I' 35) 14 (0 : Int32)) = al_I I' (I' 41) 0 := by
      unfold al_I
      rw [sI_self]
      rfl
    refine pw_p (al_33 ?_)
    rw [lg_le, el, show (10000 : Int64).toInt = 10000 from by decide]
    have e38 : ∀ s', s' < ns → I' 38 s' = Int32.ofNat (n s') := fun s' hs => (f3 s' hs).1
    have ai : ∀ q, q ≠ 41 → q ≠ 35 → al_I I' (I' 41) 0 q = I' q := fun q h1 h2 => by unfold al_I; rw [cx_sI_n _ _ h2, cx_sI_n _ _ h1]
    have ae : al_I I' (I' 41) 0 35 3 = Int32.ofNat ns := al_35 e35 _ _
    -- from the sizes on
    have go : pr n ns ≤ 10000 → pw N X 167 65 [.ref 35, .long (Int64.ofNat (pr n ns)), ez_fill, .int s] [.int (Int32.ofNat (mm n ns 0))] (ev_hp (ev_sI I' 35 (upd (I' 35) 14 (0 : Int32))) J' R T) (al_Q I J R T ns n f g) := by
      intro hP4
      rw [i0]
      have third : pw N X 167 104 [.ref 35, .long (Int64.ofNat (pr n ns)), ez_fill, .int (Int32.ofNat (mm n ns 0)), .int (Int32.ofNat (mm n ns 1))] [.int (Int32.ofNat (mm n ns 2))] (ev_hp (al_I I' (I' 41) 0) J' R T) (al_Q I J R T ns n f g) := by
        refine pw_p (al_104 ?_)
        exact al_loop1 (I' := I') hns e35 (fun s' hs a ha => (f3 s' hs).2 a ha) hn hP4 N (fun w hw => ⟨I', J', ⟨f1, f2, f3⟩, Or.inr ⟨hP4, rfl, w, rfl, hw⟩⟩) (mm n ns 0) 0 (I' 41) (by omega) (fun k hk => absurd hk (Nat.not_lt_zero k))
      have second : pw N X 167 84 [.ref 35, .long (Int64.ofNat (pr n ns)), ez_fill, .int (Int32.ofNat (mm n ns 0))] [.int (Int32.ofNat (mm n ns 1))] (ev_hp (al_I I' (I' 41) 0) J' R T) (al_Q I J R T ns n f g) := by
        refine pw_p (al_84 ?_)
        rw [ae, show (2 : Int32) = Int32.ofNat 2 from rfl, io_le (by omega) (by omega), ix_cl (by omega), ai 38 (by decide) (by decide)]
        refine ⟨fun z => ?_, fun z _ => ?_⟩
        · have e : mm n ns 2 = 1 := by unfold mm; rw [if_neg (by omega)]
          rw [e] at third
          exact third
        · have e : mm n ns 2 = n 2 := by unfold mm; rw [if_pos (by omega)]
          rw [e38 2 (by omega)]
          rw [e] at third
          exact third
      refine pw_p (al_65 ?_)
      rw [ae, show (1 : Int32) = Int32.ofNat 1 from rfl, io_le (by omega) (by omega), ix_cl (by omega), ai 38 (by decide) (by decide)]
      refine ⟨fun z => ?_, fun z _ => ?_⟩
      · have e : mm n ns 1 = 1 := by unfold mm; rw [if_neg (by omega)]
        rw [e] at second
        exact second
      · have e : mm n ns 1 = n 1 := by unfold mm; rw [if_pos (by omega)]
        rw [e38 1 (by omega), ← e]
        exact second
    refine ⟨fun z => ?_, fun z _ => ⟨I', J', ⟨f1, f2, f3⟩, Or.inl ⟨by omega, rfl, rfl⟩⟩⟩
    rw [e35, show (0 : Int32) = Int32.ofNat 0 from rfl, io_le (by omega) (by omega)]
    refine ⟨fun z2 => ?_, fun z2 _ => ?_⟩
    · have e : mm n ns 0 = 1 := by unfold mm; rw [if_neg (by omega)]
      have h := go (by omega)
      rw [e] at h
      exact h
    · have e : mm n ns 0 = n 0 := by unfold mm; rw [if_pos (by omega)]
      have h := go (by omega)
      rw [e] at h
      rw [ix_cl (by omega), e38 0 (by omega)]
      exact h
  -- the spots
  have find : ∀ (D s : Nat) I' J', s + D = ns → fnd I J n f g s I' J' → pw N X 167 4 [.ref 35, .long (Int64.ofNat (pr n s)), ez_fill, .int (Int32.ofNat s)] [] (ev_hp I' J' R T) (al_Q I J R T ns n f g) := by
    intro D
    induction D with
    | zero =>
      intro s I' J' hs hf
      obtain rfl : s = ns := by omega
      have e35 : I' 35 3 = Int32.ofNat s := by rw [hf.1 35 (by decide)]; exact h35
      refine pw_p (al_4 ⟨fun _ => rest I' J' _ hf, fun z => ?_⟩)
      rw [e35] at z
      exact absurd ((io_le (by omega) (by omega)).mpr (Nat.le_refl s)) z
    | succ D ih =>
      intro s I' J' hs hf
      have hf0 := hf
      obtain ⟨f1, f2, f3⟩ := hf
      have e35 : I' 35 3 = Int32.ofNat ns := by rw [f1 35 (by decide)]; exact h35
      have r35 : I' 35 = I 35 := f1 35 (by decide)
      refine pw_p (al_4 ⟨fun z => ?_, fun _ => ?_⟩)
      · rw [e35, io_le (by omega) (by omega)] at z
        omega
      have hW := hB 35 0
      have hH := hB 35 1
      have hwr := hB 35 2
      rw [show cx_B0 35 0 = (2, 6) from rfl] at hW
      rw [show cx_B0 35 1 = (2, 6) from rfl] at hH
      rw [show cx_B0 35 2 = (0, 1) from rfl] at hwr
      simp only at hW hH hwr
      have hwr := cx_01 hwr.1 hwr.2
      obtain ⟨sh, tn, ⟨g1, g2, g3, g4⟩, g5, g6, g7⟩ := hr s (by omega)
      refine ⟨_, pe_find (show s < 3 by omega) (by rw [r35]; exact hwr) (by rw [r35]; exact hW) (by rw [r35]; exact hH) g1 g2 (by rw [f1 36 (by decide)]; exact g3) (by rw [f1 37 (by decide)]; exact g4), ?_⟩
      rintro r h ⟨rfl, n', f', g', rfl, ⟨k1, k2, k3, k4⟩, k5, k6⟩
      rw [r35] at k3 k6
      obtain ⟨e1, e2⟩ := srt_same k1 g5 fun v => (k3 v).trans (g7 v).symm
      subst e1
      refine pw_p (al_17 fun _ => ?_)
      rw [cx_sI_s, ix_cl (by omega), upd_s, io_1, l_nat (by omega), ← Int64.ofNat_mul]
      refine ih (s + 1) _ _ (by omega) ⟨fun a ha => by rw [cx_sI_n _ _ ha]; exact f1 a ha, fun a h1 h2 => by rw [cx_sJ_n _ _ h2, cx_sJ_n _ _ h1]; exact f2 a h1 h2, fun s' hs' => ?_⟩
      rw [cx_sI_s, cx_sJ_n _ _ (show (39 : Nat) ≠ 40 by decide), cx_sJ_s, cx_sJ_s]
      by_cases he : s' = s
      · subst he
        refine ⟨upd_s _ _ _, fun a ha => ?_⟩
        have e3 : f' (300 * s' + a) = f s' a := by rw [e2 a ha, Nat.zero_add]
        exact ⟨e3, by rw [k6 a ha, e3, hg s' a (by omega) ha]⟩
      · obtain ⟨l1, l2⟩ := f3 s' (by omega)
        refine ⟨by rw [upd_n _ _ he]; exact l1, fun a ha => ?_⟩
        have hn' := hn s' (by omega)
        rw [k4 _ (by omega), k5 _ (by omega)]
        exact l2 a ha
  refine pe_of (pw_p (al_0 ?_))
  exact find ns 0 I J (Nat.zero_add ns) ⟨fun _ _ => rfl, fun _ _ _ => rfl, fun s' hs' => absurd hs' (Nat.not_lt_zero s')⟩
end
