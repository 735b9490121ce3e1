/-! The reference: cells about a set. -/
section
variable {N : Nat} {X : ez_X} {I : Nat → Nat → Int32} {J : Nat → Nat → Int64} {R : Nat → Nat} {T : List ez_C} {Q : pw_Q} {cz kz : Nat}
set_option maxRecDepth 100000 in
theorem ab_r0 {a0 : Int64} {a1 : Int32} : ∀ G : ez_F, fx_up X 4 G 165 0 [.ref 35, .long a0, ez_fill, .int a1] [] (ev_hp I J R T) cz kz = G 165 6 [.ref 35, .long a0, ez_fill, .int a1, .long a0, ez_fill, .int (0 : Int32)] [] (ev_hp I J R T) cz kz := by
  intro G
  rfl
theorem ab_0 {z : Int64} {far : Int32}
    (H : pw N X 165 6 [.ref 35, .long z, ez_fill, .int far, .long z, ez_fill, .int (0 : Int32)] [] (ev_hp I J R T) Q) : pw (N + 1) X 165 0 [.ref 35, .long z, ez_fill, .int far] [] (ev_hp I J R T) Q := by
  refine pw_seg (by decide) (fun _ _ => ab_r0) ?_
  exact H
set_option maxRecDepth 100000 in
theorem ab_r1 {a0 : Int64} {a1 : Int32} {a2 : Int64} {a3 : Int32} : ∀ G : ez_F, fx_up X 3 G 165 6 [.ref 35, .long a0, ez_fill, .int a1, .long a2, ez_fill, .int a3] [] (ev_hp I J R T) cz kz = ev_C G 179 [.ref 35] (ev_hp I J R T) fun r h1 c1 k1 => G 165 12 [.ref 35, .long a0, ez_fill, .int a1, .long a2, ez_fill, .int a3] (r.toList ++ [.int a3]) h1 (cz + c1) (kz + k1) := by
  intro G
  rfl
set_option maxRecDepth 100000 in
theorem ab_r2 {a0 : Int64} {a1 : Int32} {a2 : Int64} {a3 : Int32} {a4 : Int32} {a5 : Int32} : ∀ G : ez_F, fx_up X 1 G 165 12 [.ref 35, .long a0, ez_fill, .int a1, .long a2, ez_fill, .int a3] [.int a4, .int a5] (ev_hp I J R T) cz kz = bif decide (a4 ≤ a5) then G 165 191 [.ref 35, .long a0, ez_fill, .int a1, .long a2, ez_fill, .int a3] [] (ev_hp I J R T) cz kz else G 165 15 [.ref 35, .long a0, ez_fill, .int a1, .long a2, ez_fill, .int a3] [] (ev_hp I J R T) cz kz := by
  intro G
  rfl
set_option maxRecDepth 100000 in
theorem ab_r3 {a0 : Int64} {a1 : Int32} {a2 : Int64} {a3 : Int32} : ∀ G : ez_F, fx_up X 2 G 165 191 [.ref 35, .long a0, ez_fill, .int a1, .long a2, ez_fill, .int a3] [] (ev_hp I J R T) cz kz = some (some (.long a2), (ev_hp I J R T), cz, kz) := by
  intro G
  rfl
set_option maxRecDepth 100000 in
theorem ab_r4 {a0 : Int64} {a1 : Int32} {a2 : Int64} {a3 : Int32} : ∀ G : ez_F, fx_up X 2 G 165 15 [.ref 35, .long a0, ez_fill, .int a1, .long a2, ez_fill, .int a3] [] (ev_hp I J R T) cz kz = bif decide (a1 ≤ (0 : Int32)) then G 165 191 [.ref 35, .long a0, ez_fill, .int a1, .long a2, ez_fill, .int a3] [] (ev_hp I J R T) cz kz else G 165 19 [.ref 35, .long a0, ez_fill, .int a1, .long a2, ez_fill, .int a3] [] (ev_hp I J R T) cz kz := by
  intro G
  rfl
set_option maxRecDepth 100000 in
theorem ab_r5 {a0 : Int64} {a1 : Int32} {a2 : Int64} {a3 : Int32} : ∀ G : ez_F, fx_up X 3 G 165 19 [.ref 35, .long a0, ez_fill, .int a1, .long a2, ez_fill, .int a3] [] (ev_hp I J R T) cz kz = ev_C G 197 [.long a0, .int a3] (ev_hp I J R T) fun r h1 c1 k1 => G 165 25 [.ref 35, .long a0, ez_fill, .int a1, .long a2, ez_fill, .int a3] (r.toList ++ []) h1 (cz + c1) (kz + k1) := by
  intro G
  rfl
set_option maxRecDepth 100000 in
theorem ab_r6 {a0 : Int64} {a1 : Int32} {a2 : Int64} {a3 : Int32} {a4 : Int32} : ∀ G : ez_F, fx_up X 1 G 165 25 [.ref 35, .long a0, ez_fill, .int a1, .long a2, ez_fill, .int a3] [.int a4] (ev_hp I J R T) cz kz = bif decide (a4 = (0 : Int32)) then G 165 185 [.ref 35, .long a0, ez_fill, .int a1, .long a2, ez_fill, .int a3] [] (ev_hp I J R T) cz kz else G 165 28 [.ref 35, .long a0, ez_fill, .int a1, .long a2, ez_fill, .int a3] [] (ev_hp I J R T) cz kz := by
  intro G
  rfl
set_option maxRecDepth 100000 in
theorem ab_r7 {a0 : Int64} {a1 : Int32} {a2 : Int64} {a3 : Int32} : ∀ G : ez_F, fx_up X 2 G 165 28 [.ref 35, .long a0, ez_fill, .int a1, .long a2, ez_fill, .int a3] [] (ev_hp I J R T) cz kz = G 165 31 [.ref 35, .long a0, ez_fill, .int a1, .long a2, ez_fill, .int a3, .int (0 : Int32)] [] (ev_hp I J R T) cz kz := by
  intro G
  rfl
theorem ab_6 {z y : Int64} {far c : Int32}
    (H : ((((I 35 0) * (I 35 1)) ≤ c → Q (some (.long y)) (ev_hp I J R T)) ∧ (¬ (((I 35 0) * (I 35 1)) ≤ c) → ((far ≤ (0 : Int32) → Q (some (.long y)) (ev_hp I J R T)) ∧ (¬ (far ≤ (0 : Int32)) → (((ev_has z c) = (0 : Int32) → pw N X 165 185 [.ref 35, .long z, ez_fill, .int far, .long y, ez_fill, .int c] [] (ev_hp I J R T) Q) ∧ (¬ ((ev_has z c) = (0 : Int32)) → pw N X 165 31 [.ref 35, .long z, ez_fill, .int far, .long y, ez_fill, .int c, .int (0 : Int32)] [] (ev_hp I J R T) Q))))))) : pw (N + 1) X 165 6 [.ref 35, .long z, ez_fill, .int far, .long y, ez_fill, .int c] [] (ev_hp I J R T) Q := by
  refine pw_callp (by decide) (fun _ _ => ab_r1) (pe_is (eh_cells _ _ _ _ _)) ?_
  refine pw_p (pw_if (by decide) (fun _ _ => ab_r2) (fun w1 => ?_) (fun w1 => ?_))
  · have h1 := H.1 w1
    exact pw_p (pw_ret (by decide) (fun _ _ => ab_r3) h1)
  · have h1 := H.2 w1
    refine pw_p (pw_if (by decide) (fun _ _ => ab_r4) (fun w2 => ?_) (fun w2 => ?_))
    · have h2 := h1.1 w2
      exact pw_p (pw_ret (by decide) (fun _ _ => ab_r3) h2)
    · have h2 := h1.2 w2
      refine pw_p (pw_callp (by decide) (fun _ _ => ab_r5) (pe_is (em_has _ _ _ _)) ?_)
      refine pw_p (pw_if (by decide) (fun _ _ => ab_r6) (fun w3 => ?_) (fun w3 => ?_))
      · have h3 := h2.1 w3
        exact h3
      · have h3 := h2.2 w3
        refine pw_p (pw_seg (by decide) (fun _ _ => ab_r7) ?_)
        exact h3
set_option maxRecDepth 100000 in
theorem ab_r8 {a0 : Int64} {a1 : Int32} {a2 : Int64} {a3 : Int32} {a4 : Int32} : ∀ G : ez_F, fx_up X 3 G 165 31 [.ref 35, .long a0, ez_fill, .int a1, .long a2, ez_fill, .int a3, .int a4] [] (ev_hp I J R T) cz kz = bif decide ((9 : Int32) ≤ a4) then G 165 185 [.ref 35, .long a0, ez_fill, .int a1, .long a2, ez_fill, .int a3, .int a4] [] (ev_hp I J R T) cz kz else G 165 38 [.ref 35, .long a0, ez_fill, .int a1, .long a2, ez_fill, .int a3, .int a4] [] (ev_hp I J R T) cz kz := by
  intro G
  rfl
set_option maxRecDepth 100000 in
theorem ab_r9 {a0 : Int64} {a1 : Int32} {a2 : Int64} {a3 : Int32} {a4 : Int32} : ∀ G : ez_F, fx_up X 2 G 165 38 [.ref 35, .long a0, ez_fill, .int a1, .long a2, ez_fill, .int a3, .int a4] [] (ev_hp I J R T) cz kz = G 165 41 [.ref 35, .long a0, ez_fill, .int a1, .long a2, ez_fill, .int a3, .int a4] [.int (3 : Int32), .int a4] (ev_hp I J R T) cz kz := by
  intro G
  rfl
set_option maxRecDepth 100000 in
theorem ab_r10 {a0 : Int64} {a1 : Int32} {a2 : Int64} {a3 : Int32} {a4 : Int32} {a5 : Int32} : ∀ G : ez_F, fx_up X 5 G 165 42 [.ref 35, .long a0, ez_fill, .int a1, .long a2, ez_fill, .int a3, .int a4] [.int a5] (ev_hp I J R T) cz kz = G 165 49 [.ref 35, .long a0, ez_fill, .int a1, .long a2, ez_fill, .int a3, .int a4, .int (a5 - (1 : Int32))] [.int (3 : Int32), .int a4] (ev_hp I J R T) cz kz := by
  intro G
  rfl
set_option maxRecDepth 100000 in
theorem ab_r11 {a0 : Int64} {a1 : Int32} {a2 : Int64} {a3 : Int32} {a4 : Int32} {a5 : Int32} {a6 : Int32} : ∀ G : ez_F, fx_up X 6 G 165 50 [.ref 35, .long a0, ez_fill, .int a1, .long a2, ez_fill, .int a3, .int a4, .int a5] [.int a6] (ev_hp I J R T) cz kz = G 165 60 [.ref 35, .long a0, ez_fill, .int a1, .long a2, ez_fill, .int a3, .int a4, .int a5, .int (a6 - (1 : Int32))] [.int (I 35 0), .int a3] (ev_hp I J R T) cz kz := by
  intro G
  rfl
set_option maxRecDepth 100000 in
theorem ab_r12 {a0 : Int64} {a1 : Int32} {a2 : Int64} {a3 : Int32} {a4 : Int32} {a5 : Int32} {a6 : Int32} {a7 : Int32} : ∀ G : ez_F, fx_up X 6 G 165 61 [.ref 35, .long a0, ez_fill, .int a1, .long a2, ez_fill, .int a3, .int a4, .int a5, .int a6] [.int a7] (ev_hp I J R T) cz kz = G 165 72 [.ref 35, .long a0, ez_fill, .int a1, .long a2, ez_fill, .int a3, .int a4, .int a5, .int a6, .int (a7 + a5)] [.int (I 35 0), .int a3] (ev_hp I J R T) cz kz := by
  intro G
  rfl
set_option maxRecDepth 100000 in
theorem ab_r13 {a0 : Int64} {a1 : Int32} {a2 : Int64} {a3 : Int32} {a4 : Int32} {a5 : Int32} {a6 : Int32} {a7 : Int32} {a8 : Int32} : ∀ G : ez_F, fx_up X 5 G 165 73 [.ref 35, .long a0, ez_fill, .int a1, .long a2, ez_fill, .int a3, .int a4, .int a5, .int a6, .int a7] [.int a8] (ev_hp I J R T) cz kz = G 165 82 [.ref 35, .long a0, ez_fill, .int a1, .long a2, ez_fill, .int a3, .int a4, .int a5, .int a6, .int a7, .int (a8 + a6)] [.int (I 35 2)] (ev_hp I J R T) cz kz := by
  intro G
  rfl
set_option maxRecDepth 100000 in
theorem ab_r14 {a0 : Int64} {a1 : Int32} {a2 : Int64} {a3 : Int32} {a4 : Int32} {a5 : Int32} {a6 : Int32} {a7 : Int32} {a8 : Int32} {a9 : Int32} : ∀ G : ez_F, fx_up X 1 G 165 82 [.ref 35, .long a0, ez_fill, .int a1, .long a2, ez_fill, .int a3, .int a4, .int a5, .int a6, .int a7, .int a8] [.int a9] (ev_hp I J R T) cz kz = bif decide (a9 = (0 : Int32)) then G 165 113 [.ref 35, .long a0, ez_fill, .int a1, .long a2, ez_fill, .int a3, .int a4, .int a5, .int a6, .int a7, .int a8] [] (ev_hp I J R T) cz kz else G 165 85 [.ref 35, .long a0, ez_fill, .int a1, .long a2, ez_fill, .int a3, .int a4, .int a5, .int a6, .int a7, .int a8] [] (ev_hp I J R T) cz kz := by
  intro G
  rfl
set_option maxRecDepth 100000 in
theorem ab_r15 {a0 : Int64} {a1 : Int32} {a2 : Int64} {a3 : Int32} {a4 : Int32} {a5 : Int32} {a6 : Int32} {a7 : Int32} {a8 : Int32} : ∀ G : ez_F, fx_up X 3 G 165 85 [.ref 35, .long a0, ez_fill, .int a1, .long a2, ez_fill, .int a3, .int a4, .int a5, .int a6, .int a7, .int a8] [] (ev_hp I J R T) cz kz = G 165 91 [.ref 35, .long a0, ez_fill, .int a1, .long a2, ez_fill, .int a3, .int a4, .int a5, .int a6, .int a7, .int a8] [.int (I 35 0), .int a7] (ev_hp I J R T) cz kz := by
  intro G
  rfl
set_option maxRecDepth 100000 in
theorem ab_r16 {a0 : Int64} {a1 : Int32} {a2 : Int64} {a3 : Int32} {a4 : Int32} {a5 : Int32} {a6 : Int32} {a7 : Int32} {a8 : Int32} {a9 : Int32} {a10 : Int32} : ∀ G : ez_F, fx_up X 3 G 165 91 [.ref 35, .long a0, ez_fill, .int a1, .long a2, ez_fill, .int a3, .int a4, .int a5, .int a6, .int a7, .int a8] [.int a9, .int a10] (ev_hp I J R T) cz kz = G 165 96 [.ref 35, .long a0, ez_fill, .int a1, .long a2, ez_fill, .int a3, .int a4, .int a5, .int a6, .int a7, .int a8] [.int (I 35 0), .int (a10 + a9)] (ev_hp I J R T) cz kz := by
  intro G
  rfl
set_option maxRecDepth 100000 in
theorem ab_r17 {a0 : Int64} {a1 : Int32} {a2 : Int64} {a3 : Int32} {a4 : Int32} {a5 : Int32} {a6 : Int32} {a7 : Int32} {a8 : Int32} {a9 : Int32} : ∀ G : ez_F, fx_up X 4 G 165 97 [.ref 35, .long a0, ez_fill, .int a1, .long a2, ez_fill, .int a3, .int a4, .int a5, .int a6, .int a7, .int a8] [.int a9] (ev_hp I J R T) cz kz = G 165 105 [.ref 35, .long a0, ez_fill, .int a1, .long a2, ez_fill, .int a3, .int a4, .int a5, .int a6, .int a9, .int a8] [.int (I 35 1), .int a8] (ev_hp I J R T) cz kz := by
  intro G
  rfl
set_option maxRecDepth 100000 in
theorem ab_r18 {a0 : Int64} {a1 : Int32} {a2 : Int64} {a3 : Int32} {a4 : Int32} {a5 : Int32} {a6 : Int32} {a7 : Int32} {a8 : Int32} {a9 : Int32} {a10 : Int32} : ∀ G : ez_F, fx_up X 3 G 165 105 [.ref 35, .long a0, ez_fill, .int a1, .long a2, ez_fill, .int a3, .int a4, .int a5, .int a6, .int a7, .int a8] [.int a9, .int a10] (ev_hp I J R T) cz kz = G 165 110 [.ref 35, .long a0, ez_fill, .int a1, .long a2, ez_fill, .int a3, .int a4, .int a5, .int a6, .int a7, .int a8] [.int (I 35 1), .int (a10 + a9)] (ev_hp I J R T) cz kz := by
  intro G
  rfl
set_option maxRecDepth 100000 in
theorem ab_r19 {a0 : Int64} {a1 : Int32} {a2 : Int64} {a3 : Int32} {a4 : Int32} {a5 : Int32} {a6 : Int32} {a7 : Int32} {a8 : Int32} {a9 : Int32} : ∀ G : ez_F, fx_up X 1 G 165 111 [.ref 35, .long a0, ez_fill, .int a1, .long a2, ez_fill, .int a3, .int a4, .int a5, .int a6, .int a7, .int a8] [.int a9] (ev_hp I J R T) cz kz = G 165 113 [.ref 35, .long a0, ez_fill, .int a1, .long a2, ez_fill, .int a3, .int a4, .int a5, .int a6, .int a7, .int a9] [] (ev_hp I J R T) cz kz := by
  intro G
  rfl
theorem ab_31 {z y : Int64} {far c k : Int32}
    (H : (((9 : Int32) ≤ k → pw N X 165 185 [.ref 35, .long z, ez_fill, .int far, .long y, ez_fill, .int c] [] (ev_hp I J R T) Q) ∧ (¬ ((9 : Int32) ≤ k) → (¬ (3 : Int32) = 0 → (¬ (3 : Int32) = 0 → (¬ (I 35 0) = 0 → (¬ (I 35 0) = 0 → (((I 35 2) = (0 : Int32) → pw N X 165 113 [.ref 35, .long z, ez_fill, .int far, .long y, ez_fill, .int c, .int k, .int ((k - k / (3 : Int32) * (3 : Int32)) - (1 : Int32)), .int ((k / (3 : Int32)) - (1 : Int32)), .int ((c - c / (I 35 0) * (I 35 0)) + ((k - k / (3 : Int32) * (3 : Int32)) - (1 : Int32))), .int ((c / (I 35 0)) + ((k / (3 : Int32)) - (1 : Int32)))] [] (ev_hp I J R T) Q) ∧ (¬ ((I 35 2) = (0 : Int32)) → (¬ (I 35 0) = 0 → (¬ (I 35 1) = 0 → pw N X 165 113 [.ref 35, .long z, ez_fill, .int far, .long y, ez_fill, .int c, .int k, .int ((k - k / (3 : Int32) * (3 : Int32)) - (1 : Int32)), .int ((k / (3 : Int32)) - (1 : Int32)), .int ((((c - c / (I 35 0) * (I 35 0)) + ((k - k / (3 : Int32) * (3 : Int32)) - (1 : Int32))) + (I 35 0)) - (((c - c / (I 35 0) * (I 35 0)) + ((k - k / (3 : Int32) * (3 : Int32)) - (1 : Int32))) + (I 35 0)) / (I 35 0) * (I 35 0)), .int ((((c / (I 35 0)) + ((k / (3 : Int32)) - (1 : Int32))) + (I 35 1)) - (((c / (I 35 0)) + ((k / (3 : Int32)) - (1 : Int32))) + (I 35 1)) / (I 35 1) * (I 35 1))] [] (ev_hp I J R T) Q))))))))))) : pw (N + 1) X 165 31 [.ref 35, .long z, ez_fill, .int far, .long y, ez_fill, .int c, .int k] [] (ev_hp I J R T) Q := by
  refine pw_if (by decide) (fun _ _ => ab_r8) (fun w1 => ?_) (fun w1 => ?_)
  · have h1 := H.1 w1
    refine pw_cutl (by rfl) ?_
    exact h1
  · have h1 := H.2 w1
    refine pw_p (pw_seg (by decide) (fun _ _ => ab_r9) ?_)
    refine pw_p (pw_irem (by rfl) (fun w2 => ?_))
    have h2 := h1 w2
    refine pw_p (pw_seg (by decide) (fun _ _ => ab_r10) ?_)
    refine pw_p (pw_idiv (by rfl) (fun w2 => ?_))
    have h2 := h2 w2
    refine pw_p (pw_seg (by decide) (fun _ _ => ab_r11) ?_)
    refine pw_p (pw_irem (by rfl) (fun w2 => ?_))
    have h2 := h2 w2
    refine pw_p (pw_seg (by decide) (fun _ _ => ab_r12) ?_)
    refine pw_p (pw_idiv (by rfl) (fun w2 => ?_))
    have h2 := h2 w2
    refine pw_p (pw_seg (by decide) (fun _ _ => ab_r13) ?_)
    refine pw_p (pw_if (by decide) (fun _ _ => ab_r14) (fun w2 => ?_) (fun w2 => ?_))
    · have h2 := h2.1 w2
      exact h2
    · have h2 := h2.2 w2
      refine pw_p (pw_seg (by decide) (fun _ _ => ab_r15) ?_)
      refine pw_p (pw_seg (by decide) (fun _ _ => ab_r16) ?_)
      refine pw_p (pw_irem (by rfl) (fun w3 => ?_))
      have h3 := h2 w3
      refine pw_p (pw_seg (by decide) (fun _ _ => ab_r17) ?_)
      refine pw_p (pw_seg (by decide) (fun _ _ => ab_r18) ?_)
      refine pw_p (pw_irem (by rfl) (fun w3 => ?_))
      have h3 := h3 w3
      refine pw_p (pw_seg (by decide) (fun _ _ => ab_r19) ?_)
      exact h3
set_option maxRecDepth 100000 in
theorem ab_r20 {a0 : Int64} {a1 : Int32} {a2 : Int64} {a3 : Int32} {a4 : Int32} {a5 : Int32} {a6 : Int32} {a7 : Int32} {a8 : Int32} : ∀ G : ez_F, fx_up X 5 G 165 113 [.ref 35, .long a0, ez_fill, .int a1, .long a2, ez_fill, .int a3, .int a4, .int a5, .int a6, .int a7, .int a8] [] (ev_hp I J R T) cz kz = G 165 121 [.ref 35, .long a0, ez_fill, .int a1, .long a2, ez_fill, .int a3, .int a4, .int a5, .int a6, .int a7, .int a8] [.int (I 35 0), .long (0 : Int64), .long a7.toInt64] (ev_hp I J R T) cz kz := by
  intro G
  rfl
set_option maxRecDepth 100000 in
theorem ab_r21 {a0 : Int64} {a1 : Int32} {a2 : Int64} {a3 : Int32} {a4 : Int32} {a5 : Int32} {a6 : Int32} {a7 : Int32} {a8 : Int32} {a9 : Int32} {a10 : Int64} {a11 : Int64} : ∀ G : ez_F, fx_up X 4 G 165 121 [.ref 35, .long a0, ez_fill, .int a1, .long a2, ez_fill, .int a3, .int a4, .int a5, .int a6, .int a7, .int a8] [.int a9, .long a10, .long a11] (ev_hp I J R T) cz kz = ev_C G 198 [.long a11, .long a10, .long (a9 - (1 : Int32)).toInt64] (ev_hp I J R T) fun r h1 c1 k1 => G 165 127 [.ref 35, .long a0, ez_fill, .int a1, .long a2, ez_fill, .int a3, .int a4, .int a5, .int a6, .int a7, .int a8] (r.toList ++ []) h1 (cz + c1) (kz + k1) := by
  intro G
  rfl
set_option maxRecDepth 100000 in
theorem ab_r22 {a0 : Int64} {a1 : Int32} {a2 : Int64} {a3 : Int32} {a4 : Int32} {a5 : Int32} {a6 : Int32} {a7 : Int32} {a8 : Int32} {a9 : Int32} : ∀ G : ez_F, fx_up X 1 G 165 127 [.ref 35, .long a0, ez_fill, .int a1, .long a2, ez_fill, .int a3, .int a4, .int a5, .int a6, .int a7, .int a8] [.int a9] (ev_hp I J R T) cz kz = bif decide (a9 = (0 : Int32)) then G 165 179 [.ref 35, .long a0, ez_fill, .int a1, .long a2, ez_fill, .int a3, .int a4, .int a5, .int a6, .int a7, .int a8] [] (ev_hp I J R T) cz kz else G 165 130 [.ref 35, .long a0, ez_fill, .int a1, .long a2, ez_fill, .int a3, .int a4, .int a5, .int a6, .int a7, .int a8] [] (ev_hp I J R T) cz kz := by
  intro G
  rfl
set_option maxRecDepth 100000 in
theorem ab_r23 {a0 : Int64} {a1 : Int32} {a2 : Int64} {a3 : Int32} {a4 : Int32} {a5 : Int32} {a6 : Int32} {a7 : Int32} {a8 : Int32} : ∀ G : ez_F, fx_up X 5 G 165 130 [.ref 35, .long a0, ez_fill, .int a1, .long a2, ez_fill, .int a3, .int a4, .int a5, .int a6, .int a7, .int a8] [] (ev_hp I J R T) cz kz = G 165 138 [.ref 35, .long a0, ez_fill, .int a1, .long a2, ez_fill, .int a3, .int a4, .int a5, .int a6, .int a7, .int a8] [.int (I 35 1), .long (0 : Int64), .long a8.toInt64] (ev_hp I J R T) cz kz := by
  intro G
  rfl
set_option maxRecDepth 100000 in
theorem ab_r24 {a0 : Int64} {a1 : Int32} {a2 : Int64} {a3 : Int32} {a4 : Int32} {a5 : Int32} {a6 : Int32} {a7 : Int32} {a8 : Int32} {a9 : Int32} {a10 : Int64} {a11 : Int64} : ∀ G : ez_F, fx_up X 4 G 165 138 [.ref 35, .long a0, ez_fill, .int a1, .long a2, ez_fill, .int a3, .int a4, .int a5, .int a6, .int a7, .int a8] [.int a9, .long a10, .long a11] (ev_hp I J R T) cz kz = ev_C G 198 [.long a11, .long a10, .long (a9 - (1 : Int32)).toInt64] (ev_hp I J R T) fun r h1 c1 k1 => G 165 144 [.ref 35, .long a0, ez_fill, .int a1, .long a2, ez_fill, .int a3, .int a4, .int a5, .int a6, .int a7, .int a8] (r.toList ++ []) h1 (cz + c1) (kz + k1) := by
  intro G
  rfl
set_option maxRecDepth 100000 in
theorem ab_r25 {a0 : Int64} {a1 : Int32} {a2 : Int64} {a3 : Int32} {a4 : Int32} {a5 : Int32} {a6 : Int32} {a7 : Int32} {a8 : Int32} {a9 : Int32} : ∀ G : ez_F, fx_up X 1 G 165 144 [.ref 35, .long a0, ez_fill, .int a1, .long a2, ez_fill, .int a3, .int a4, .int a5, .int a6, .int a7, .int a8] [.int a9] (ev_hp I J R T) cz kz = bif decide (a9 = (0 : Int32)) then G 165 179 [.ref 35, .long a0, ez_fill, .int a1, .long a2, ez_fill, .int a3, .int a4, .int a5, .int a6, .int a7, .int a8] [] (ev_hp I J R T) cz kz else G 165 147 [.ref 35, .long a0, ez_fill, .int a1, .long a2, ez_fill, .int a3, .int a4, .int a5, .int a6, .int a7, .int a8] [] (ev_hp I J R T) cz kz := by
  intro G
  rfl
set_option maxRecDepth 100000 in
theorem ab_r26 {a0 : Int64} {a1 : Int32} {a2 : Int64} {a3 : Int32} {a4 : Int32} {a5 : Int32} {a6 : Int32} {a7 : Int32} {a8 : Int32} : ∀ G : ez_F, fx_up X 3 G 165 147 [.ref 35, .long a0, ez_fill, .int a1, .long a2, ez_fill, .int a3, .int a4, .int a5, .int a6, .int a7, .int a8] [] (ev_hp I J R T) cz kz = bif decide (a1 = (2 : Int32)) then G 165 162 [.ref 35, .long a0, ez_fill, .int a1, .long a2, ez_fill, .int a3, .int a4, .int a5, .int a6, .int a7, .int a8] [] (ev_hp I J R T) cz kz else G 165 152 [.ref 35, .long a0, ez_fill, .int a1, .long a2, ez_fill, .int a3, .int a4, .int a5, .int a6, .int a7, .int a8] [] (ev_hp I J R T) cz kz := by
  intro G
  rfl
set_option maxRecDepth 100000 in
theorem ab_r27 {a0 : Int64} {a1 : Int32} {a2 : Int64} {a3 : Int32} {a4 : Int32} {a5 : Int32} {a6 : Int32} {a7 : Int32} {a8 : Int32} : ∀ G : ez_F, fx_up X 4 G 165 162 [.ref 35, .long a0, ez_fill, .int a1, .long a2, ez_fill, .int a3, .int a4, .int a5, .int a6, .int a7, .int a8] [] (ev_hp I J R T) cz kz = G 165 169 [.ref 35, .long a0, ez_fill, .int a1, .long a2, ez_fill, .int a3, .int a4, .int a5, .int a6, .int a7, .int a8] [.int (I 35 0), .long (1 : Int64), .long a2] (ev_hp I J R T) cz kz := by
  intro G
  rfl
set_option maxRecDepth 100000 in
theorem ab_r28 {a0 : Int64} {a1 : Int32} {a2 : Int64} {a3 : Int32} {a4 : Int32} {a5 : Int32} {a6 : Int32} {a7 : Int32} {a8 : Int32} {a9 : Int32} {a10 : Int64} {a11 : Int64} : ∀ G : ez_F, fx_up X 7 G 165 169 [.ref 35, .long a0, ez_fill, .int a1, .long a2, ez_fill, .int a3, .int a4, .int a5, .int a6, .int a7, .int a8] [.int a9, .long a10, .long a11] (ev_hp I J R T) cz kz = G 165 179 [.ref 35, .long a0, ez_fill, .int a1, .long (a11 ||| (a10 <<< (((a9 * a8) + a7).toInt64 &&& (63 : Int64)))), ez_fill, .int a3, .int a4, .int a5, .int a6, .int a7, .int a8] [] (ev_hp I J R T) cz kz := by
  intro G
  rfl
set_option maxRecDepth 100000 in
theorem ab_r29 {a0 : Int64} {a1 : Int32} {a2 : Int64} {a3 : Int32} {a4 : Int32} {a5 : Int32} {a6 : Int32} {a7 : Int32} {a8 : Int32} : ∀ G : ez_F, fx_up X 2 G 165 152 [.ref 35, .long a0, ez_fill, .int a1, .long a2, ez_fill, .int a3, .int a4, .int a5, .int a6, .int a7, .int a8] [] (ev_hp I J R T) cz kz = bif decide (a5 = (0 : Int32)) then G 165 162 [.ref 35, .long a0, ez_fill, .int a1, .long a2, ez_fill, .int a3, .int a4, .int a5, .int a6, .int a7, .int a8] [] (ev_hp I J R T) cz kz else G 165 157 [.ref 35, .long a0, ez_fill, .int a1, .long a2, ez_fill, .int a3, .int a4, .int a5, .int a6, .int a7, .int a8] [] (ev_hp I J R T) cz kz := by
  intro G
  rfl
set_option maxRecDepth 100000 in
theorem ab_r30 {a0 : Int64} {a1 : Int32} {a2 : Int64} {a3 : Int32} {a4 : Int32} {a5 : Int32} {a6 : Int32} {a7 : Int32} {a8 : Int32} : ∀ G : ez_F, fx_up X 2 G 165 157 [.ref 35, .long a0, ez_fill, .int a1, .long a2, ez_fill, .int a3, .int a4, .int a5, .int a6, .int a7, .int a8] [] (ev_hp I J R T) cz kz = bif decide (¬ a6 = (0 : Int32)) then G 165 179 [.ref 35, .long a0, ez_fill, .int a1, .long a2, ez_fill, .int a3, .int a4, .int a5, .int a6, .int a7, .int a8] [] (ev_hp I J R T) cz kz else G 165 162 [.ref 35, .long a0, ez_fill, .int a1, .long a2, ez_fill, .int a3, .int a4, .int a5, .int a6, .int a7, .int a8] [] (ev_hp I J R T) cz kz := by
  intro G
  rfl
theorem ab_113 {z y : Int64} {far c k d1 d2 d3 d4 : Int32}
    (H : (((ev_il d3.toInt64 (0 : Int64) (((I 35 0) - (1 : Int32)).toInt64)) = (0 : Int32) → pw N X 165 179 [.ref 35, .long z, ez_fill, .int far, .long y, ez_fill, .int c, .int k, .int d1, .int d2, .int d3, .int d4] [] (ev_hp I J R T) Q) ∧ (¬ ((ev_il d3.toInt64 (0 : Int64) (((I 35 0) - (1 : Int32)).toInt64)) = (0 : Int32)) → (((ev_il d4.toInt64 (0 : Int64) (((I 35 1) - (1 : Int32)).toInt64)) = (0 : Int32) → pw N X 165 179 [.ref 35, .long z, ez_fill, .int far, .long y, ez_fill, .int c, .int k, .int d1, .int d2, .int d3, .int d4] [] (ev_hp I J R T) Q) ∧ (¬ ((ev_il d4.toInt64 (0 : Int64) (((I 35 1) - (1 : Int32)).toInt64)) = (0 : Int32)) → ((far = (2 : Int32) → pw N X 165 179 [.ref 35, .long z, ez_fill, .int far, .long (y ||| ((1 : Int64) <<< ((((I 35 0) * d4) + d3).toInt64 &&& (63 : Int64)))), ez_fill, .int c, .int k, .int d1, .int d2, .int d3, .int d4] [] (ev_hp I J R T) Q) ∧ (¬ (far = (2 : Int32)) → ((d1 = (0 : Int32) → pw N X 165 179 [.ref 35, .long z, ez_fill, .int far, .long (y ||| ((1 : Int64) <<< ((((I 35 0) * d4) + d3).toInt64 &&& (63 : Int64)))), ez_fill, .int c, .int k, .int d1, .int d2, .int d3, .int d4] [] (ev_hp I J R T) Q) ∧ (¬ (d1 = (0 : Int32)) → ((¬ d2 = (0 : Int32) → pw N X 165 179 [.ref 35, .long z, ez_fill, .int far, .long y, ez_fill, .int c, .int k, .int d1, .int d2, .int d3, .int d4] [] (ev_hp I J R T) Q) ∧ (¬ (¬ d2 = (0 : Int32)) → pw N X 165 179 [.ref 35, .long z, ez_fill, .int far, .long (y ||| ((1 : Int64) <<< ((((I 35 0) * d4) + d3).toInt64 &&& (63 : Int64)))), ez_fill, .int c, .int k, .int d1, .int d2, .int d3, .int d4] [] (ev_hp I J R T) Q))))))))))) : pw (N + 1) X 165 113 [.ref 35, .long z, ez_fill, .int far, .long y, ez_fill, .int c, .int k, .int d1, .int d2, .int d3, .int d4] [] (ev_hp I J R T) Q := by
  refine pw_seg (by decide) (fun _ _ => ab_r20) ?_
  refine pw_p (pw_callp (by decide) (fun _ _ => ab_r21) (pe_is (ec_in _ _ _ _ _)) ?_)
  refine pw_p (pw_if (by decide) (fun _ _ => ab_r22) (fun w1 => ?_) (fun w1 => ?_))
  · have h1 := H.1 w1
    exact h1
  · have h1 := H.2 w1
    refine pw_p (pw_seg (by decide) (fun _ _ => ab_r23) ?_)
    refine pw_p (pw_callp (by decide) (fun _ _ => ab_r24) (pe_is (ec_in _ _ _ _ _)) ?_)
    refine pw_p (pw_if (by decide) (fun _ _ => ab_r25) (fun w2 => ?_) (fun w2 => ?_))
    · have h2 := h1.1 w2
      exact h2
    · have h2 := h1.2 w2
      refine pw_p (pw_if (by decide) (fun _ _ => ab_r26) (fun w3 => ?_) (fun w3 => ?_))
      · have h3 := h2.1 w3
        refine pw_p (pw_seg (by decide) (fun _ _ => ab_r27) ?_)
        refine pw_p (pw_seg (by decide) (fun _ _ => ab_r28) ?_)
        exact h3
      · have h3 := h2.2 w3
        refine pw_p (pw_if (by decide) (fun _ _ => ab_r29) (fun w4 => ?_) (fun w4 => ?_))
        · have h4 := h3.1 w4
          refine pw_p (pw_seg (by decide) (fun _ _ => ab_r27) ?_)
          refine pw_p (pw_seg (by decide) (fun _ _ => ab_r28) ?_)
          exact h4
        · have h4 := h3.2 w4
          refine pw_p (pw_if (by decide) (fun _ _ => ab_r30) (fun w5 => ?_) (fun w5 => ?_))
          · have h5 := h4.1 w5
            exact h5
          · have h5 := h4.2 w5
            refine pw_p (pw_seg (by decide) (fun _ _ => ab_r27) ?_)
            refine pw_p (pw_seg (by decide) (fun _ _ => ab_r28) ?_)
            exact h5
set_option maxRecDepth 100000 in
theorem ab_r31 {a0 : Int64} {a1 : Int32} {a2 : Int64} {a3 : Int32} {a4 : Int32} {a5 : Int32} {a6 : Int32} {a7 : Int32} {a8 : Int32} : ∀ G : ez_F, fx_up X 2 G 165 179 [.ref 35, .long a0, ez_fill, .int a1, .long a2, ez_fill, .int a3, .int a4, .int a5, .int a6, .int a7, .int a8] [] (ev_hp I J R T) cz kz = G 165 31 [.ref 35, .long a0, ez_fill, .int a1, .long a2, ez_fill, .int a3, .int (a4 + (1 : Int32)), .int a5, .int a6, .int a7, .int a8] [] (ev_hp I J R T) cz kz := by
  intro G
  rfl
theorem ab_179 {z y : Int64} {far c k d1 d2 d3 d4 : Int32}
    (H : pw N X 165 31 [.ref 35, .long z, ez_fill, .int far, .long y, ez_fill, .int c, .int (k + (1 : Int32))] [] (ev_hp I J R T) Q) : pw (N + 1) X 165 179 [.ref 35, .long z, ez_fill, .int far, .long y, ez_fill, .int c, .int k, .int d1, .int d2, .int d3, .int d4] [] (ev_hp I J R T) Q := by
  refine pw_seg (by decide) (fun _ _ => ab_r31) ?_
  refine pw_cutl (by rfl) ?_
  exact H
set_option maxRecDepth 100000 in
theorem ab_r32 {a0 : Int64} {a1 : Int32} {a2 : Int64} {a3 : Int32} : ∀ G : ez_F, fx_up X 2 G 165 185 [.ref 35, .long a0, ez_fill, .int a1, .long a2, ez_fill, .int a3] [] (ev_hp I J R T) cz kz = G 165 6 [.ref 35, .long a0, ez_fill, .int a1, .long a2, ez_fill, .int (a3 + (1 : Int32))] [] (ev_hp I J R T) cz kz := by
  intro G
  rfl
theorem ab_185 {z y : Int64} {far c : Int32}
    (H : pw N X 165 6 [.ref 35, .long z, ez_fill, .int far, .long y, ez_fill, .int (c + (1 : Int32))] [] (ev_hp I J R T) Q) : pw (N + 1) X 165 185 [.ref 35, .long z, ez_fill, .int far, .long y, ez_fill, .int c] [] (ev_hp I J R T) Q := by
  refine pw_seg (by decide) (fun _ _ => ab_r32) ?_
  exact H
end
def ab_x (W wr v : Int32) : Int32 := if wr = 0 then v else (v + W) - (v + W) / W * W
def ab_q (W H far d1 d2 x' y' : Int32) (y : Int64) : Int64 := if ev_il x'.toInt64 0 (W - 1).toInt64 = 0 then y else if ev_il y'.toInt64 0 (H - 1).toInt64 = 0 then y else
  if far = 2 ∨ d1 = 0 ∨ d2 = 0 then y ||| ((1 : Int64) <<< ((W * y' + x').toInt64 &&& 63)) else y
def ab_p (W H wr far c k : Int32) (y : Int64) : Int64 := ab_q W H far (k - k / 3 * 3 - 1) (k / 3 - 1) (ab_x W wr ((c - c / W * W) + (k - k / 3 * 3 - 1))) (ab_x H wr (c / W + (k / 3 - 1))) y
def ab_K (W H wr far c : Int32) : Nat → Int32 → Int64 → Int64
  | 0, _, y => y
  | r + 1, k, y => ab_K W H wr far c r (k + 1) (ab_p W H wr far c k y)
def ab_C (W H wr far : Int32) (z : Int64) : Nat → Int32 → Int64 → Int64
  | 0, _, y => y
  | r + 1, c, y => ab_C W H wr far z r (c + 1) (if ev_has z c = 0 then y else ab_K W H wr far c 9 0 y)
/-- cells about a set -/
def ab_F (W H wr far : Int32) (z : Int64) : Int64 := if far ≤ 0 then z else ab_C W H wr far z (W * H).toInt.toNat 0 z
section
variable {X : ez_X} {I : Nat → Nat → Int32} {J : Nat → Nat → Int64} {R : Nat → Nat} {T : List ez_C} {Q : pw_Q} {z : Int64} {far : Int32}
theorem ab_9 {k : Int32} {r : Nat} (h : k.toInt + r = 9) (h0 : 0 ≤ k.toInt) : (9 ≤ k ↔ r = 0) := by
  rw [Int32.le_iff_toInt_le, show (9 : Int32).toInt = 9 from by decide]
  omega
theorem ab_in {c : Int32} {N : Nat} : ∀ (r : Nat) (k : Int32) (y : Int64), k.toInt + r = 9 → 0 ≤ k.toInt →
    pw N X 165 185 [.ref 35, .long z, ez_fill, .int far, .long (ab_K (I 35 0) (I 35 1) (I 35 2) far c r k y), ez_fill, .int c] [] (ev_hp I J R T) Q →
    pw N X 165 31 [.ref 35, .long z, ez_fill, .int far, .long y, ez_fill, .int c, .int k] [] (ev_hp I J R T) Q := by
  intro r
  induction r with
  | zero =>
    intro k y hk h0 cont
    exact pw_p (ab_31 ⟨fun _ => cont, fun w => absurd ((ab_9 hk h0).mpr rfl) w⟩)
  | succ r ih =>
    intro k y hk h0 cont
    have hk1 : (k + 1).toInt = k.toInt + 1 := i_inc (by omega)
    have rest : pw N X 165 179 [.ref 35, .long z, ez_fill, .int far, .long (ab_p (I 35 0) (I 35 1) (I 35 2) far c k y), ez_fill, .int c, .int k, .int (k - k / 3 * 3 - 1), .int (k / 3 - 1), .int (ab_x (I 35 0) (I 35 2) ((c - c / I 35 0 * I 35 0) + (k - k / 3 * 3 - 1))), .int (ab_x (I 35 1) (I 35 2) (c / I 35 0 + (k / 3 - 1)))] [] (ev_hp I J R T) Q :=
      pw_p (ab_179 (ih (k + 1) _ (by omega) (by omega) cont))
    unfold ab_p ab_q at rest
    have cell : pw N X 165 113 [.ref 35, .long z, ez_fill, .int far, .long y, ez_fill, .int c, .int k, .int (k - k / 3 * 3 - 1), .int (k / 3 - 1), .int (ab_x (I 35 0) (I 35 2) ((c - c / I 35 0 * I 35 0) + (k - k / 3 * 3 - 1))), .int (ab_x (I 35 1) (I 35 2) (c / I 35 0 + (k / 3 - 1)))] [] (ev_hp I J R T) Q := by
      refine pw_p (ab_113 ⟨fun h1 => ?_, fun h1 => ⟨fun h2 => ?_, fun h2 => ⟨fun h3 => ?_, fun h3 => ⟨fun h4 => ?_, fun h4 => ⟨fun h5 => ?_, fun h5 => ?_⟩⟩⟩⟩⟩)
      · rw [if_pos h1] at rest
        exact rest
      · rw [if_neg h1, if_pos h2] at rest
        exact rest
      · rw [if_neg h1, if_neg h2, if_pos (Or.inl h3)] at rest
        exact rest
      · rw [if_neg h1, if_neg h2, if_pos (Or.inr (Or.inl h4))] at rest
        exact rest
      · rw [if_neg h1, if_neg h2, if_neg (fun o => o.elim h3 fun o => o.elim h4 h5)] at rest
        exact rest
      · rw [if_neg h1, if_neg h2, if_pos (Or.inr (Or.inr (Classical.not_not.mp h5)))] at rest
        exact rest
    refine pw_p (ab_31 ⟨fun w => ?_, fun _ _ _ _ _ => ⟨fun h => ?_, fun h => ?_⟩⟩)
    · have := (ab_9 hk h0).mp w
      omega
    · unfold ab_x at cell
      rw [if_pos h, if_pos h] at cell
      exact cell
    · intro _ _
      unfold ab_x at cell
      rw [if_neg h, if_neg h] at cell
      exact cell
theorem pe_about {N : Nat} (hc : 0 ≤ (I 35 0 * I 35 1).toInt ∧ (I 35 0 * I 35 1).toInt < 900) : pe N X 165 [.ref 35, .long z, .int far] (ev_hp I J R T) (fun r h => r = some (.long (ab_F (I 35 0) (I 35 1) (I 35 2) far z)) ∧ h = ev_hp I J R T) := by
  have e0 : (0 : Int32).toInt = 0 := by decide
  refine pe_of (pw_p (ab_0 ?_))
  by_cases hf : far ≤ 0
  · refine pw_p (ab_6 ⟨fun _ => ?_, fun _ => ⟨fun _ => ?_, fun h => absurd hf h⟩⟩)
    all_goals
      refine ⟨?_, rfl⟩
      unfold ab_F
      rw [if_pos hf]
  · have loop : ∀ (r : Nat) (c : Int32) (y : Int64), c.toInt + r = (I 35 0 * I 35 1).toInt → 0 ≤ c.toInt → ab_C (I 35 0) (I 35 1) (I 35 2) far z r c y = ab_F (I 35 0) (I 35 1) (I 35 2) far z →
        pw N X 165 6 [.ref 35, .long z, ez_fill, .int far, .long y, ez_fill, .int c] [] (ev_hp I J R T) (fun r h => r = some (.long (ab_F (I 35 0) (I 35 1) (I 35 2) far z)) ∧ h = ev_hp I J R T) := by
      intro r
      induction r with
      | zero =>
        intro c y hc1 h0 e
        refine pw_p (ab_6 ⟨fun _ => ⟨by rw [← e]; rfl, rfl⟩, fun w => absurd (Int32.le_iff_toInt_le.mpr (by omega)) w⟩)
      | succ r ih =>
        intro c y hc1 h0 e
        have hc2 : (c + 1).toInt = c.toInt + 1 := i_inc (by omega)
        unfold ab_C at e
        refine pw_p (ab_6 ⟨fun w => ?_, fun _ => ⟨fun h => absurd h hf, fun _ => ⟨fun h => ?_, fun h => ?_⟩⟩⟩)
        · rw [Int32.le_iff_toInt_le] at w
          omega
        · rw [if_pos h] at e
          exact pw_p (ab_185 (ih (c + 1) y (by omega) (by omega) e))
        · rw [if_neg h] at e
          exact ab_in 9 0 y rfl (by decide) (pw_p (ab_185 (ih (c + 1) _ (by omega) (by omega) e)))
    refine loop (I 35 0 * I 35 1).toInt.toNat 0 z (by omega) (by decide) ?_
    unfold ab_F
    rw [if_neg hf]
end
