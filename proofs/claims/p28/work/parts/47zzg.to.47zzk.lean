section
/-! The class: stray, blame, blamed. -/
section
variable {N : Nat} {X : ez_X} {I : Nat → Nat → Int32} {J : Nat → Nat → Int64} {R : Nat → Nat} {T : List ez_C} {Q : pw_Q} {cz kz : Nat}
set_option maxRecDepth 100000 in
theorem iq_r0  : ∀ G : ez_F, fx_up X 3 G 98 0 [.ref 31] [] (ev_hp I J R T) cz kz = G 98 7 [.ref 31] [.int (I 6 3)] (ev_hp I J R T) cz kz := by
  intro G
  rfl
set_option maxRecDepth 100000 in
theorem iq_r1 {a0 : Int32} : ∀ G : ez_F, fx_up X 3 G 98 7 [.ref 31] [.int a0] (ev_hp I J R T) cz kz = bif decide (¬ a0 = (0 : Int32)) then G 98 39 [.ref 31, .int a0] [] (ev_hp I J R T) cz kz else G 98 12 [.ref 31, .int a0] [] (ev_hp I J R T) cz kz := by
  intro G
  rfl
set_option maxRecDepth 100000 in
theorem iq_r2 {a0 : Int32} : ∀ G : ez_F, fx_up X 4 G 98 39 [.ref 31, .int a0] [] (ev_hp I J R T) cz kz = G 98 43 [.ref 31, .int a0, .int (-1 : Int32), .int (0 : Int32)] [] (ev_hp I J R T) cz kz := by
  intro G
  rfl
set_option maxRecDepth 100000 in
theorem iq_r3 {a0 : Int32} : ∀ G : ez_F, fx_up X 3 G 98 12 [.ref 31, .int a0] [] (ev_hp I J R T) cz kz = G 98 19 [.ref 31, .int a0] [.long (J 8 3)] (ev_hp I J R T) cz kz := by
  intro G
  rfl
set_option maxRecDepth 100000 in
theorem iq_r4 {a0 : Int32} {a1 : Int64} : ∀ G : ez_F, fx_up X 3 G 98 19 [.ref 31, .int a0] [.long a1] (ev_hp I J R T) cz kz = bif decide (¬ (lg_cmp a1 (0 : Int64)) = (0 : Int32)) then G 98 28 [.ref 31, .int a0] [] (ev_hp I J R T) cz kz else G 98 24 [.ref 31, .int a0] [] (ev_hp I J R T) cz kz := by
  intro G
  rfl
set_option maxRecDepth 100000 in
theorem iq_r5 {a0 : Int32} : ∀ G : ez_F, fx_up X 3 G 98 28 [.ref 31, .int a0] [] (ev_hp I J R T) cz kz = G 98 35 [.ref 31, .int a0] [.long (J 8 3)] (ev_hp I J R T) cz kz := by
  intro G
  rfl
set_option maxRecDepth 100000 in
theorem iq_r6 {a0 : Int32} {a1 : Int64} : ∀ G : ez_F, fx_up X 1 G 98 35 [.ref 31, .int a0] [.long a1] (ev_hp I J R T) cz kz = ev_C G 97 [.long a1] (ev_hp I J R T) fun r h1 c1 k1 => G 98 38 [.ref 31, .int a0] (r.toList ++ []) h1 (cz + c1) (kz + k1) := by
  intro G
  rfl
set_option maxRecDepth 100000 in
theorem iq_r7 {a0 : Int32} : ∀ G : ez_F, fx_up X 3 G 98 24 [.ref 31, .int a0] [] (ev_hp I J R T) cz kz = some (some (.int (-1 : Int32)), (ev_hp I J R T), cz, kz) := by
  intro G
  rfl
theorem fs_0 
    (H : ((¬ (I 6 3) = (0 : Int32) → pw N X 98 43 [.ref 31, .int (I 6 3), .int (-1 : Int32), .int (0 : Int32)] [] (ev_hp I J R T) Q) ∧ (¬ (¬ (I 6 3) = (0 : Int32)) → ((¬ (lg_cmp (J 8 3) (0 : Int64)) = (0 : Int32) → (∃ Q1 : pw_Q, pe N X 97 [.long (J 8 3)] (ev_hp I J R T) Q1 ∧ ∀ (r : Option Value) (h1 : ez_H), Q1 r h1 → pw N X 98 38 [.ref 31, .int (I 6 3)] (r.toList ++ []) h1 Q)) ∧ (¬ (¬ (lg_cmp (J 8 3) (0 : Int64)) = (0 : Int32)) → Q (some (.int (-1 : Int32))) (ev_hp I J R T)))))) : pw (N + 1) X 98 0 [.ref 31] [] (ev_hp I J R T) Q := by
  refine pw_seg (by decide) (fun _ _ => iq_r0) ?_
  refine pw_p (pw_if (by decide) (fun _ _ => iq_r1) (fun w1 => ?_) (fun w1 => ?_))
  · have h1 := H.1 w1
    refine pw_p (pw_seg (by decide) (fun _ _ => iq_r2) ?_)
    exact h1
  · have h1 := H.2 w1
    refine pw_p (pw_seg (by decide) (fun _ _ => iq_r3) ?_)
    refine pw_p (pw_if (by decide) (fun _ _ => iq_r4) (fun w2 => ?_) (fun w2 => ?_))
    · have h2 := h1.1 w2
      refine pw_p (pw_seg (by decide) (fun _ _ => iq_r5) ?_)
      obtain ⟨Q1, hc, hk⟩ := h2
      exact pw_p (pw_call (by decide) (fun _ _ => iq_r6) hc hk)
    · have h2 := h1.2 w2
      exact pw_p (pw_ret (by decide) (fun _ _ => iq_r7) h2)
set_option maxRecDepth 100000 in
theorem iq_r8 {a0 : Int32} {a1 : Int32} {a2 : Int32} : ∀ G : ez_F, fx_up X 3 G 98 43 [.ref 31, .int a0, .int a1, .int a2] [] (ev_hp I J R T) cz kz = bif decide (a0 ≤ a2) then G 98 83 [.ref 31, .int a0, .int a1, .int a2] [] (ev_hp I J R T) cz kz else G 98 48 [.ref 31, .int a0, .int a1, .int a2] [] (ev_hp I J R T) cz kz := by
  intro G
  rfl
set_option maxRecDepth 100000 in
theorem iq_r9 {a0 : Int32} {a1 : Int32} {a2 : Int32} : ∀ G : ez_F, fx_up X 2 G 98 83 [.ref 31, .int a0, .int a1, .int a2] [] (ev_hp I J R T) cz kz = some (some (.int a1), (ev_hp I J R T), cz, kz) := by
  intro G
  rfl
set_option maxRecDepth 100000 in
theorem iq_r10 {a0 : Int32} {a1 : Int32} {a2 : Int32} : ∀ G : ez_F, fx_up X 4 G 98 48 [.ref 31, .int a0, .int a1, .int a2] [] (ev_hp I J R T) cz kz = ev_C G 113 [.ref 13, .int a2] (ev_hp I J R T) fun r h1 c1 k1 => G 98 56 [.ref 31, .int a0, .int a1, .int a2] (r.toList ++ []) h1 (cz + c1) (kz + k1) := by
  intro G
  rfl
theorem fs_43 {l b k : Int32}
    (H : ((l ≤ k → Q (some (.int b)) (ev_hp I J R T)) ∧ (¬ (l ≤ k) → (∃ Q1 : pw_Q, pe N X 113 [.ref 13, .int k] (ev_hp I J R T) Q1 ∧ ∀ (r : Option Value) (h1 : ez_H), Q1 r h1 → pw N X 98 56 [.ref 31, .int l, .int b, .int k] (r.toList ++ []) h1 Q)))) : pw (N + 1) X 98 43 [.ref 31, .int l, .int b, .int k] [] (ev_hp I J R T) Q := by
  refine pw_if (by decide) (fun _ _ => iq_r8) (fun w1 => ?_) (fun w1 => ?_)
  · have h1 := H.1 w1
    exact pw_p (pw_ret (by decide) (fun _ _ => iq_r9) h1)
  · have h1 := H.2 w1
    obtain ⟨Q1, hc, hk⟩ := h1
    exact pw_p (pw_call (by decide) (fun _ _ => iq_r10) hc hk)
set_option maxRecDepth 100000 in
theorem iq_r11 {a0 : Int32} {a1 : Int32} {a2 : Int32} {a3 : Int64} : ∀ G : ez_F, fx_up X 5 G 98 56 [.ref 31, .int a0, .int a1, .int a2] [.long a3] (ev_hp I J R T) cz kz = bif decide (¬ (lg_cmp a3 (0 : Int64)) = (0 : Int32)) then G 98 67 [.ref 31, .int a0, .int a1, .int a2, .long a3, ez_fill] [] (ev_hp I J R T) cz kz else G 98 65 [.ref 31, .int a0, .int a1, .int a2, .long a3, ez_fill] [] (ev_hp I J R T) cz kz := by
  intro G
  rfl
set_option maxRecDepth 100000 in
theorem iq_r12 {a0 : Int32} {a1 : Int32} {a2 : Int32} {a3 : Int64} : ∀ G : ez_F, fx_up X 3 G 98 67 [.ref 31, .int a0, .int a1, .int a2, .long a3, ez_fill] [] (ev_hp I J R T) cz kz = ev_C G 97 [.long a3] (ev_hp I J R T) fun r h1 c1 k1 => G 98 73 [.ref 31, .int a0, .int a1, .int a2, .long a3, ez_fill] (r.toList ++ [.int a1]) h1 (cz + c1) (kz + k1) := by
  intro G
  rfl
set_option maxRecDepth 100000 in
theorem iq_r13 {a0 : Int32} {a1 : Int32} {a2 : Int32} {a3 : Int64} : ∀ G : ez_F, fx_up X 2 G 98 65 [.ref 31, .int a0, .int a1, .int a2, .long a3, ez_fill] [] (ev_hp I J R T) cz kz = some (some (.int (-1 : Int32)), (ev_hp I J R T), cz, kz) := by
  intro G
  rfl
theorem fs_56 {l b k : Int32} {z : Int64}
    (H : ((¬ (lg_cmp z (0 : Int64)) = (0 : Int32) → (∃ Q1 : pw_Q, pe N X 97 [.long z] (ev_hp I J R T) Q1 ∧ ∀ (r : Option Value) (h1 : ez_H), Q1 r h1 → pw N X 98 73 [.ref 31, .int l, .int b, .int k, .long z, ez_fill] (r.toList ++ [.int b]) h1 Q)) ∧ (¬ (¬ (lg_cmp z (0 : Int64)) = (0 : Int32)) → Q (some (.int (-1 : Int32))) (ev_hp I J R T)))) : pw (N + 1) X 98 56 [.ref 31, .int l, .int b, .int k] [.long z] (ev_hp I J R T) Q := by
  refine pw_if (by decide) (fun _ _ => iq_r11) (fun w1 => ?_) (fun w1 => ?_)
  · have h1 := H.1 w1
    obtain ⟨Q1, hc, hk⟩ := h1
    exact pw_p (pw_call (by decide) (fun _ _ => iq_r12) hc hk)
  · have h1 := H.2 w1
    exact pw_p (pw_ret (by decide) (fun _ _ => iq_r13) h1)
set_option maxRecDepth 100000 in
theorem iq_r14 {a0 : Int32} {a1 : Int32} : ∀ G : ez_F, fx_up X 1 G 98 38 [.ref 31, .int a0] [.int a1] (ev_hp I J R T) cz kz = some (some (.int a1), (ev_hp I J R T), cz, kz) := by
  intro G
  rfl
theorem fs_38 {l v : Int32}
    (H : Q (some (.int v)) (ev_hp I J R T)) : pw (N + 1) X 98 38 [.ref 31, .int l] [.int v] (ev_hp I J R T) Q := by
  exact pw_ret (by decide) (fun _ _ => iq_r14) H
set_option maxRecDepth 100000 in
theorem iq_r15 {a0 : Int32} {a1 : Int32} {a2 : Int32} {a3 : Int64} {a4 : Int32} {a5 : Int32} : ∀ G : ez_F, fx_up X 4 G 98 73 [.ref 31, .int a0, .int a1, .int a2, .long a3, ez_fill] [.int a4, .int a5] (ev_hp I J R T) cz kz = G 98 43 [.ref 31, .int a0, .int (if a5 < a4 then a4 else a5), .int (a2 + (1 : Int32)), .long a3, ez_fill] [] (ev_hp I J R T) cz kz := by
  intro G
  rfl
theorem fs_73 {l b k v : Int32} {z : Int64}
    (H : pw N X 98 43 [.ref 31, .int l, .int (if b < v then v else b), .int (k + (1 : Int32))] [] (ev_hp I J R T) Q) : pw (N + 1) X 98 73 [.ref 31, .int l, .int b, .int k, .long z, ez_fill] [.int v, .int b] (ev_hp I J R T) Q := by
  refine pw_seg (by decide) (fun _ _ => iq_r15) ?_
  refine pw_cutl (by rfl) ?_
  exact H
set_option maxRecDepth 100000 in
theorem iq_r16  : ∀ G : ez_F, fx_up X 3 G 100 0 [.ref 31] [] (ev_hp I J R T) cz kz = G 100 7 [.ref 31] [.int (I 6 3)] (ev_hp I J R T) cz kz := by
  intro G
  rfl
set_option maxRecDepth 100000 in
theorem iq_r17 {a0 : Int32} : ∀ G : ez_F, fx_up X 7 G 100 7 [.ref 31] [.int a0] (ev_hp I J R T) cz kz = G 100 16 [.ref 31, .int a0, .int (-1 : Int32), .int (31 : Int32), .int (0 : Int32)] [] (ev_hp I J R T) cz kz := by
  intro G
  rfl
theorem lw_0 
    (H : pw N X 100 16 [.ref 31, .int (I 6 3), .int (-1 : Int32), .int (31 : Int32), .int (0 : Int32)] [] (ev_hp I J R T) Q) : pw (N + 1) X 100 0 [.ref 31] [] (ev_hp I J R T) Q := by
  refine pw_seg (by decide) (fun _ _ => iq_r16) ?_
  refine pw_p (pw_seg (by decide) (fun _ _ => iq_r17) ?_)
  exact H
set_option maxRecDepth 100000 in
theorem iq_r18 {a0 : Int32} {a1 : Int32} {a2 : Int32} {a3 : Int32} : ∀ G : ez_F, fx_up X 3 G 100 16 [.ref 31, .int a0, .int a1, .int a2, .int a3] [] (ev_hp I J R T) cz kz = bif decide (a0 ≤ a3) then G 100 54 [.ref 31, .int a0, .int a1, .int a2, .int a3] [] (ev_hp I J R T) cz kz else G 100 22 [.ref 31, .int a0, .int a1, .int a2, .int a3] [] (ev_hp I J R T) cz kz := by
  intro G
  rfl
set_option maxRecDepth 100000 in
theorem iq_r19 {a0 : Int32} {a1 : Int32} {a2 : Int32} {a3 : Int32} : ∀ G : ez_F, fx_up X 2 G 100 54 [.ref 31, .int a0, .int a1, .int a2, .int a3] [] (ev_hp I J R T) cz kz = some (some (.int a1), (ev_hp I J R T), cz, kz) := by
  intro G
  rfl
set_option maxRecDepth 100000 in
theorem iq_r20 {a0 : Int32} {a1 : Int32} {a2 : Int32} {a3 : Int32} : ∀ G : ez_F, fx_up X 4 G 100 22 [.ref 31, .int a0, .int a1, .int a2, .int a3] [] (ev_hp I J R T) cz kz = ev_C G 113 [.ref 13, .int a3] (ev_hp I J R T) fun r h1 c1 k1 => G 100 31 [.ref 31, .int a0, .int a1, .int a2, .int a3] (r.toList ++ []) h1 (cz + c1) (kz + k1) := by
  intro G
  rfl
theorem lw_16 {l b f k : Int32}
    (H : ((l ≤ k → Q (some (.int b)) (ev_hp I J R T)) ∧ (¬ (l ≤ k) → (∃ Q1 : pw_Q, pe N X 113 [.ref 13, .int k] (ev_hp I J R T) Q1 ∧ ∀ (r : Option Value) (h1 : ez_H), Q1 r h1 → pw N X 100 31 [.ref 31, .int l, .int b, .int f, .int k] (r.toList ++ []) h1 Q)))) : pw (N + 1) X 100 16 [.ref 31, .int l, .int b, .int f, .int k] [] (ev_hp I J R T) Q := by
  refine pw_if (by decide) (fun _ _ => iq_r18) (fun w1 => ?_) (fun w1 => ?_)
  · have h1 := H.1 w1
    exact pw_p (pw_ret (by decide) (fun _ _ => iq_r19) h1)
  · have h1 := H.2 w1
    obtain ⟨Q1, hc, hk⟩ := h1
    exact pw_p (pw_call (by decide) (fun _ _ => iq_r20) hc hk)
set_option maxRecDepth 100000 in
theorem iq_r21 {a0 : Int32} {a1 : Int32} {a2 : Int32} {a3 : Int32} {a4 : Int64} : ∀ G : ez_F, fx_up X 1 G 100 31 [.ref 31, .int a0, .int a1, .int a2, .int a3] [.long a4] (ev_hp I J R T) cz kz = ev_C G 237 [.long a4] (ev_hp I J R T) fun r h1 c1 k1 => G 100 34 [.ref 31, .int a0, .int a1, .int a2, .int a3] (r.toList ++ []) h1 (cz + c1) (kz + k1) := by
  intro G
  rfl
set_option maxRecDepth 100000 in
theorem iq_r22 {a0 : Int32} {a1 : Int32} {a2 : Int32} {a3 : Int32} {a4 : Int32} : ∀ G : ez_F, fx_up X 4 G 100 34 [.ref 31, .int a0, .int a1, .int a2, .int a3] [.int a4] (ev_hp I J R T) cz kz = bif decide (a2 ≤ a4) then G 100 48 [.ref 31, .int a0, .int a1, .int a2, .int a3, .int a4] [] (ev_hp I J R T) cz kz else G 100 42 [.ref 31, .int a0, .int a1, .int a2, .int a3, .int a4] [] (ev_hp I J R T) cz kz := by
  intro G
  rfl
set_option maxRecDepth 100000 in
theorem iq_r23 {a0 : Int32} {a1 : Int32} {a2 : Int32} {a3 : Int32} {a4 : Int32} : ∀ G : ez_F, fx_up X 2 G 100 48 [.ref 31, .int a0, .int a1, .int a2, .int a3, .int a4] [] (ev_hp I J R T) cz kz = G 100 16 [.ref 31, .int a0, .int a1, .int a2, .int (a3 + (1 : Int32)), .int a4] [] (ev_hp I J R T) cz kz := by
  intro G
  rfl
set_option maxRecDepth 100000 in
theorem iq_r24 {a0 : Int32} {a1 : Int32} {a2 : Int32} {a3 : Int32} {a4 : Int32} : ∀ G : ez_F, fx_up X 6 G 100 42 [.ref 31, .int a0, .int a1, .int a2, .int a3, .int a4] [] (ev_hp I J R T) cz kz = G 100 16 [.ref 31, .int a0, .int a3, .int a4, .int (a3 + (1 : Int32)), .int a4] [] (ev_hp I J R T) cz kz := by
  intro G
  rfl
theorem lw_31 {l b f k : Int32} {z : Int64}
    (H : ((f ≤ (ev_bcJ z) → pw N X 100 16 [.ref 31, .int l, .int b, .int f, .int (k + (1 : Int32))] [] (ev_hp I J R T) Q) ∧ (¬ (f ≤ (ev_bcJ z)) → pw N X 100 16 [.ref 31, .int l, .int k, .int (ev_bcJ z), .int (k + (1 : Int32))] [] (ev_hp I J R T) Q))) : pw (N + 1) X 100 31 [.ref 31, .int l, .int b, .int f, .int k] [.long z] (ev_hp I J R T) Q := by
  refine pw_callp (by decide) (fun _ _ => iq_r21) (pe_is (ec_bcJ _ _ _)) ?_
  refine pw_p (pw_if (by decide) (fun _ _ => iq_r22) (fun w1 => ?_) (fun w1 => ?_))
  · have h1 := H.1 w1
    refine pw_p (pw_seg (by decide) (fun _ _ => iq_r23) ?_)
    refine pw_cutl (by rfl) ?_
    exact h1
  · have h1 := H.2 w1
    refine pw_p (pw_seg (by decide) (fun _ _ => iq_r24) ?_)
    refine pw_cutl (by rfl) ?_
    exact h1
set_option maxRecDepth 100000 in
theorem iq_r25 {a0 : Int32} : ∀ G : ez_F, fx_up X 4 G 103 0 [.ref 31, .int a0] [] (ev_hp I J R T) cz kz = ev_C G 113 [.ref 13, .int a0] (ev_hp I J R T) fun r h1 c1 k1 => G 103 8 [.ref 31, .int a0] (r.toList ++ []) h1 (cz + c1) (kz + k1) := by
  intro G
  rfl
theorem wq_0 {x : Int32}
    (H : (∃ Q1 : pw_Q, pe N X 113 [.ref 13, .int x] (ev_hp I J R T) Q1 ∧ ∀ (r : Option Value) (h1 : ez_H), Q1 r h1 → pw N X 103 8 [.ref 31, .int x] (r.toList ++ []) h1 Q)) : pw (N + 1) X 103 0 [.ref 31, .int x] [] (ev_hp I J R T) Q := by
  obtain ⟨Q1, hc, hk⟩ := H
  exact pw_call (by decide) (fun _ _ => iq_r25) hc hk
set_option maxRecDepth 100000 in
theorem iq_r26 {a0 : Int32} {a1 : Int64} : ∀ G : ez_F, fx_up X 5 G 103 8 [.ref 31, .int a0] [.long a1] (ev_hp I J R T) cz kz = G 103 15 [.ref 31, .int a0, .long a1, ez_fill, .int (0 : Int32), .int (0 : Int32)] [] (ev_hp I J R T) cz kz := by
  intro G
  rfl
theorem wq_8 {x : Int32} {z : Int64}
    (H : pw N X 103 15 [.ref 31, .int x, .long z, ez_fill, .int (0 : Int32), .int (0 : Int32)] [] (ev_hp I J R T) Q) : pw (N + 1) X 103 8 [.ref 31, .int x] [.long z] (ev_hp I J R T) Q := by
  refine pw_seg (by decide) (fun _ _ => iq_r26) ?_
  exact H
set_option maxRecDepth 100000 in
theorem iq_r27 {a0 : Int32} {a1 : Int64} {a2 : Int32} {a3 : Int32} : ∀ G : ez_F, fx_up X 3 G 103 15 [.ref 31, .int a0, .long a1, ez_fill, .int a2, .int a3] [] (ev_hp I J R T) cz kz = bif decide ((30 : Int32) ≤ a3) then G 103 50 [.ref 31, .int a0, .long a1, ez_fill, .int a2, .int a3] [] (ev_hp I J R T) cz kz else G 103 22 [.ref 31, .int a0, .long a1, ez_fill, .int a2, .int a3] [] (ev_hp I J R T) cz kz := by
  intro G
  rfl
set_option maxRecDepth 100000 in
theorem iq_r28 {a0 : Int32} {a1 : Int64} {a2 : Int32} {a3 : Int32} : ∀ G : ez_F, fx_up X 2 G 103 50 [.ref 31, .int a0, .long a1, ez_fill, .int a2, .int a3] [] (ev_hp I J R T) cz kz = some (some (.int a2), (ev_hp I J R T), cz, kz) := by
  intro G
  rfl
set_option maxRecDepth 100000 in
theorem iq_r29 {a0 : Int32} {a1 : Int64} {a2 : Int32} {a3 : Int32} : ∀ G : ez_F, fx_up X 10 G 103 22 [.ref 31, .int a0, .long a1, ez_fill, .int a2, .int a3] [] (ev_hp I J R T) cz kz = bif decide ((lg_cmp ((a1.toUInt64 >>> (((2 : Int32) * a3).toInt64.toUInt64 &&& Int64.toUInt64 63)).toInt64 &&& (1 : Int64)) (0 : Int64)) = (0 : Int32)) then G 103 44 [.ref 31, .int a0, .long a1, ez_fill, .int a2, .int a3] [] (ev_hp I J R T) cz kz else G 103 35 [.ref 31, .int a0, .long a1, ez_fill, .int a2, .int a3] [] (ev_hp I J R T) cz kz := by
  intro G
  rfl
set_option maxRecDepth 100000 in
theorem iq_r30 {a0 : Int32} {a1 : Int64} {a2 : Int32} {a3 : Int32} : ∀ G : ez_F, fx_up X 2 G 103 44 [.ref 31, .int a0, .long a1, ez_fill, .int a2, .int a3] [] (ev_hp I J R T) cz kz = G 103 15 [.ref 31, .int a0, .long a1, ez_fill, .int a2, .int (a3 + (1 : Int32))] [] (ev_hp I J R T) cz kz := by
  intro G
  rfl
set_option maxRecDepth 100000 in
theorem iq_r31 {a0 : Int32} {a1 : Int64} {a2 : Int32} {a3 : Int32} : ∀ G : ez_F, fx_up X 8 G 103 35 [.ref 31, .int a0, .long a1, ez_fill, .int a2, .int a3] [] (ev_hp I J R T) cz kz = G 103 15 [.ref 31, .int a0, .long a1, ez_fill, .int (a2 ||| ((1 : Int32) <<< (a3 &&& (31 : Int32)))), .int (a3 + (1 : Int32))] [] (ev_hp I J R T) cz kz := by
  intro G
  rfl
theorem wq_15 {x s c : Int32} {z : Int64}
    (H : (((30 : Int32) ≤ c → Q (some (.int s)) (ev_hp I J R T)) ∧ (¬ ((30 : Int32) ≤ c) → (((lg_cmp ((z.toUInt64 >>> (((2 : Int32) * c).toInt64.toUInt64 &&& Int64.toUInt64 63)).toInt64 &&& (1 : Int64)) (0 : Int64)) = (0 : Int32) → pw N X 103 15 [.ref 31, .int x, .long z, ez_fill, .int s, .int (c + (1 : Int32))] [] (ev_hp I J R T) Q) ∧ (¬ ((lg_cmp ((z.toUInt64 >>> (((2 : Int32) * c).toInt64.toUInt64 &&& Int64.toUInt64 63)).toInt64 &&& (1 : Int64)) (0 : Int64)) = (0 : Int32)) → pw N X 103 15 [.ref 31, .int x, .long z, ez_fill, .int (s ||| ((1 : Int32) <<< (c &&& (31 : Int32)))), .int (c + (1 : Int32))] [] (ev_hp I J R T) Q))))) : pw (N + 1) X 103 15 [.ref 31, .int x, .long z, ez_fill, .int s, .int c] [] (ev_hp I J R T) Q := by
  refine pw_if (by decide) (fun _ _ => iq_r27) (fun w1 => ?_) (fun w1 => ?_)
  · have h1 := H.1 w1
    exact pw_p (pw_ret (by decide) (fun _ _ => iq_r28) h1)
  · have h1 := H.2 w1
    refine pw_p (pw_if (by decide) (fun _ _ => iq_r29) (fun w2 => ?_) (fun w2 => ?_))
    · have h2 := h1.1 w2
      refine pw_p (pw_seg (by decide) (fun _ _ => iq_r30) ?_)
      exact h2
    · have h2 := h1.2 w2
      refine pw_p (pw_seg (by decide) (fun _ _ => iq_r31) ?_)
      exact h2
set_option maxRecDepth 100000 in
theorem iq_r32  : ∀ G : ez_F, fx_up X 2 G 102 0 [.ref 31] [] (ev_hp I J R T) cz kz = ev_C G 100 [.ref 31] (ev_hp I J R T) fun r h1 c1 k1 => G 102 4 [.ref 31] (r.toList ++ []) h1 (cz + c1) (kz + k1) := by
  intro G
  rfl
theorem sw_0 
    (H : (∃ Q1 : pw_Q, pe N X 100 [.ref 31] (ev_hp I J R T) Q1 ∧ ∀ (r : Option Value) (h1 : ez_H), Q1 r h1 → pw N X 102 4 [.ref 31] (r.toList ++ []) h1 Q)) : pw (N + 1) X 102 0 [.ref 31] [] (ev_hp I J R T) Q := by
  obtain ⟨Q1, hc, hk⟩ := H
  exact pw_call (by decide) (fun _ _ => iq_r32) hc hk
set_option maxRecDepth 100000 in
theorem iq_r33 {a0 : Int32} : ∀ G : ez_F, fx_up X 4 G 102 4 [.ref 31] [.int a0] (ev_hp I J R T) cz kz = bif decide (a0 = (-1 : Int32)) then G 102 27 [.ref 31, .int a0] [] (ev_hp I J R T) cz kz else G 102 10 [.ref 31, .int a0] [] (ev_hp I J R T) cz kz := by
  intro G
  rfl
set_option maxRecDepth 100000 in
theorem iq_r34 {a0 : Int32} : ∀ G : ez_F, fx_up X 1 G 102 27 [.ref 31, .int a0] [] (ev_hp I J R T) cz kz = G 102 28 [.ref 31, .int a0] [.int (0 : Int32)] (ev_hp I J R T) cz kz := by
  intro G
  rfl
set_option maxRecDepth 100000 in
theorem iq_r35 {a0 : Int32} : ∀ G : ez_F, fx_up X 4 G 102 10 [.ref 31, .int a0] [] (ev_hp I J R T) cz kz = ev_C G 113 [.ref 13, .int a0] (ev_hp I J R T) fun r h1 c1 k1 => G 102 18 [.ref 31, .int a0] (r.toList ++ []) h1 (cz + c1) (kz + k1) := by
  intro G
  rfl
theorem sw_4 {v : Int32}
    (H : ((v = (-1 : Int32) → ((0 : Int32) = 0 ∨ (0 : Int32) = 1 → Q (some (.int (0 : Int32))) (ev_hp I J R T))) ∧ (¬ (v = (-1 : Int32)) → (∃ Q1 : pw_Q, pe N X 113 [.ref 13, .int v] (ev_hp I J R T) Q1 ∧ ∀ (r : Option Value) (h1 : ez_H), Q1 r h1 → pw N X 102 18 [.ref 31, .int v] (r.toList ++ []) h1 Q)))) : pw (N + 1) X 102 4 [.ref 31] [.int v] (ev_hp I J R T) Q := by
  refine pw_if (by decide) (fun _ _ => iq_r33) (fun w1 => ?_) (fun w1 => ?_)
  · have h1 := H.1 w1
    refine pw_p (pw_seg (by decide) (fun _ _ => iq_r34) ?_)
    exact pw_p (pw_zret (by rfl) h1)
  · have h1 := H.2 w1
    obtain ⟨Q1, hc, hk⟩ := h1
    exact pw_p (pw_call (by decide) (fun _ _ => iq_r35) hc hk)
set_option maxRecDepth 100000 in
theorem iq_r36 {a0 : Int32} {a1 : Int64} : ∀ G : ez_F, fx_up X 3 G 102 18 [.ref 31, .int a0] [.long a1] (ev_hp I J R T) cz kz = bif decide (¬ (lg_cmp a1 (0 : Int64)) = (0 : Int32)) then G 102 27 [.ref 31, .int a0] [] (ev_hp I J R T) cz kz else G 102 23 [.ref 31, .int a0] [] (ev_hp I J R T) cz kz := by
  intro G
  rfl
set_option maxRecDepth 100000 in
theorem iq_r37 {a0 : Int32} : ∀ G : ez_F, fx_up X 2 G 102 23 [.ref 31, .int a0] [] (ev_hp I J R T) cz kz = G 102 28 [.ref 31, .int a0] [.int (1 : Int32)] (ev_hp I J R T) cz kz := by
  intro G
  rfl
theorem sw_18 {v : Int32} {z : Int64}
    (H : ((¬ (lg_cmp z (0 : Int64)) = (0 : Int32) → ((0 : Int32) = 0 ∨ (0 : Int32) = 1 → Q (some (.int (0 : Int32))) (ev_hp I J R T))) ∧ (¬ (¬ (lg_cmp z (0 : Int64)) = (0 : Int32)) → ((1 : Int32) = 0 ∨ (1 : Int32) = 1 → Q (some (.int (1 : Int32))) (ev_hp I J R T))))) : pw (N + 1) X 102 18 [.ref 31, .int v] [.long z] (ev_hp I J R T) Q := by
  refine pw_if (by decide) (fun _ _ => iq_r36) (fun w1 => ?_) (fun w1 => ?_)
  · have h1 := H.1 w1
    refine pw_p (pw_seg (by decide) (fun _ _ => iq_r34) ?_)
    exact pw_p (pw_zret (by rfl) h1)
  · have h1 := H.2 w1
    refine pw_p (pw_seg (by decide) (fun _ _ => iq_r37) ?_)
    exact pw_p (pw_zret (by rfl) h1)
set_option maxRecDepth 100000 in
theorem iq_r38 {a0 : Int64} : ∀ G : ez_F, fx_up X 2 G 97 0 [.long a0, ez_fill] [] (ev_hp I J R T) cz kz = ev_C G 239 [.long a0] (ev_hp I J R T) fun r h1 c1 k1 => G 97 4 [.long a0, ez_fill] (r.toList ++ []) h1 (cz + c1) (kz + k1) := by
  intro G
  rfl
theorem fq_0 {z : Int64}
    (H : (∃ Q1 : pw_Q, pe N X 239 [.long z] (ev_hp I J R T) Q1 ∧ ∀ (r : Option Value) (h1 : ez_H), Q1 r h1 → pw N X 97 4 [.long z, ez_fill] (r.toList ++ []) h1 Q)) : pw (N + 1) X 97 0 [.long z, ez_fill] [] (ev_hp I J R T) Q := by
  obtain ⟨Q1, hc, hk⟩ := H
  exact pw_call (by decide) (fun _ _ => iq_r38) hc hk
set_option maxRecDepth 100000 in
theorem iq_r39 {a0 : Int64} {a1 : Int32} : ∀ G : ez_F, fx_up X 3 G 97 4 [.long a0, ez_fill] [.int a1] (ev_hp I J R T) cz kz = some (some (.int (a1 >>> ((1 : Int32) &&& (31 : Int32)))), (ev_hp I J R T), cz, kz) := by
  intro G
  rfl
theorem fq_4 {v : Int32} {z : Int64}
    (H : Q (some (.int (v >>> ((1 : Int32) &&& (31 : Int32))))) (ev_hp I J R T)) : pw (N + 1) X 97 4 [.long z, ez_fill] [.int v] (ev_hp I J R T) Q := by
  exact pw_ret (by decide) (fun _ _ => iq_r39) H
set_option maxRecDepth 100000 in
theorem iq_r40 {a0 : Int32} : ∀ G : ez_F, fx_up X 1 G 47 4 [.ref 0] [.int a0] (ev_hp I J R T) cz kz = bif decide (a0 = (0 : Int32)) then G 47 10 [.ref 0] [] (ev_hp I J R T) cz kz else G 47 7 [.ref 0] [] (ev_hp I J R T) cz kz := by
  intro G
  rfl
set_option maxRecDepth 100000 in
theorem iq_r41  : ∀ G : ez_F, fx_up X 3 G 47 10 [.ref 0] [] (ev_hp I J R T) cz kz = ev_C G 112 [.ref 13] (ev_hp I J R T) fun r h1 c1 k1 => G 47 17 [.ref 0] (r.toList ++ []) h1 (cz + c1) (kz + k1) := by
  intro G
  rfl
set_option maxRecDepth 100000 in
theorem iq_r42  : ∀ G : ez_F, fx_up X 2 G 47 7 [.ref 0] [] (ev_hp I J R T) cz kz = some (some (.int (-6 : Int32)), (ev_hp I J R T), cz, kz) := by
  intro G
  rfl
theorem st_4 {v : Int32}
    (H : ((v = (0 : Int32) → (∃ Q1 : pw_Q, pe N X 112 [.ref 13] (ev_hp I J R T) Q1 ∧ ∀ (r : Option Value) (h1 : ez_H), Q1 r h1 → pw N X 47 17 [.ref 0] (r.toList ++ []) h1 Q)) ∧ (¬ (v = (0 : Int32)) → Q (some (.int (-6 : Int32))) (ev_hp I J R T)))) : pw (N + 1) X 47 4 [.ref 0] [.int v] (ev_hp I J R T) Q := by
  refine pw_if (by decide) (fun _ _ => iq_r40) (fun w1 => ?_) (fun w1 => ?_)
  · have h1 := H.1 w1
    obtain ⟨Q1, hc, hk⟩ := h1
    exact pw_p (pw_call (by decide) (fun _ _ => iq_r41) hc hk)
  · have h1 := H.2 w1
    exact pw_p (pw_ret (by decide) (fun _ _ => iq_r42) h1)
set_option maxRecDepth 100000 in
theorem iq_r43  : ∀ G : ez_F, fx_up X 3 G 47 17 [.ref 0] [] (ev_hp I J R T) cz kz = ev_C G 98 [.ref 31] (ev_hp I J R T) fun r h1 c1 k1 => G 47 24 [.ref 0] (r.toList ++ []) h1 (cz + c1) (kz + k1) := by
  intro G
  rfl
theorem st_17 
    (H : (∃ Q1 : pw_Q, pe N X 98 [.ref 31] (ev_hp I J R T) Q1 ∧ ∀ (r : Option Value) (h1 : ez_H), Q1 r h1 → pw N X 47 24 [.ref 0] (r.toList ++ []) h1 Q)) : pw (N + 1) X 47 17 [.ref 0] [] (ev_hp I J R T) Q := by
  obtain ⟨Q1, hc, hk⟩ := H
  exact pw_call (by decide) (fun _ _ => iq_r43) hc hk
set_option maxRecDepth 100000 in
theorem iq_r44 {a0 : Int32} : ∀ G : ez_F, fx_up X 1 G 47 24 [.ref 0] [.int a0] (ev_hp I J R T) cz kz = some (some (.int a0), (ev_hp I J R T), cz, kz) := by
  intro G
  rfl
theorem st_24 {v : Int32}
    (H : Q (some (.int v)) (ev_hp I J R T)) : pw (N + 1) X 47 24 [.ref 0] [.int v] (ev_hp I J R T) Q := by
  exact pw_ret (by decide) (fun _ _ => iq_r44) H
set_option maxRecDepth 100000 in
theorem iq_r45 {a0 : Int32} : ∀ G : ez_F, fx_up X 1 G 8 4 [.ref 0] [.int a0] (ev_hp I J R T) cz kz = bif decide (a0 = (0 : Int32)) then G 8 10 [.ref 0] [] (ev_hp I J R T) cz kz else G 8 7 [.ref 0] [] (ev_hp I J R T) cz kz := by
  intro G
  rfl
set_option maxRecDepth 100000 in
theorem iq_r46  : ∀ G : ez_F, fx_up X 3 G 8 10 [.ref 0] [] (ev_hp I J R T) cz kz = ev_C G 112 [.ref 13] (ev_hp I J R T) fun r h1 c1 k1 => G 8 17 [.ref 0] (r.toList ++ []) h1 (cz + c1) (kz + k1) := by
  intro G
  rfl
set_option maxRecDepth 100000 in
theorem iq_r47  : ∀ G : ez_F, fx_up X 2 G 8 7 [.ref 0] [] (ev_hp I J R T) cz kz = some (some (.int (-6 : Int32)), (ev_hp I J R T), cz, kz) := by
  intro G
  rfl
theorem bl_4 {v : Int32}
    (H : ((v = (0 : Int32) → (∃ Q1 : pw_Q, pe N X 112 [.ref 13] (ev_hp I J R T) Q1 ∧ ∀ (r : Option Value) (h1 : ez_H), Q1 r h1 → pw N X 8 17 [.ref 0] (r.toList ++ []) h1 Q)) ∧ (¬ (v = (0 : Int32)) → Q (some (.int (-6 : Int32))) (ev_hp I J R T)))) : pw (N + 1) X 8 4 [.ref 0] [.int v] (ev_hp I J R T) Q := by
  refine pw_if (by decide) (fun _ _ => iq_r45) (fun w1 => ?_) (fun w1 => ?_)
  · have h1 := H.1 w1
    obtain ⟨Q1, hc, hk⟩ := h1
    exact pw_p (pw_call (by decide) (fun _ _ => iq_r46) hc hk)
  · have h1 := H.2 w1
    exact pw_p (pw_ret (by decide) (fun _ _ => iq_r47) h1)
set_option maxRecDepth 100000 in
theorem iq_r48  : ∀ G : ez_F, fx_up X 3 G 8 17 [.ref 0] [] (ev_hp I J R T) cz kz = ev_C G 100 [.ref 31] (ev_hp I J R T) fun r h1 c1 k1 => G 8 24 [.ref 0] (r.toList ++ []) h1 (cz + c1) (kz + k1) := by
  intro G
  rfl
theorem bl_17 
    (H : (∃ Q1 : pw_Q, pe N X 100 [.ref 31] (ev_hp I J R T) Q1 ∧ ∀ (r : Option Value) (h1 : ez_H), Q1 r h1 → pw N X 8 24 [.ref 0] (r.toList ++ []) h1 Q)) : pw (N + 1) X 8 17 [.ref 0] [] (ev_hp I J R T) Q := by
  obtain ⟨Q1, hc, hk⟩ := H
  exact pw_call (by decide) (fun _ _ => iq_r48) hc hk
set_option maxRecDepth 100000 in
theorem iq_r49 {a0 : Int32} : ∀ G : ez_F, fx_up X 4 G 8 24 [.ref 0] [.int a0] (ev_hp I J R T) cz kz = bif decide (¬ a0 = (-1 : Int32)) then G 8 34 [.ref 0, .int a0] [] (ev_hp I J R T) cz kz else G 8 30 [.ref 0, .int a0] [] (ev_hp I J R T) cz kz := by
  intro G
  rfl
set_option maxRecDepth 100000 in
theorem iq_r50 {a0 : Int32} : ∀ G : ez_F, fx_up X 4 G 8 34 [.ref 0, .int a0] [] (ev_hp I J R T) cz kz = ev_C G 113 [.ref 13, .int a0] (ev_hp I J R T) fun r h1 c1 k1 => G 8 42 [.ref 0, .int a0] (r.toList ++ []) h1 (cz + c1) (kz + k1) := by
  intro G
  rfl
set_option maxRecDepth 100000 in
theorem iq_r51 {a0 : Int32} : ∀ G : ez_F, fx_up X 3 G 8 30 [.ref 0, .int a0] [] (ev_hp I J R T) cz kz = some (some (.int (-1 : Int32)), (ev_hp I J R T), cz, kz) := by
  intro G
  rfl
theorem bl_24 {v : Int32}
    (H : ((¬ v = (-1 : Int32) → (∃ Q1 : pw_Q, pe N X 113 [.ref 13, .int v] (ev_hp I J R T) Q1 ∧ ∀ (r : Option Value) (h1 : ez_H), Q1 r h1 → pw N X 8 42 [.ref 0, .int v] (r.toList ++ []) h1 Q)) ∧ (¬ (¬ v = (-1 : Int32)) → Q (some (.int (-1 : Int32))) (ev_hp I J R T)))) : pw (N + 1) X 8 24 [.ref 0] [.int v] (ev_hp I J R T) Q := by
  refine pw_if (by decide) (fun _ _ => iq_r49) (fun w1 => ?_) (fun w1 => ?_)
  · have h1 := H.1 w1
    obtain ⟨Q1, hc, hk⟩ := h1
    exact pw_p (pw_call (by decide) (fun _ _ => iq_r50) hc hk)
  · have h1 := H.2 w1
    exact pw_p (pw_ret (by decide) (fun _ _ => iq_r51) h1)
set_option maxRecDepth 100000 in
theorem iq_r52 {a0 : Int32} {a1 : Int64} : ∀ G : ez_F, fx_up X 1 G 8 42 [.ref 0, .int a0] [.long a1] (ev_hp I J R T) cz kz = ev_C G 237 [.long a1] (ev_hp I J R T) fun r h1 c1 k1 => G 8 45 [.ref 0, .int a0] (r.toList ++ []) h1 (cz + c1) (kz + k1) := by
  intro G
  rfl
set_option maxRecDepth 100000 in
theorem iq_r53 {a0 : Int32} {a1 : Int32} : ∀ G : ez_F, fx_up X 1 G 8 45 [.ref 0, .int a0] [.int a1] (ev_hp I J R T) cz kz = some (some (.int a1), (ev_hp I J R T), cz, kz) := by
  intro G
  rfl
theorem bl_42 {v : Int32} {z : Int64}
    (H : Q (some (.int (ev_bcJ z))) (ev_hp I J R T)) : pw (N + 1) X 8 42 [.ref 0, .int v] [.long z] (ev_hp I J R T) Q := by
  refine pw_callp (by decide) (fun _ _ => iq_r52) (pe_is (ec_bcJ _ _ _)) ?_
  exact pw_p (pw_ret (by decide) (fun _ _ => iq_r53) H)
set_option maxRecDepth 100000 in
theorem iq_r54 {a0 : Int32} : ∀ G : ez_F, fx_up X 1 G 9 4 [.ref 0] [.int a0] (ev_hp I J R T) cz kz = bif decide (a0 = (0 : Int32)) then G 9 10 [.ref 0] [] (ev_hp I J R T) cz kz else G 9 7 [.ref 0] [] (ev_hp I J R T) cz kz := by
  intro G
  rfl
set_option maxRecDepth 100000 in
theorem iq_r55  : ∀ G : ez_F, fx_up X 3 G 9 10 [.ref 0] [] (ev_hp I J R T) cz kz = ev_C G 112 [.ref 13] (ev_hp I J R T) fun r h1 c1 k1 => G 9 17 [.ref 0] (r.toList ++ []) h1 (cz + c1) (kz + k1) := by
  intro G
  rfl
set_option maxRecDepth 100000 in
theorem iq_r56  : ∀ G : ez_F, fx_up X 2 G 9 7 [.ref 0] [] (ev_hp I J R T) cz kz = some (some (.int (-6 : Int32)), (ev_hp I J R T), cz, kz) := by
  intro G
  rfl
theorem bd_4 {v : Int32}
    (H : ((v = (0 : Int32) → (∃ Q1 : pw_Q, pe N X 112 [.ref 13] (ev_hp I J R T) Q1 ∧ ∀ (r : Option Value) (h1 : ez_H), Q1 r h1 → pw N X 9 17 [.ref 0] (r.toList ++ []) h1 Q)) ∧ (¬ (v = (0 : Int32)) → Q (some (.int (-6 : Int32))) (ev_hp I J R T)))) : pw (N + 1) X 9 4 [.ref 0] [.int v] (ev_hp I J R T) Q := by
  refine pw_if (by decide) (fun _ _ => iq_r54) (fun w1 => ?_) (fun w1 => ?_)
  · have h1 := H.1 w1
    obtain ⟨Q1, hc, hk⟩ := h1
    exact pw_p (pw_call (by decide) (fun _ _ => iq_r55) hc hk)
  · have h1 := H.2 w1
    exact pw_p (pw_ret (by decide) (fun _ _ => iq_r56) h1)
set_option maxRecDepth 100000 in
theorem iq_r57  : ∀ G : ez_F, fx_up X 3 G 9 17 [.ref 0] [] (ev_hp I J R T) cz kz = ev_C G 100 [.ref 31] (ev_hp I J R T) fun r h1 c1 k1 => G 9 24 [.ref 0] (r.toList ++ []) h1 (cz + c1) (kz + k1) := by
  intro G
  rfl
theorem bd_17 
    (H : (∃ Q1 : pw_Q, pe N X 100 [.ref 31] (ev_hp I J R T) Q1 ∧ ∀ (r : Option Value) (h1 : ez_H), Q1 r h1 → pw N X 9 24 [.ref 0] (r.toList ++ []) h1 Q)) : pw (N + 1) X 9 17 [.ref 0] [] (ev_hp I J R T) Q := by
  obtain ⟨Q1, hc, hk⟩ := H
  exact pw_call (by decide) (fun _ _ => iq_r57) hc hk
set_option maxRecDepth 100000 in
theorem iq_r58 {a0 : Int32} : ∀ G : ez_F, fx_up X 4 G 9 24 [.ref 0] [.int a0] (ev_hp I J R T) cz kz = bif decide (¬ a0 = (-1 : Int32)) then G 9 34 [.ref 0, .int a0] [] (ev_hp I J R T) cz kz else G 9 30 [.ref 0, .int a0] [] (ev_hp I J R T) cz kz := by
  intro G
  rfl
set_option maxRecDepth 100000 in
theorem iq_r59 {a0 : Int32} : ∀ G : ez_F, fx_up X 4 G 9 34 [.ref 0, .int a0] [] (ev_hp I J R T) cz kz = ev_C G 103 [.ref 31, .int a0] (ev_hp I J R T) fun r h1 c1 k1 => G 9 42 [.ref 0, .int a0] (r.toList ++ []) h1 (cz + c1) (kz + k1) := by
  intro G
  rfl
set_option maxRecDepth 100000 in
theorem iq_r60 {a0 : Int32} : ∀ G : ez_F, fx_up X 3 G 9 30 [.ref 0, .int a0] [] (ev_hp I J R T) cz kz = some (some (.int (0 : Int32)), (ev_hp I J R T), cz, kz) := by
  intro G
  rfl
theorem bd_24 {v : Int32}
    (H : ((¬ v = (-1 : Int32) → (∃ Q1 : pw_Q, pe N X 103 [.ref 31, .int v] (ev_hp I J R T) Q1 ∧ ∀ (r : Option Value) (h1 : ez_H), Q1 r h1 → pw N X 9 42 [.ref 0, .int v] (r.toList ++ []) h1 Q)) ∧ (¬ (¬ v = (-1 : Int32)) → Q (some (.int (0 : Int32))) (ev_hp I J R T)))) : pw (N + 1) X 9 24 [.ref 0] [.int v] (ev_hp I J R T) Q := by
  refine pw_if (by decide) (fun _ _ => iq_r58) (fun w1 => ?_) (fun w1 => ?_)
  · have h1 := H.1 w1
    obtain ⟨Q1, hc, hk⟩ := h1
    exact pw_p (pw_call (by decide) (fun _ _ => iq_r59) hc hk)
  · have h1 := H.2 w1
    exact pw_p (pw_ret (by decide) (fun _ _ => iq_r60) h1)
set_option maxRecDepth 100000 in
theorem iq_r61 {a0 : Int32} {a1 : Int32} : ∀ G : ez_F, fx_up X 1 G 9 42 [.ref 0, .int a0] [.int a1] (ev_hp I J R T) cz kz = some (some (.int a1), (ev_hp I J R T), cz, kz) := by
  intro G
  rfl
theorem bd_42 {u v : Int32}
    (H : Q (some (.int u)) (ev_hp I J R T)) : pw (N + 1) X 9 42 [.ref 0, .int v] [.int u] (ev_hp I J R T) Q := by
  exact pw_ret (by decide) (fun _ _ => iq_r61) H
end
/-! the fewest, and the first of them -/
noncomputable def lwF (p : Nat → Nat) : Nat → Nat
  | 0 => 31
  | k + 1 => if p k < lwF p k then p k else lwF p k
noncomputable def lwI (p : Nat → Nat) : Nat → Nat
  | 0 => 0
  | k + 1 => if p k < lwF p k then k else lwI p k
noncomputable def lwV (p : Nat → Nat) (k : Nat) : Int32 := if k = 0 then -1 else Int32.ofNat (lwI p k)
theorem lwF_le (p : Nat → Nat) : ∀ k, lwF p k ≤ 31 ∧ ∀ j, j < k → lwF p k ≤ p j := by
  intro k
  induction k with
  | zero => exact ⟨Nat.le_refl _, fun j hj => absurd hj (by omega)⟩
  | succ k ih =>
    unfold lwF
    refine ⟨?_, fun j hj => ?_⟩
    · split
      · have := ih.1
        omega
      · exact ih.1
    · by_cases e : j = k
      · subst e
        split <;> omega
      · have := ih.2 j (by omega)
        split <;> omega
theorem lwI_is {p : Nat → Nat} : ∀ k, 0 < k → (∀ j, j < k → p j ≤ 30) → lwI p k < k ∧ p (lwI p k) = lwF p k ∧ ∀ j, j < lwI p k → lwF p k < p j := by
  intro k
  induction k with
  | zero => intro h; omega
  | succ k ih =>
    intro _ hp
    have hF : lwF p (k + 1) = if p k < lwF p k then p k else lwF p k := rfl
    have hI : lwI p (k + 1) = if p k < lwF p k then k else lwI p k := rfl
    rw [hF, hI]
    by_cases hk : k = 0
    · subst hk
      have : p 0 < lwF p 0 := by
        have := hp 0 (by omega)
        show p 0 < 31
        omega
      rw [if_pos this, if_pos this]
      exact ⟨by omega, rfl, fun j hj => absurd hj (by omega)⟩
    · obtain ⟨h1, h2, h3⟩ := ih (by omega) fun j hj => hp j (by omega)
      have h4 := (lwF_le p k).2
      by_cases h : p k < lwF p k
      · rw [if_pos h, if_pos h]
        refine ⟨by omega, rfl, fun j hj => ?_⟩
        have := h4 j hj
        omega
      · rw [if_neg h, if_neg h]
        exact ⟨by omega, h2, h3⟩
noncomputable def wqF (w : Nat → Bool) : Nat → Int32
  | 0 => 0
  | c + 1 => if w c = true then wqF w c ||| ((1 : Int32) <<< (Int32.ofNat c &&& (31 : Int32))) else wqF w c
/-- the first of them; n where there is none -/
noncomputable def ff (p : Nat → Bool) : Nat → Nat
  | 0 => 0
  | c + 1 => if ff p c < c then ff p c else if p c = true then c else c + 1
theorem ff_is (p : Nat → Bool) : ∀ n, ff p n ≤ n ∧ (∀ c, c < ff p n → p c = false) ∧ (ff p n < n → p (ff p n) = true) := by
  intro n
  induction n with
  | zero => exact ⟨Nat.le_refl _, fun c hc => absurd hc (Nat.not_lt_zero c), fun h => absurd h (Nat.lt_irrefl 0)⟩
  | succ n ih =>
    obtain ⟨h1, h2, h3⟩ := ih
    unfold ff
    by_cases h : ff p n < n
    · rw [if_pos h]
      exact ⟨by omega, h2, fun _ => h3 h⟩
    · have e : ff p n = n := by omega
      rw [if_neg h]
      rw [e] at h2
      cases hp : p n
      · rw [if_neg (by decide)]
        refine ⟨Nat.le_refl _, fun c hc => ?_, fun z => absurd z (Nat.lt_irrefl _)⟩
        by_cases ec : c = n
        · rw [ec]
          exact hp
        · exact h2 c (by omega)
      · rw [if_pos rfl]
        exact ⟨by omega, h2, fun _ => hp⟩
/-- the furthest of the first -/
noncomputable def mxF (f : Nat → Nat) : Nat → Nat
  | 0 => 0
  | k + 1 => if mxF f k < f k then f k else mxF f k
theorem mxF_is (f : Nat → Nat) : ∀ k, (∀ j, j < k → f j ≤ mxF f k) ∧ (∀ m, (∀ j, j < k → f j ≤ m) → mxF f k ≤ m) := by
  intro k
  induction k with
  | zero => exact ⟨fun j hj => absurd hj (by omega), fun m _ => Nat.zero_le m⟩
  | succ k ih =>
    unfold mxF
    refine ⟨fun j hj => ?_, fun m hm => ?_⟩
    · by_cases e : j = k
      · subst e
        split <;> omega
      · have := ih.1 j (by omega)
        split <;> omega
    · have h1 := ih.2 m fun j hj => hm j (by omega)
      have h2 := hm k (by omega)
      split <;> omega
section
variable {N : Nat} {X : ez_X} {I : Nat → Nat → Int32} {J : Nat → Nat → Int64} {R : Nat → Nat} {T : List ez_C} {x : Int32} {g : Nat → Int64} {n l : Nat}
theorem pe_leastWrong {p : Nat → Nat} (r1 : rowJ (R 1) T n g) (hl : l ≤ n) (hn : n ≤ 10000) (e63 : I 6 3 = Int32.ofNat l) (hp : ∀ k, k < l → pcJ (wrB (J 8 2) (J 8 3) (g k)) = p k) (hp30 : ∀ k, k < l → p k ≤ 30) : pe N X 100 [.ref 31] (ev_hp I J R T) (fun r h => r = some (.int (lwV p l)) ∧ h = ev_hp I J R T) := by
  have loop : ∀ (d k : Nat), k + d = l → ∀ N, pw N X 100 16 [.ref 31, .int (Int32.ofNat l), .int (lwV p k), .int (Int32.ofNat (lwF p k)), .int (Int32.ofNat k)] [] (ev_hp I J R T) (fun r h => r = some (.int (lwV p l)) ∧ h = ev_hp I J R T) := by
    intro d
    induction d with
    | zero =>
      intro k hk N
      obtain rfl : k = l := by omega
      exact pw_p (lw_16 ⟨fun _ => ⟨rfl, rfl⟩, fun g => absurd (Int32.le_refl _) g⟩)
    | succ d ih =>
      intro k hkd N
      have hk : k < l := by omega
      have h5 := ih (k + 1) (by omega) N
      have hF : lwF p (k + 1) = if p k < lwF p k then p k else lwF p k := rfl
      have hI : lwI p (k + 1) = if p k < lwF p k then k else lwI p k := rfl
      have h31 := (lwF_le p k).1
      have h30 := hp30 k hk
      refine pw_p (lw_16 ⟨fun g => ?_, fun _ => ⟨_, pe_wrongs r1 hn (by omega) rfl, ?_⟩⟩)
      · rw [io_le (by omega) (by omega)] at g
        omega
      rintro r h ⟨rfl, rfl⟩
      refine pw_p (lw_31 ?_)
      rw [pcJ_bc, hp k hk, io_1, io_le (by omega) (by omega)]
      refine ⟨fun g => ?_, fun g => ?_⟩
      · have hk0 : ¬ k = 0 := fun z => by
          subst z
          have : lwF p 0 = 31 := rfl
          omega
        unfold lwV at h5 ⊢
        rw [if_neg (by omega), hF, hI, if_neg (by omega), if_neg (by omega)] at h5
        rw [if_neg hk0]
        exact h5
      · unfold lwV at h5
        rw [if_neg (by omega), hF, hI, if_pos (by omega), if_pos (by omega)] at h5
        exact h5
  refine pe_of (pw_p (lw_0 ?_))
  rw [e63]
  exact loop l 0 (by omega) N
theorem pe_wrongCalls {k : Nat} (r1 : rowJ (R 1) T n g) (hn : n ≤ 10000) (hk : k < n) (hx : x = Int32.ofNat k) : pe N X 103 [.ref 31, .int x] (ev_hp I J R T) (fun r h => r = some (.int (wqF (fun c => kb (wrB (J 8 2) (J 8 3) (g k)) (2 * c)) 30)) ∧ h = ev_hp I J R T) := by
  have loop : ∀ (d c : Nat), c + d = 30 → ∀ N, pw N X 103 15 [.ref 31, .int x, .long (wrB (J 8 2) (J 8 3) (g k)), ez_fill, .int (wqF (fun c => kb (wrB (J 8 2) (J 8 3) (g k)) (2 * c)) c), .int (Int32.ofNat c)] [] (ev_hp I J R T) (fun r h => r = some (.int (wqF (fun c => kb (wrB (J 8 2) (J 8 3) (g k)) (2 * c)) 30)) ∧ h = ev_hp I J R T) := by
    intro d
    induction d with
    | zero =>
      intro c hc N
      obtain rfl : c = 30 := by omega
      exact pw_p (wq_15 ⟨fun _ => ⟨rfl, rfl⟩, fun g => absurd (by decide) g⟩)
    | succ d ih =>
      intro c hcd N
      have e : wqF (fun c => kb (wrB (J 8 2) (J 8 3) (g k)) (2 * c)) (c + 1) = if kb (wrB (J 8 2) (J 8 3) (g k)) (2 * c) = true then wqF (fun c => kb (wrB (J 8 2) (J 8 3) (g k)) (2 * c)) c ||| ((1 : Int32) <<< (Int32.ofNat c &&& (31 : Int32))) else wqF (fun c => kb (wrB (J 8 2) (J 8 3) (g k)) (2 * c)) c := rfl
      have h5 := ih (c + 1) (by omega) N
      rw [e] at h5
      have hkn := td_known (wrB (J 8 2) (J 8 3) (g k)) (c := c) (by omega)
      refine pw_p (wq_15 ?_)
      rw [io_1]
      refine ⟨fun g => ?_, fun _ => ⟨fun g2 => ?_, fun g2 => ?_⟩⟩
      · rw [show (30 : Int32) = Int32.ofNat 30 from rfl, io_le (by omega) (by omega)] at g
        omega
      · have hf := hkn.mp g2
        rw [if_neg (by rw [hf]; decide)] at h5
        exact h5
      · have hf : kb (wrB (J 8 2) (J 8 3) (g k)) (2 * c) = true := by
          cases hb : kb (wrB (J 8 2) (J 8 3) (g k)) (2 * c)
          · exact absurd (hkn.mpr hb) g2
          · rfl
        rw [if_pos hf] at h5
        exact h5
  refine pe_of (pw_p (wq_0 ⟨_, pe_wrongs r1 hn hk hx, ?_⟩))
  rintro r h ⟨rfl, rfl⟩
  exact pw_p (wq_8 (loop 30 0 (by omega) _))
theorem pe_someIsTrue {p : Nat → Nat} (r1 : rowJ (R 1) T n g) (hl : l ≤ n) (hn : n ≤ 10000) (e63 : I 6 3 = Int32.ofNat l) (hp : ∀ k, k < l → pcJ (wrB (J 8 2) (J 8 3) (g k)) = p k) (hp30 : ∀ k, k < l → p k ≤ 30) : pe N X 102 [.ref 31] (ev_hp I J R T) (fun r h => (r = some (.int 0) ∨ r = some (.int 1)) ∧ h = ev_hp I J R T) := by
  refine pe_of (pw_p (sw_0 ⟨_, pe_leastWrong r1 hl hn e63 hp hp30, ?_⟩))
  rintro r h ⟨rfl, rfl⟩
  refine pw_p (sw_4 ⟨fun _ _ => ⟨Or.inl rfl, rfl⟩, fun g => ?_⟩)
  by_cases hl0 : l = 0
  · exact absurd (show lwV p l = -1 by unfold lwV; rw [if_pos hl0]) g
  · have hi := lwI_is (p := p) l (by omega) hp30
    refine ⟨_, pe_wrongs (k := lwI p l) r1 hn (by omega) (by unfold lwV; rw [if_neg hl0]), ?_⟩
    rintro r h ⟨rfl, rfl⟩
    exact pw_p (sw_18 ⟨fun _ _ => ⟨Or.inl rfl, rfl⟩, fun _ _ => ⟨Or.inr rfl, rfl⟩⟩)
/-- the first call of a set of bits -/
theorem pe_firstCall {z : Int64} {c : Nat} (hj : kb z (2 * c) = true) (h0 : ∀ i, i < 2 * c → kb z i = false) (hc : c < 32) : pe N X 97 [.long z] (ev_hp I J R T) (fun r h => r = some (.int (Int32.ofNat c)) ∧ h = ev_hp I J R T) := by
  refine pe_of (pw_p (fq_0 ⟨_, pe_ntz hj h0 (by omega), ?_⟩))
  rintro r h ⟨rfl, rfl⟩
  refine pw_p (fq_4 ⟨?_, rfl⟩)
  have key : ∀ c, c < 32 → (Int32.ofNat (2 * c)) >>> ((1 : Int32) &&& (31 : Int32)) = Int32.ofNat c := by decide
  rw [key c hc]
end
end
section
/-! The class: the answers of stray, blame, blamed. -/
theorem fz_is {z : Int64} {p : Nat → Bool} {n : Nat} (h1 : ∀ c, c < n → kb z (2 * c) = p c) (h2 : ∀ i, kb z i = true → i % 2 = 0 ∧ i / 2 < n) : (ff p n < n → kb z (2 * ff p n) = true ∧ ∀ i, i < 2 * ff p n → kb z i = false) ∧ (¬ ff p n < n → z = 0) := by
  obtain ⟨f1, f2, f3⟩ := ff_is p n
  refine ⟨fun h => ⟨by rw [h1 _ h]; exact f3 h, fun i hi => ?_⟩, fun h => kb_ext fun i _ => ?_⟩
  · cases hb : kb z i
    · rfl
    · obtain ⟨e1, e2⟩ := h2 i hb
      have h3 := h1 (i / 2) e2
      rw [show 2 * (i / 2) = i by omega, hb, f2 (i / 2) (by omega)] at h3
      cases h3
  · rw [kb_0]
    cases hb : kb z i
    · rfl
    · obtain ⟨e1, e2⟩ := h2 i hb
      have h3 := h1 (i / 2) e2
      rw [show 2 * (i / 2) = i by omega, hb, f2 (i / 2) (by omega)] at h3
      cases h3
noncomputable def fsV (q m l : Nat) (f : Nat → Nat) : Int32 := if l = 0 then (if q < m then Int32.ofNat q else -1) else if mxF f l < m then Int32.ofNat (mxF f l) else -1
section
variable {N : Nat} {X : ez_X} {I : Nat → Nat → Int32} {J : Nat → Nat → Int64} {R : Nat → Nat} {T : List ez_C} {x : Int32} {g : Nat → Int64} {n l : Nat} {h0 : ez_H}
theorem pe_firstStray {f : Nat → Nat} {q m : Nat} (r1 : rowJ (R 1) T n g) (hl : l ≤ n) (hn : n ≤ 10000) (e63 : I 6 3 = Int32.ofNat l) (hm : m ≤ 30) (hf : ∀ k, k < l → (f k < m → kb (wrB (J 8 2) (J 8 3) (g k)) (2 * f k) = true ∧ ∀ i, i < 2 * f k → kb (wrB (J 8 2) (J 8 3) (g k)) i = false) ∧ (¬ f k < m → wrB (J 8 2) (J 8 3) (g k) = 0)) (hq : (q < m → kb (J 8 3) (2 * q) = true ∧ ∀ i, i < 2 * q → kb (J 8 3) i = false) ∧ (¬ q < m → J 8 3 = 0)) : pe N X 98 [.ref 31] (ev_hp I J R T) (fun r h => r = some (.int (fsV q m l f)) ∧ h = ev_hp I J R T) := by
  have nz : ∀ {z : Int64} {j : Nat}, kb z j = true → ¬ lg_cmp z 0 = 0 := fun {z j} hk hz => by
    rw [(lg_eq _ _).mp hz, kb_0] at hk
    cases hk
  have loop : ∀ (d k : Nat), k + d = l → 0 < l → (∀ j, j < k → f j < m) → ∀ N, pw N X 98 43 [.ref 31, .int (Int32.ofNat l), .int (if k = 0 then -1 else Int32.ofNat (mxF f k)), .int (Int32.ofNat k)] [] (ev_hp I J R T) (fun r h => r = some (.int (fsV q m l f)) ∧ h = ev_hp I J R T) := by
    intro d
    induction d with
    | zero =>
      intro k hk hl0 hj N
      obtain rfl : k = l := by omega
      refine pw_p (fs_43 ⟨fun _ => ⟨?_, rfl⟩, fun g => absurd (Int32.le_refl _) g⟩)
      have h1 := (mxF_is f k).2 (m - 1) fun j hjk => by have := hj j hjk; omega
      have h2 := hj 0 hl0
      unfold fsV
      rw [if_neg (by omega), if_neg (by omega), if_pos (by omega)]
    | succ d ih =>
      intro k hkd hl0 hj N
      have hk : k < l := by omega
      obtain ⟨f1, f2⟩ := hf k hk
      refine pw_p (fs_43 ⟨fun g => ?_, fun _ => ⟨_, pe_wrongs r1 hn (by omega) rfl, ?_⟩⟩)
      · rw [io_le (by omega) (by omega)] at g
        omega
      rintro r h ⟨rfl, rfl⟩
      by_cases hfk : f k < m
      · obtain ⟨b1, b2⟩ := f1 hfk
        refine pw_p (fs_56 ⟨fun _ => ⟨_, pe_firstCall b1 b2 (by omega), ?_⟩, fun z => absurd (Classical.not_not.mp z) (nz b1)⟩)
        rintro r h ⟨rfl, rfl⟩
        refine pw_p (fs_73 ?_)
        have h5 := ih (k + 1) (by omega) hl0 (fun j hjk => by
          by_cases e : j = k
          · rw [e]
            exact hfk
          · exact hj j (by omega)) N
        have e : mxF f (k + 1) = if mxF f k < f k then f k else mxF f k := rfl
        rw [if_neg (by omega), e] at h5
        rw [io_1]
        by_cases hk0 : k = 0
        · subst hk0
          have e0 : mxF f 0 = 0 := rfl
          have e1 : (if mxF f 0 < f 0 then f 0 else mxF f 0) = f 0 := by
            rw [e0]
            split <;> omega
          rw [e1] at h5
          rw [if_pos rfl, if_pos (by
            rw [Int32.lt_iff_toInt_lt, io_ti (by omega), show ((-1 : Int32)).toInt = -1 from by decide]
            omega)]
          exact h5
        · rw [if_neg hk0]
          have hmx := (mxF_is f k).2 (m - 1) fun j hjk => by have := hj j hjk; omega
          by_cases hlt : mxF f k < f k
          · rw [if_pos hlt] at h5
            rw [if_pos ((io_lt (by omega) (by omega)).mpr hlt)]
            exact h5
          · rw [if_neg hlt] at h5
            rw [if_neg (fun z => hlt ((io_lt (by omega) (by omega)).mp z))]
            exact h5
      · have hz := f2 hfk
        refine pw_p (fs_56 ⟨fun z => absurd ((lg_eq _ _).mpr hz) z, fun _ => ⟨?_, rfl⟩⟩)
        have h1 := (mxF_is f l).1 k hk
        unfold fsV
        rw [if_neg (by omega), if_neg (by omega)]
  refine pe_of (pw_p (fs_0 ?_))
  rw [e63]
  have hl2 : (Int32.ofNat l = 0) ↔ l = 0 := by
    rw [show (0 : Int32) = Int32.ofNat 0 from rfl, io_eq (by omega) (by omega)]
  refine ⟨fun g => ?_, fun g => ?_⟩
  · exact loop l 0 (by omega) (Nat.pos_of_ne_zero fun z => g (hl2.mpr z)) (fun j hj => absurd hj (by omega)) N
  · have hl0 := hl2.mp (Classical.not_not.mp g)
    by_cases hqm : q < m
    · obtain ⟨b1, b2⟩ := hq.1 hqm
      refine ⟨fun _ => ⟨_, pe_firstCall b1 b2 (by omega), ?_⟩, fun z => absurd (Classical.not_not.mp z) (nz b1)⟩
      rintro r h ⟨rfl, rfl⟩
      refine pw_p (fs_38 ⟨?_, rfl⟩)
      unfold fsV
      rw [if_pos hl0, if_pos hqm]
    · refine ⟨fun z => absurd ((lg_eq _ _).mpr (hq.2 hqm)) z, fun _ => ⟨?_, rfl⟩⟩
      unfold fsV
      rw [if_pos hl0, if_neg hqm]
/-- how many answers of laying k are wrong; the first -/
noncomputable def wP (I : Nat → Nat → Int32) (J : Nat → Nat → Int64) (k : Nat) : Nat := cq (wc I J ((ls I J).getD k (0, 0, 0))) (nca I)
noncomputable def wf (I : Nat → Nat → Int32) (J : Nat → Nat → Int64) (k : Nat) : Nat := ff (wc I J ((ls I J).getD k (0, 0, 0))) (nca I)
noncomputable def tdF (I : Nat → Nat → Int32) : Nat := ff (fun c => decide (¬ I 44 c = -1)) (nca I)
/-- behind replay, what is asked of a laying -/
theorem rq_w (h : rl3 I J R T) (hB : cx_hB cx_B0 I) {A : Nat → Nat → Int32} {B : Nat → Nat → Int64} {k : Nat} (e8 : B 8 = J 8) (hk : k < (ls I J).length) {z : Int64} (hz : z = xz I J (ls I J)[k] (nca I)) : (∀ c, c < nca I → kb (wrB (B 8 2) (B 8 3) z) (2 * c) = wc I J ((ls I J).getD k (0, 0, 0)) c) ∧ (∀ i, kb (wrB (B 8 2) (B 8 3) z) i = true → i % 2 = 0 ∧ i / 2 < nca I) ∧ pcJ (wrB (B 8 2) (B 8 3) z) = wP I J k ∧ nca I ≤ 30 := by
  subst hz
  obtain ⟨W, HH, n0, hg, ek, -⟩ := gk_of h hB
  have hn30 : n0 ≤ 30 := by
    obtain ⟨-, -, -, -, -, -, -, -, -, z, -⟩ := hg
    exact z
  have enc : nca I = n0 := by
    unfold nca
    rw [ek, io_ti (by omega)]
    exact Int.toNat_natCast n0
  subst enc
  have hg0 := hg
  obtain ⟨e0, e1, hW, hH, -⟩ := hg0
  have hxt : ∀ c, c < nca I → xt I J (ls I J)[k] c ≤ 2 := fun c hc => xt_le hg (pk_ls h.1.1 hB (List.getElem_mem hk) e0 e1 hW hH) hc
  obtain ⟨w1, w2, w3⟩ := wr_bit h.2 hxt
  rw [e8]
  unfold wP
  rw [ly_gd hk]
  exact ⟨w1, w2, wr_pc h.2 hxt, w3⟩
theorem td_w (h : rl3 I J R T) : (tdF I < nca I → kb (J 8 3) (2 * tdF I) = true ∧ ∀ i, i < 2 * tdF I → kb (J 8 3) i = false) ∧ (¬ tdF I < nca I → J 8 3 = 0) := by
  obtain ⟨k, e81, hk, -, hr, hK, -⟩ := c3_of h.2
  have enc : nca I = k := by
    unfold nca
    rw [e81, io_ti (by omega)]
    exact Int.toNat_natCast k
  unfold tdF
  rw [enc]
  refine fz_is (fun c hc => ?_) hK
  obtain ⟨-, -, -, htd, -⟩ := hr c hc
  rw [← htd]
  unfold td_at
  cases kb (J 8 3) (2 * c)
  · exact (decide_eq_false fun z => z rfl).symm
  · refine (decide_eq_true ?_).symm
    show ¬ td_v _ _ = -1
    generalize kb (J 8 2) (2 * c) = a
    generalize kb (J 8 2) (2 * c + 1) = b
    cases a <;> cases b <;> decide
theorem wP_30 (hn : nca I ≤ 30) (k : Nat) : wP I J k ≤ 30 := Nat.le_trans (cq_le _ _) hn
theorem nca_30 (h : rl3 I J R T) : nca I ≤ 30 := by
  obtain ⟨k, e81, hk, -⟩ := c3_of h.2
  unfold nca
  rw [e81, io_ti (by omega), Int.toNat_natCast]
  exact hk
theorem F4_rep (hd : d4 I J R T) {A : Nat → Nat → Int32} {B : Nat → Nat → Int64} {R' : Nat → Nat} {T' : List ez_C} (hq : rq_Q I J (ls I J) (nca I) A B R' T') (q9 : A 13 9 = I 13 9) (q14 : A 14 = I 14) (q15 : A 15 = I 15) (q16 : A 16 = I 16) : F4 (ev_hp A B R' T') := ⟨A, B, R', T', rfl, rq_d4 hq fun z => tal_b rfl rfl rfl rfl (by rw [q14]) q15 q16 (hd.2.2 (q9.symm.trans z))⟩
noncomputable def v_stray (I : Nat → Nat → Int32) (J : Nat → Nat → Int64) : Int32 := if sn I 0 * (sn I 1 * sn I 2) ≤ 10000 then fsV (tdF I) (nca I) (ls I J).length (wf I J) else -6
theorem pe_xstray (h : rl3 I J R T) (hd : d4 I J R T) (hh : cx_hok cx_B0 I R T) : pe N X 47 [.ref 0] (ev_hp I J R T) (fun r h => r = some (.int (v_stray I J)) ∧ F4 h) := by
  refine pe_of (pw_p (xo_stray ⟨_, pe_tm h.1.1 hh h.1.2, ?_⟩))
  rintro r h' (⟨h1, rfl, rfl⟩ | ⟨h1, rfl, h2⟩)
  · refine pw_p (st_4 ⟨fun z => absurd z (by decide), fun _ => ⟨?_, F4_tm hd⟩⟩)
    unfold v_stray
    rw [if_neg (by omega)]
  · have hl := fun N => pe_rep (X := X) h hd hh h2 N
    obtain ⟨f6, R6, T6, rfl, -⟩ := h2
    refine pw_p (st_4 ⟨fun _ => ⟨_, hl _, ?_⟩, fun z => absurd rfl z⟩)
    rintro r h' ⟨rfl, A, B, R', T', rfl, hq, q9, q14, q15, q16⟩
    have hF := F4_rep hd hq q9 q14 q15 q16
    obtain ⟨a1, a2, a3, a4, a5, a6, n, g1, g2, g3, r1, r2, r3, r4, r5, r6⟩ := hq
    have e8 : B 8 = J 8 := a4 8 (by decide) (by decide)
    refine pw_p (st_17 ⟨_, pe_firstStray (f := wf I J) (q := tdF I) (m := nca I) r1 r4 r5 a2 (nca_30 h) (fun k hk => ?_) ?_, ?_⟩)
    · obtain ⟨w1, w2, -⟩ := rq_w (A := A) h hh.1 e8 hk (r6 k hk).1
      exact fz_is w1 w2
    · rw [e8]
      exact td_w h
    · rintro r h' ⟨rfl, rfl⟩
      refine pw_p (st_24 ⟨?_, hF⟩)
      unfold v_stray
      rw [if_pos h1]
noncomputable def v_blame (I : Nat → Nat → Int32) (J : Nat → Nat → Int64) : Int32 := if sn I 0 * (sn I 1 * sn I 2) ≤ 10000 then (if (ls I J).length = 0 then -1 else Int32.ofNat (lwF (wP I J) (ls I J).length)) else -6
theorem lwV_no {p : Nat → Nat} {l : Nat} (hl : l ≤ 10000) (hp : ∀ k, k < l → p k ≤ 30) : lwV p l = -1 ↔ l = 0 := by
  unfold lwV
  by_cases e : l = 0
  · rw [if_pos e]
    exact ⟨fun _ => e, fun _ => rfl⟩
  · rw [if_neg e]
    refine ⟨fun z => ?_, fun z => absurd z e⟩
    have h1 := (lwI_is l (by omega) hp).1
    have z2 := congrArg Int32.toInt z
    rw [io_ti (by omega), show ((-1 : Int32)).toInt = -1 from by decide] at z2
    omega
theorem pe_xblame (h : rl3 I J R T) (hd : d4 I J R T) (hh : cx_hok cx_B0 I R T) : pe N X 8 [.ref 0] (ev_hp I J R T) (fun r h => r = some (.int (v_blame I J)) ∧ F4 h) := by
  refine pe_of (pw_p (xo_blame ⟨_, pe_tm h.1.1 hh h.1.2, ?_⟩))
  rintro r h' (⟨h1, rfl, rfl⟩ | ⟨h1, rfl, h2⟩)
  · refine pw_p (bl_4 ⟨fun z => absurd z (by decide), fun _ => ⟨?_, F4_tm hd⟩⟩)
    unfold v_blame
    rw [if_neg (by omega)]
  · have hl := fun N => pe_rep (X := X) h hd hh h2 N
    obtain ⟨f6, R6, T6, rfl, -⟩ := h2
    refine pw_p (bl_4 ⟨fun _ => ⟨_, hl _, ?_⟩, fun z => absurd rfl z⟩)
    rintro r h' ⟨rfl, A, B, R', T', rfl, hq, q9, q14, q15, q16⟩
    have hF := F4_rep hd hq q9 q14 q15 q16
    obtain ⟨a1, a2, a3, a4, a5, a6, n, g1, g2, g3, r1, r2, r3, r4, r5, r6⟩ := hq
    have e8 : B 8 = J 8 := a4 8 (by decide) (by decide)
    have hp30 : ∀ k, k < (ls I J).length → wP I J k ≤ 30 := fun k _ => wP_30 (nca_30 h) k
    refine pw_p (bl_17 ⟨_, pe_leastWrong (p := wP I J) r1 r4 r5 a2 (fun k hk => (rq_w (A := A) h hh.1 e8 hk (r6 k hk).1).2.2.1) hp30, ?_⟩)
    rintro r h' ⟨rfl, rfl⟩
    have hno := lwV_no (p := wP I J) (l := (ls I J).length) (by omega) hp30
    refine pw_p (bl_24 ⟨fun g => ?_, fun g => ⟨?_, hF⟩⟩)
    · have hl0 : ¬ (ls I J).length = 0 := fun z => g (hno.mpr z)
      obtain ⟨i1, i2, -⟩ := lwI_is (p := wP I J) (ls I J).length (by omega) hp30
      refine ⟨_, pe_wrongs (k := lwI (wP I J) (ls I J).length) r1 r5 (by omega) (by unfold lwV; rw [if_neg hl0]), ?_⟩
      rintro r h' ⟨rfl, rfl⟩
      refine pw_p (bl_42 ⟨?_, hF⟩)
      unfold v_blame
      rw [if_pos h1, if_neg hl0, pcJ_bc, (rq_w (A := A) h hh.1 e8 i1 (r6 _ i1).1).2.2.1, i2]
    · unfold v_blame
      rw [if_pos h1, if_pos (hno.mp (Classical.not_not.mp g))]
theorem wq_c {w w' : Nat → Bool} : ∀ n, (∀ c, c < n → w c = w' c) → wqF w n = wqF w' n := by
  intro n
  induction n with
  | zero => intro _; rfl
  | succ n ih =>
    intro h
    unfold wqF
    rw [ih fun c hc => h c (by omega), h n (Nat.lt_succ_self n)]
theorem wq_pad {w : Nat → Bool} {n : Nat} (h : ∀ c, n ≤ c → w c = false) : ∀ d, wqF w (n + d) = wqF w n := by
  intro d
  induction d with
  | zero => rfl
  | succ d ih =>
    show (if w (n + d) = true then _ else wqF w (n + d)) = _
    rw [h (n + d) (by omega), if_neg (by decide), ih]
noncomputable def v_blamed (I : Nat → Nat → Int32) (J : Nat → Nat → Int64) : Int32 := if sn I 0 * (sn I 1 * sn I 2) ≤ 10000 then (if (ls I J).length = 0 then 0 else wqF (wc I J ((ls I J).getD (lwI (wP I J) (ls I J).length) (0, 0, 0))) (nca I)) else -6
theorem pe_xblamed (h : rl3 I J R T) (hd : d4 I J R T) (hh : cx_hok cx_B0 I R T) : pe N X 9 [.ref 0] (ev_hp I J R T) (fun r h => r = some (.int (v_blamed I J)) ∧ F4 h) := by
  refine pe_of (pw_p (xo_blamed ⟨_, pe_tm h.1.1 hh h.1.2, ?_⟩))
  rintro r h' (⟨h1, rfl, rfl⟩ | ⟨h1, rfl, h2⟩)
  · refine pw_p (bd_4 ⟨fun z => absurd z (by decide), fun _ => ⟨?_, F4_tm hd⟩⟩)
    unfold v_blamed
    rw [if_neg (by omega)]
  · have hl := fun N => pe_rep (X := X) h hd hh h2 N
    obtain ⟨f6, R6, T6, rfl, -⟩ := h2
    refine pw_p (bd_4 ⟨fun _ => ⟨_, hl _, ?_⟩, fun z => absurd rfl z⟩)
    rintro r h' ⟨rfl, A, B, R', T', rfl, hq, q9, q14, q15, q16⟩
    have hF := F4_rep hd hq q9 q14 q15 q16
    obtain ⟨a1, a2, a3, a4, a5, a6, n, g1, g2, g3, r1, r2, r3, r4, r5, r6⟩ := hq
    have e8 : B 8 = J 8 := a4 8 (by decide) (by decide)
    have hp30 : ∀ k, k < (ls I J).length → wP I J k ≤ 30 := fun k _ => wP_30 (nca_30 h) k
    refine pw_p (bd_17 ⟨_, pe_leastWrong (p := wP I J) r1 r4 r5 a2 (fun k hk => (rq_w (A := A) h hh.1 e8 hk (r6 k hk).1).2.2.1) hp30, ?_⟩)
    rintro r h' ⟨rfl, rfl⟩
    have hno := lwV_no (p := wP I J) (l := (ls I J).length) (by omega) hp30
    refine pw_p (bd_24 ⟨fun g => ?_, fun g => ⟨?_, hF⟩⟩)
    · have hl0 : ¬ (ls I J).length = 0 := fun z => g (hno.mpr z)
      obtain ⟨i1, i2, -⟩ := lwI_is (p := wP I J) (ls I J).length (by omega) hp30
      refine ⟨_, pe_wrongCalls (k := lwI (wP I J) (ls I J).length) r1 r5 (by omega) (by unfold lwV; rw [if_neg hl0]), ?_⟩
      rintro r h' ⟨rfl, rfl⟩
      refine pw_p (bd_42 ⟨?_, hF⟩)
      obtain ⟨w1, w2, -, w4⟩ := rq_w (A := A) h hh.1 e8 i1 (r6 _ i1).1
      have hpad := wq_pad (w := fun c => kb (wrB (B 8 2) (B 8 3) (g1 (lwI (wP I J) (ls I J).length))) (2 * c)) (n := nca I) (fun c hc => by
        cases hb : kb (wrB (B 8 2) (B 8 3) (g1 (lwI (wP I J) (ls I J).length))) (2 * c)
        · rfl
        · have := (w2 _ hb).2
          omega) (30 - nca I)
      rw [show nca I + (30 - nca I) = 30 by omega] at hpad
      unfold v_blamed
      rw [if_pos h1, if_neg hl0, hpad]
      exact congrArg (fun q => some (Value.int q)) (wq_c _ w1)
    · unfold v_blamed
      rw [if_pos h1, if_pos (hno.mp (Classical.not_not.mp g))]
end
end
section
/-! The pairs: what their search leaves alone. -/
section
variable {N : Nat} {X : ez_X} {I : Nat → Nat → Int32} {J : Nat → Nat → Int64} {R : Nat → Nat} {T : List ez_C} {Q : pw_Q} {cz kz : Nat}
set_option maxRecDepth 100000 in
theorem pr_r0 {a0 : Int64} : ∀ G : ez_F, fx_up X 4 G 116 0 [.ref 20, .long a0, ez_fill] [] (ev_hp I J R T) cz kz = G 116 5 [.ref 20, .long a0, ez_fill, .long a0, ez_fill, .int (0 : Int32)] [] (ev_hp I J R T) cz kz := by
  intro G
  rfl
theorem pi_0 {z : Int64}
    (H : pw N X 116 5 [.ref 20, .long z, ez_fill, .long z, ez_fill, .int (0 : Int32)] [] (ev_hp I J R T) Q) : pw (N + 1) X 116 0 [.ref 20, .long z, ez_fill] [] (ev_hp I J R T) Q := by
  refine pw_seg (by decide) (fun _ _ => pr_r0) ?_
  exact H
set_option maxRecDepth 100000 in
theorem pr_r1 {a0 : Int64} {a1 : Int64} {a2 : Int32} : ∀ G : ez_F, fx_up X 3 G 116 5 [.ref 20, .long a0, ez_fill, .long a1, ez_fill, .int a2] [] (ev_hp I J R T) cz kz = bif decide ((36 : Int32) ≤ a2) then G 116 104 [.ref 20, .long a0, ez_fill, .long a1, ez_fill, .int a2] [] (ev_hp I J R T) cz kz else G 116 12 [.ref 20, .long a0, ez_fill, .long a1, ez_fill, .int a2] [] (ev_hp I J R T) cz kz := by
  intro G
  rfl
set_option maxRecDepth 100000 in
theorem pr_r2 {a0 : Int64} {a1 : Int64} {a2 : Int32} : ∀ G : ez_F, fx_up X 1 G 116 104 [.ref 20, .long a0, ez_fill, .long a1, ez_fill, .int a2] [] (ev_hp I J R T) cz kz = some (none, (ev_hp I J R T), cz, kz) := by
  intro G
  rfl
set_option maxRecDepth 100000 in
theorem pr_r3 {a0 : Int64} {a1 : Int64} {a2 : Int32} : ∀ G : ez_F, fx_up X 4 G 116 12 [.ref 20, .long a0, ez_fill, .long a1, ez_fill, .int a2] [] (ev_hp I J R T) cz kz = bif decide ((lg_cmp a1 (0 : Int64)) = (0 : Int32)) then G 116 104 [.ref 20, .long a0, ez_fill, .long a1, ez_fill, .int a2] [] (ev_hp I J R T) cz kz else G 116 18 [.ref 20, .long a0, ez_fill, .long a1, ez_fill, .int a2] [] (ev_hp I J R T) cz kz := by
  intro G
  rfl
set_option maxRecDepth 100000 in
theorem pr_r4 {a0 : Int64} {a1 : Int64} {a2 : Int32} : ∀ G : ez_F, fx_up X 2 G 116 18 [.ref 20, .long a0, ez_fill, .long a1, ez_fill, .int a2] [] (ev_hp I J R T) cz kz = ev_C G 239 [.long a1] (ev_hp I J R T) fun r h1 c1 k1 => G 116 22 [.ref 20, .long a0, ez_fill, .long a1, ez_fill, .int a2] (r.toList ++ []) h1 (cz + c1) (kz + k1) := by
  intro G
  rfl
theorem pi_5 {n : Int32} {z u : Int64}
    (H : (((36 : Int32) ≤ n → Q none (ev_hp I J R T)) ∧ (¬ ((36 : Int32) ≤ n) → (((lg_cmp u (0 : Int64)) = (0 : Int32) → Q none (ev_hp I J R T)) ∧ (¬ ((lg_cmp u (0 : Int64)) = (0 : Int32)) → (∃ Q1 : pw_Q, pe N X 239 [.long u] (ev_hp I J R T) Q1 ∧ ∀ (r : Option Value) (h1 : ez_H), Q1 r h1 → pw N X 116 22 [.ref 20, .long z, ez_fill, .long u, ez_fill, .int n] (r.toList ++ []) h1 Q)))))) : pw (N + 1) X 116 5 [.ref 20, .long z, ez_fill, .long u, ez_fill, .int n] [] (ev_hp I J R T) Q := by
  refine pw_if (by decide) (fun _ _ => pr_r1) (fun w1 => ?_) (fun w1 => ?_)
  · have h1 := H.1 w1
    exact pw_p (pw_ret (by decide) (fun _ _ => pr_r2) h1)
  · have h1 := H.2 w1
    refine pw_p (pw_if (by decide) (fun _ _ => pr_r3) (fun w2 => ?_) (fun w2 => ?_))
    · have h2 := h1.1 w2
      exact pw_p (pw_ret (by decide) (fun _ _ => pr_r2) h2)
    · have h2 := h1.2 w2
      obtain ⟨Q1, hc, hk⟩ := h2
      exact pw_p (pw_call (by decide) (fun _ _ => pr_r4) hc hk)
set_option maxRecDepth 100000 in
theorem pr_r5 {a0 : Int64} {a1 : Int64} {a2 : Int32} {a3 : Int32} : ∀ G : ez_F, fx_up X 11 G 116 22 [.ref 20, .long a0, ez_fill, .long a1, ez_fill, .int a2] [.int a3] (ev_hp I J R T) cz kz = G 116 36 [.ref 20, .long a0, ez_fill, .long (a1 &&& (a1 - (1 : Int64))), ez_fill, .int a2, .int a3, .long (a1 &&& (a1 - (1 : Int64))), ez_fill, .int (0 : Int32)] [] (ev_hp I J R T) cz kz := by
  intro G
  rfl
theorem pi_22 {n a : Int32} {z u : Int64}
    (H : pw N X 116 36 [.ref 20, .long z, ez_fill, .long (u &&& (u - (1 : Int64))), ez_fill, .int n, .int a, .long (u &&& (u - (1 : Int64))), ez_fill, .int (0 : Int32)] [] (ev_hp I J R T) Q) : pw (N + 1) X 116 22 [.ref 20, .long z, ez_fill, .long u, ez_fill, .int n] [.int a] (ev_hp I J R T) Q := by
  refine pw_seg (by decide) (fun _ _ => pr_r5) ?_
  exact H
set_option maxRecDepth 100000 in
theorem pr_r6 {a0 : Int64} {a1 : Int64} {a2 : Int32} {a3 : Int32} {a4 : Int64} {a5 : Int32} : ∀ G : ez_F, fx_up X 3 G 116 36 [.ref 20, .long a0, ez_fill, .long a1, ez_fill, .int a2, .int a3, .long a4, ez_fill, .int a5] [] (ev_hp I J R T) cz kz = bif decide ((36 : Int32) ≤ a5) then G 116 98 [.ref 20, .long a0, ez_fill, .long a1, ez_fill, .int a2, .int a3, .long a4, ez_fill, .int a5] [] (ev_hp I J R T) cz kz else G 116 43 [.ref 20, .long a0, ez_fill, .long a1, ez_fill, .int a2, .int a3, .long a4, ez_fill, .int a5] [] (ev_hp I J R T) cz kz := by
  intro G
  rfl
set_option maxRecDepth 100000 in
theorem pr_r7 {a0 : Int64} {a1 : Int64} {a2 : Int32} {a3 : Int32} {a4 : Int64} {a5 : Int32} : ∀ G : ez_F, fx_up X 2 G 116 98 [.ref 20, .long a0, ez_fill, .long a1, ez_fill, .int a2, .int a3, .long a4, ez_fill, .int a5] [] (ev_hp I J R T) cz kz = G 116 5 [.ref 20, .long a0, ez_fill, .long a1, ez_fill, .int (a2 + (1 : Int32)), .int a3, .long a4, ez_fill, .int a5] [] (ev_hp I J R T) cz kz := by
  intro G
  rfl
set_option maxRecDepth 100000 in
theorem pr_r8 {a0 : Int64} {a1 : Int64} {a2 : Int32} {a3 : Int32} {a4 : Int64} {a5 : Int32} : ∀ G : ez_F, fx_up X 4 G 116 43 [.ref 20, .long a0, ez_fill, .long a1, ez_fill, .int a2, .int a3, .long a4, ez_fill, .int a5] [] (ev_hp I J R T) cz kz = bif decide ((lg_cmp a4 (0 : Int64)) = (0 : Int32)) then G 116 98 [.ref 20, .long a0, ez_fill, .long a1, ez_fill, .int a2, .int a3, .long a4, ez_fill, .int a5] [] (ev_hp I J R T) cz kz else G 116 50 [.ref 20, .long a0, ez_fill, .long a1, ez_fill, .int a2, .int a3, .long a4, ez_fill, .int a5] [] (ev_hp I J R T) cz kz := by
  intro G
  rfl
set_option maxRecDepth 100000 in
theorem pr_r9 {a0 : Int64} {a1 : Int64} {a2 : Int32} {a3 : Int32} {a4 : Int64} {a5 : Int32} : ∀ G : ez_F, fx_up X 5 G 116 50 [.ref 20, .long a0, ez_fill, .long a1, ez_fill, .int a2, .int a3, .long a4, ez_fill, .int a5] [] (ev_hp I J R T) cz kz = ev_C G 239 [.long a4] (ev_hp I J R T) fun r h1 c1 k1 => G 116 60 [.ref 20, .long a0, ez_fill, .long a1, ez_fill, .int a2, .int a3, .long a4, ez_fill, .int a5] (r.toList ++ [.int ((36 : Int32) * a3)]) h1 (cz + c1) (kz + k1) := by
  intro G
  rfl
theorem pi_36 {n a m : Int32} {z u w : Int64}
    (H : (((36 : Int32) ≤ m → pw N X 116 5 [.ref 20, .long z, ez_fill, .long u, ez_fill, .int (n + (1 : Int32))] [] (ev_hp I J R T) Q) ∧ (¬ ((36 : Int32) ≤ m) → (((lg_cmp w (0 : Int64)) = (0 : Int32) → pw N X 116 5 [.ref 20, .long z, ez_fill, .long u, ez_fill, .int (n + (1 : Int32))] [] (ev_hp I J R T) Q) ∧ (¬ ((lg_cmp w (0 : Int64)) = (0 : Int32)) → (∃ Q1 : pw_Q, pe N X 239 [.long w] (ev_hp I J R T) Q1 ∧ ∀ (r : Option Value) (h1 : ez_H), Q1 r h1 → pw N X 116 60 [.ref 20, .long z, ez_fill, .long u, ez_fill, .int n, .int a, .long w, ez_fill, .int m] (r.toList ++ [.int ((36 : Int32) * a)]) h1 Q)))))) : pw (N + 1) X 116 36 [.ref 20, .long z, ez_fill, .long u, ez_fill, .int n, .int a, .long w, ez_fill, .int m] [] (ev_hp I J R T) Q := by
  refine pw_if (by decide) (fun _ _ => pr_r6) (fun w1 => ?_) (fun w1 => ?_)
  · have h1 := H.1 w1
    refine pw_p (pw_seg (by decide) (fun _ _ => pr_r7) ?_)
    refine pw_cutl (by rfl) ?_
    exact h1
  · have h1 := H.2 w1
    refine pw_p (pw_if (by decide) (fun _ _ => pr_r8) (fun w2 => ?_) (fun w2 => ?_))
    · have h2 := h1.1 w2
      refine pw_p (pw_seg (by decide) (fun _ _ => pr_r7) ?_)
      refine pw_cutl (by rfl) ?_
      exact h2
    · have h2 := h1.2 w2
      obtain ⟨Q1, hc, hk⟩ := h2
      exact pw_p (pw_call (by decide) (fun _ _ => pr_r9) hc hk)
set_option maxRecDepth 100000 in
theorem pr_r10 {a0 : Int64} {a1 : Int64} {a2 : Int32} {a3 : Int32} {a4 : Int64} {a5 : Int32} {a6 : Int32} {a7 : Int32} : ∀ G : ez_F, fx_up X 9 G 116 60 [.ref 20, .long a0, ez_fill, .long a1, ez_fill, .int a2, .int a3, .long a4, ez_fill, .int a5] [.int a6, .int a7] (ev_hp I J R T) cz kz = ev_C G 3 [.ref 21, .int (a7 + a6)] (ev_hp I J R T) fun r h1 c1 k1 => G 116 78 [.ref 20, .long a0, ez_fill, .long a1, ez_fill, .int a2, .int a3, .long a4, ez_fill, .int a5, .int (a7 + a6)] (r.toList ++ [.int (a7 + a6), .ref 21]) h1 (cz + c1) (kz + k1) := by
  intro G
  rfl
set_option maxRecDepth 100000 in
theorem pr_r11 {a0 : Int64} {a1 : Int64} {a2 : Int32} {a3 : Int32} {a4 : Int64} {a5 : Int32} {a6 : Int32} {a7 : Int32} {a8 : Int32} : ∀ G : ez_F, fx_up X 3 G 116 78 [.ref 20, .long a0, ez_fill, .long a1, ez_fill, .int a2, .int a3, .long a4, ez_fill, .int a5, .int a6] [.int a7, .int a8, .ref 21] (ev_hp I J R T) cz kz = ev_C G 38 [.ref 21, .int a8, .int (a7 + (1 : Int32))] (ev_hp I J R T) fun r h1 c1 k1 => G 116 83 [.ref 20, .long a0, ez_fill, .long a1, ez_fill, .int a2, .int a3, .long a4, ez_fill, .int a5, .int a6] (r.toList ++ []) h1 (cz + c1) (kz + k1) := by
  intro G
  rfl
set_option maxRecDepth 100000 in
theorem pr_r12 {a0 : Int64} {a1 : Int64} {a2 : Int32} {a3 : Int32} {a4 : Int64} {a5 : Int32} {a6 : Int32} : ∀ G : ez_F, fx_up X 8 G 116 83 [.ref 20, .long a0, ez_fill, .long a1, ez_fill, .int a2, .int a3, .long a4, ez_fill, .int a5, .int a6] [] (ev_hp I J R T) cz kz = G 116 36 [.ref 20, .long a0, ez_fill, .long a1, ez_fill, .int a2, .int a3, .long (a4 &&& (a4 - (1 : Int64))), ez_fill, .int (a5 + (1 : Int32)), .int a6] [] (ev_hp I J R T) cz kz := by
  intro G
  rfl
theorem pi_60 {n a m v b : Int32} {z u w : Int64}
    (H : pw N X 116 36 [.ref 20, .long z, ez_fill, .long u, ez_fill, .int n, .int a, .long (w &&& (w - (1 : Int64))), ez_fill, .int (m + (1 : Int32))] [] (ev_hp (ev_sI I 21 (ev_put 1296 (I 21) (b + v) ((ev_at 1296 (I 21) (b + v)) + (1 : Int32)))) J R T) Q) : pw (N + 1) X 116 60 [.ref 20, .long z, ez_fill, .long u, ez_fill, .int n, .int a, .long w, ez_fill, .int m] [.int v, .int b] (ev_hp I J R T) Q := by
  refine pw_callp (by decide) (fun _ _ => pr_r10) (pe_at (show cx_Ds[21]? = some (0, 1296, []) from rfl) (by decide)) ?_
  refine pw_p (pw_callp (by decide) (fun _ _ => pr_r11) (pe_put (show cx_Ds[21]? = some (0, 1296, []) from rfl) (by decide)) ?_)
  refine pw_p (pw_seg (by decide) (fun _ _ => pr_r12) ?_)
  refine pw_cutl (by rfl) ?_
  exact H
set_option maxRecDepth 100000 in
theorem pr_r13  : ∀ G : ez_F, fx_up X 2 G 115 0 [.ref 20] [] (ev_hp I J R T) cz kz = G 115 2 [.ref 20, .int (0 : Int32)] [] (ev_hp I J R T) cz kz := by
  intro G
  rfl
theorem pu_0 
    (H : pw N X 115 2 [.ref 20, .int (0 : Int32)] [] (ev_hp I J R T) Q) : pw (N + 1) X 115 0 [.ref 20] [] (ev_hp I J R T) Q := by
  refine pw_seg (by decide) (fun _ _ => pr_r13) ?_
  exact H
set_option maxRecDepth 100000 in
theorem pr_r14 {a0 : Int32} : ∀ G : ez_F, fx_up X 3 G 115 2 [.ref 20, .int a0] [] (ev_hp I J R T) cz kz = G 115 7 [.ref 20, .int a0] [.ref 21, .int a0] (ev_hp I J R T) cz kz := by
  intro G
  rfl
set_option maxRecDepth 100000 in
theorem pr_r15 {a0 : Int32} {a1 : Int32} {a2 : Int32} : ∀ G : ez_F, fx_up X 1 G 115 8 [.ref 20, .int a0] [.int a1, .int a2] (ev_hp I J R T) cz kz = bif decide (a1 ≤ a2) then G 115 24 [.ref 20, .int a0] [] (ev_hp I J R T) cz kz else G 115 11 [.ref 20, .int a0] [] (ev_hp I J R T) cz kz := by
  intro G
  rfl
set_option maxRecDepth 100000 in
theorem pr_r16 {a0 : Int32} : ∀ G : ez_F, fx_up X 2 G 115 24 [.ref 20, .int a0] [] (ev_hp I J R T) cz kz = G 115 26 [.ref 20, .int (0 : Int32)] [] (ev_hp I J R T) cz kz := by
  intro G
  rfl
set_option maxRecDepth 100000 in
theorem pr_r17 {a0 : Int32} : ∀ G : ez_F, fx_up X 4 G 115 11 [.ref 20, .int a0] [] (ev_hp I J R T) cz kz = G 115 17 [.ref 20, .int a0] [.int (0 : Int32), .int a0, .ref 21] (ev_hp I J R T) cz kz := by
  intro G
  rfl
set_option maxRecDepth 100000 in
theorem pr_r18 {a0 : Int32} : ∀ G : ez_F, fx_up X 2 G 115 18 [.ref 20, .int a0] [] (ev_hp I J R T) cz kz = G 115 2 [.ref 20, .int (a0 + (1 : Int32))] [] (ev_hp I J R T) cz kz := by
  intro G
  rfl
theorem pu_2 {i : Int32}
    (H : (((Int32.ofNat 1296) ≤ i → pw N X 115 26 [.ref 20, .int (0 : Int32)] [] (ev_hp I J R T) Q) ∧ (¬ ((Int32.ofNat 1296) ≤ i) → (ev_ix i 1296 → pw N X 115 2 [.ref 20, .int (i + (1 : Int32))] [] (ev_hp (ev_sI I 21 (upd (I 21) i.toNatClampNeg (0 : Int32))) J R T) Q)))) : pw (N + 1) X 115 2 [.ref 20, .int i] [] (ev_hp I J R T) Q := by
  refine pw_seg (by decide) (fun _ _ => pr_r14) ?_
  refine pw_p (pw_alenI (by rfl) (cx_getI (show cx_Ds[21]? = some (0, 1296, []) from rfl)) ?_)
  refine pw_p (pw_if (by decide) (fun _ _ => pr_r15) (fun w1 => ?_) (fun w1 => ?_))
  · have h1 := H.1 w1
    refine pw_p (pw_seg (by decide) (fun _ _ => pr_r16) ?_)
    exact h1
  · have h1 := H.2 w1
    refine pw_p (pw_seg (by decide) (fun _ _ => pr_r17) ?_)
    refine pw_p (pw_iast (by rfl) (cx_getI (show cx_Ds[21]? = some (0, 1296, []) from rfl)) (cx_setI (show cx_Ds[21]? = some (0, 1296, []) from rfl) _) (fun w2 => ?_))
    have h2 := h1 w2
    refine pw_p (pw_seg (by decide) (fun _ _ => pr_r18) ?_)
    exact h2
set_option maxRecDepth 100000 in
theorem pr_r19 {a0 : Int32} : ∀ G : ez_F, fx_up X 4 G 115 26 [.ref 20, .int a0] [] (ev_hp I J R T) cz kz = G 115 34 [.ref 20, .int a0] [.int (I 6 3), .int a0] (ev_hp I J R T) cz kz := by
  intro G
  rfl
set_option maxRecDepth 100000 in
theorem pr_r20 {a0 : Int32} {a1 : Int32} {a2 : Int32} : ∀ G : ez_F, fx_up X 1 G 115 34 [.ref 20, .int a0] [.int a1, .int a2] (ev_hp I J R T) cz kz = bif decide (a1 ≤ a2) then G 115 66 [.ref 20, .int a0] [] (ev_hp I J R T) cz kz else G 115 37 [.ref 20, .int a0] [] (ev_hp I J R T) cz kz := by
  intro G
  rfl
set_option maxRecDepth 100000 in
theorem pr_r21 {a0 : Int32} : ∀ G : ez_F, fx_up X 1 G 115 66 [.ref 20, .int a0] [] (ev_hp I J R T) cz kz = some (none, (ev_hp I J R T), cz, kz) := by
  intro G
  rfl
set_option maxRecDepth 100000 in
theorem pr_r22 {a0 : Int32} : ∀ G : ez_F, fx_up X 4 G 115 37 [.ref 20, .int a0] [] (ev_hp I J R T) cz kz = ev_C G 109 [.ref 13, .int a0] (ev_hp I J R T) fun r h1 c1 k1 => G 115 45 [.ref 20, .int a0] (r.toList ++ []) h1 (cz + c1) (kz + k1) := by
  intro G
  rfl
theorem pu_26 {k : Int32}
    (H : (((I 6 3) ≤ k → Q none (ev_hp I J R T)) ∧ (¬ ((I 6 3) ≤ k) → (∃ Q1 : pw_Q, pe N X 109 [.ref 13, .int k] (ev_hp I J R T) Q1 ∧ ∀ (r : Option Value) (h1 : ez_H), Q1 r h1 → pw N X 115 45 [.ref 20, .int k] (r.toList ++ []) h1 Q)))) : pw (N + 1) X 115 26 [.ref 20, .int k] [] (ev_hp I J R T) Q := by
  refine pw_seg (by decide) (fun _ _ => pr_r19) ?_
  refine pw_p (pw_if (by decide) (fun _ _ => pr_r20) (fun w1 => ?_) (fun w1 => ?_))
  · have h1 := H.1 w1
    exact pw_p (pw_ret (by decide) (fun _ _ => pr_r21) h1)
  · have h1 := H.2 w1
    obtain ⟨Q1, hc, hk⟩ := h1
    exact pw_p (pw_call (by decide) (fun _ _ => pr_r22) hc hk)
set_option maxRecDepth 100000 in
theorem pr_r23 {a0 : Int32} {a1 : Int32} : ∀ G : ez_F, fx_up X 1 G 115 45 [.ref 20, .int a0] [.int a1] (ev_hp I J R T) cz kz = bif decide (a1 = (0 : Int32)) then G 115 60 [.ref 20, .int a0] [] (ev_hp I J R T) cz kz else G 115 48 [.ref 20, .int a0] [] (ev_hp I J R T) cz kz := by
  intro G
  rfl
set_option maxRecDepth 100000 in
theorem pr_r24 {a0 : Int32} : ∀ G : ez_F, fx_up X 2 G 115 60 [.ref 20, .int a0] [] (ev_hp I J R T) cz kz = G 115 26 [.ref 20, .int (a0 + (1 : Int32))] [] (ev_hp I J R T) cz kz := by
  intro G
  rfl
set_option maxRecDepth 100000 in
theorem pr_r25 {a0 : Int32} : ∀ G : ez_F, fx_up X 5 G 115 48 [.ref 20, .int a0] [] (ev_hp I J R T) cz kz = ev_C G 111 [.ref 13, .int a0] (ev_hp I J R T) fun r h1 c1 k1 => G 115 57 [.ref 20, .int a0] (r.toList ++ [.ref 20]) h1 (cz + c1) (kz + k1) := by
  intro G
  rfl
theorem pu_45 {k v : Int32}
    (H : ((v = (0 : Int32) → pw N X 115 26 [.ref 20, .int (k + (1 : Int32))] [] (ev_hp I J R T) Q) ∧ (¬ (v = (0 : Int32)) → (∃ Q1 : pw_Q, pe N X 111 [.ref 13, .int k] (ev_hp I J R T) Q1 ∧ ∀ (r : Option Value) (h1 : ez_H), Q1 r h1 → pw N X 115 57 [.ref 20, .int k] (r.toList ++ [.ref 20]) h1 Q)))) : pw (N + 1) X 115 45 [.ref 20, .int k] [.int v] (ev_hp I J R T) Q := by
  refine pw_if (by decide) (fun _ _ => pr_r23) (fun w1 => ?_) (fun w1 => ?_)
  · have h1 := H.1 w1
    refine pw_p (pw_seg (by decide) (fun _ _ => pr_r24) ?_)
    exact h1
  · have h1 := H.2 w1
    obtain ⟨Q1, hc, hk⟩ := h1
    exact pw_p (pw_call (by decide) (fun _ _ => pr_r25) hc hk)
set_option maxRecDepth 100000 in
theorem pr_r26 {a0 : Int32} {a1 : Int64} : ∀ G : ez_F, fx_up X 1 G 115 57 [.ref 20, .int a0] [.long a1, .ref 20] (ev_hp I J R T) cz kz = ev_C G 116 [.ref 20, .long a1] (ev_hp I J R T) fun r h1 c1 k1 => G 115 60 [.ref 20, .int a0] (r.toList ++ []) h1 (cz + c1) (kz + k1) := by
  intro G
  rfl
theorem pu_57 {k : Int32} {z : Int64}
    (H : (∃ Q1 : pw_Q, pe N X 116 [.ref 20, .long z] (ev_hp I J R T) Q1 ∧ ∀ (r : Option Value) (h1 : ez_H), Q1 r h1 → pw N X 115 60 [.ref 20, .int k] (r.toList ++ []) h1 Q)) : pw (N + 1) X 115 57 [.ref 20, .int k] [.long z, .ref 20] (ev_hp I J R T) Q := by
  obtain ⟨Q1, hc, hk⟩ := H
  exact pw_call (by decide) (fun _ _ => pr_r26) hc hk
theorem pu_60 {k : Int32}
    (H : pw N X 115 26 [.ref 20, .int (k + (1 : Int32))] [] (ev_hp I J R T) Q) : pw (N + 1) X 115 60 [.ref 20, .int k] [] (ev_hp I J R T) Q := by
  refine pw_seg (by decide) (fun _ _ => pr_r24) ?_
  exact H
set_option maxRecDepth 100000 in
theorem pr_r27 {a0 : Int32} {a1 : Int32} : ∀ G : ez_F, fx_up X 8 G 118 0 [.ref 20, .ref 14, .int a0, .int a1] [] (ev_hp I J R T) cz kz = ev_C G 3 [.ref 21, .int (((36 : Int32) * a0) + a1)] (ev_hp I J R T) fun r h1 c1 k1 => G 118 13 [.ref 20, .ref 14, .int a0, .int a1] (r.toList ++ []) h1 (cz + c1) (kz + k1) := by
  intro G
  rfl
set_option maxRecDepth 100000 in
theorem pr_r28 {a0 : Int32} {a1 : Int32} {a2 : Int32} : ∀ G : ez_F, fx_up X 4 G 118 13 [.ref 20, .ref 14, .int a0, .int a1] [.int a2] (ev_hp I J R T) cz kz = ev_C G 163 [.ref 14, .int a0] (ev_hp I J R T) fun r h1 c1 k1 => G 118 20 [.ref 20, .ref 14, .int a0, .int a1, .int a2] (r.toList ++ []) h1 (cz + c1) (kz + k1) := by
  intro G
  rfl
set_option maxRecDepth 100000 in
theorem pr_r29 {a0 : Int32} {a1 : Int32} {a2 : Int32} {a3 : Int32} : ∀ G : ez_F, fx_up X 3 G 118 20 [.ref 20, .ref 14, .int a0, .int a1, .int a2] [.int a3] (ev_hp I J R T) cz kz = ev_C G 163 [.ref 14, .int a1] (ev_hp I J R T) fun r h1 c1 k1 => G 118 25 [.ref 20, .ref 14, .int a0, .int a1, .int a2] (r.toList ++ [.int a3]) h1 (cz + c1) (kz + k1) := by
  intro G
  rfl
set_option maxRecDepth 100000 in
theorem pr_r30 {a0 : Int32} {a1 : Int32} {a2 : Int32} {a3 : Int32} {a4 : Int32} : ∀ G : ez_F, fx_up X 10 G 118 25 [.ref 20, .ref 14, .int a0, .int a1, .int a2] [.int a3, .int a4] (ev_hp I J R T) cz kz = G 118 41 [.ref 20, .ref 14, .int a0, .int a1, .int a2, .int (a4 + a3)] [.int (I 14 2), .int ((a4 + a3) - ((2 : Int32) * a2)), .int a2] (ev_hp I J R T) cz kz := by
  intro G
  rfl
set_option maxRecDepth 100000 in
theorem pr_r31 {a0 : Int32} {a1 : Int32} {a2 : Int32} {a3 : Int32} {a4 : Int32} {a5 : Int32} {a6 : Int32} : ∀ G : ez_F, fx_up X 7 G 118 41 [.ref 20, .ref 14, .int a0, .int a1, .int a2, .int a3] [.int a4, .int a5, .int a6] (ev_hp I J R T) cz kz = some (some (.int (if a6 < (if a5 < ((a4 - a3) + a2) then ((a4 - a3) + a2) else a5) then (if a5 < ((a4 - a3) + a2) then ((a4 - a3) + a2) else a5) else a6)), (ev_hp I J R T), cz, kz) := by
  intro G
  rfl
theorem pg_0 {a b : Int32}
    (H : Q (some (.int (if (ev_at 1296 (I 21) (((36 : Int32) * a) + b)) < (if (((ev_at 36 (I 15) a) + (ev_at 36 (I 15) b)) - ((2 : Int32) * (ev_at 1296 (I 21) (((36 : Int32) * a) + b)))) < (((I 14 2) - ((ev_at 36 (I 15) a) + (ev_at 36 (I 15) b))) + (ev_at 1296 (I 21) (((36 : Int32) * a) + b))) then (((I 14 2) - ((ev_at 36 (I 15) a) + (ev_at 36 (I 15) b))) + (ev_at 1296 (I 21) (((36 : Int32) * a) + b))) else (((ev_at 36 (I 15) a) + (ev_at 36 (I 15) b)) - ((2 : Int32) * (ev_at 1296 (I 21) (((36 : Int32) * a) + b))))) then (if (((ev_at 36 (I 15) a) + (ev_at 36 (I 15) b)) - ((2 : Int32) * (ev_at 1296 (I 21) (((36 : Int32) * a) + b)))) < (((I 14 2) - ((ev_at 36 (I 15) a) + (ev_at 36 (I 15) b))) + (ev_at 1296 (I 21) (((36 : Int32) * a) + b))) then (((I 14 2) - ((ev_at 36 (I 15) a) + (ev_at 36 (I 15) b))) + (ev_at 1296 (I 21) (((36 : Int32) * a) + b))) else (((ev_at 36 (I 15) a) + (ev_at 36 (I 15) b)) - ((2 : Int32) * (ev_at 1296 (I 21) (((36 : Int32) * a) + b))))) else (ev_at 1296 (I 21) (((36 : Int32) * a) + b))))) (ev_hp I J R T)) : pw (N + 1) X 118 0 [.ref 20, .ref 14, .int a, .int b] [] (ev_hp I J R T) Q := by
  refine pw_callp (by decide) (fun _ _ => pr_r27) (pe_at (show cx_Ds[21]? = some (0, 1296, []) from rfl) (by decide)) ?_
  refine pw_p (pw_callp (by decide) (fun _ _ => pr_r28) (pe_shipsAt) ?_)
  refine pw_p (pw_callp (by decide) (fun _ _ => pr_r29) (pe_shipsAt) ?_)
  refine pw_p (pw_seg (by decide) (fun _ _ => pr_r30) ?_)
  exact pw_p (pw_ret (by decide) (fun _ _ => pr_r31) H)
set_option maxRecDepth 100000 in
theorem pr_r32 {a0 : Int32} : ∀ G : ez_F, fx_up X 2 G 119 0 [.ref 20, .ref 14, .int a0] [] (ev_hp I J R T) cz kz = G 119 4 [.ref 20, .ref 14, .int a0] [.int (I 20 3)] (ev_hp I J R T) cz kz := by
  intro G
  rfl
set_option maxRecDepth 100000 in
theorem pr_r33 {a0 : Int32} {a1 : Int32} : ∀ G : ez_F, fx_up X 1 G 119 4 [.ref 20, .ref 14, .int a0] [.int a1] (ev_hp I J R T) cz kz = bif decide (a1 = (0 : Int32)) then G 119 8 [.ref 20, .ref 14, .int a0] [] (ev_hp I J R T) cz kz else G 119 7 [.ref 20, .ref 14, .int a0] [] (ev_hp I J R T) cz kz := by
  intro G
  rfl
set_option maxRecDepth 100000 in
theorem pr_r34 {a0 : Int32} : ∀ G : ez_F, fx_up X 2 G 119 8 [.ref 20, .ref 14, .int a0] [] (ev_hp I J R T) cz kz = ev_C G 115 [.ref 20] (ev_hp I J R T) fun r h1 c1 k1 => G 119 12 [.ref 20, .ref 14, .int a0] (r.toList ++ []) h1 (cz + c1) (kz + k1) := by
  intro G
  rfl
set_option maxRecDepth 100000 in
theorem pr_r35 {a0 : Int32} : ∀ G : ez_F, fx_up X 1 G 119 7 [.ref 20, .ref 14, .int a0] [] (ev_hp I J R T) cz kz = some (none, (ev_hp I J R T), cz, kz) := by
  intro G
  rfl
theorem ps_0 {c : Int32}
    (H : (((I 20 3) = (0 : Int32) → (∃ Q1 : pw_Q, pe N X 115 [.ref 20] (ev_hp I J R T) Q1 ∧ ∀ (r : Option Value) (h1 : ez_H), Q1 r h1 → pw N X 119 12 [.ref 20, .ref 14, .int c] (r.toList ++ []) h1 Q)) ∧ (¬ ((I 20 3) = (0 : Int32)) → Q none (ev_hp I J R T)))) : pw (N + 1) X 119 0 [.ref 20, .ref 14, .int c] [] (ev_hp I J R T) Q := by
  refine pw_seg (by decide) (fun _ _ => pr_r32) ?_
  refine pw_p (pw_if (by decide) (fun _ _ => pr_r33) (fun w1 => ?_) (fun w1 => ?_))
  · have h1 := H.1 w1
    obtain ⟨Q1, hc, hk⟩ := h1
    exact pw_p (pw_call (by decide) (fun _ _ => pr_r34) hc hk)
  · have h1 := H.2 w1
    exact pw_p (pw_ret (by decide) (fun _ _ => pr_r35) h1)
set_option maxRecDepth 100000 in
theorem pr_r36 {a0 : Int32} : ∀ G : ez_F, fx_up X 3 G 119 12 [.ref 20, .ref 14, .int a0] [] (ev_hp I J R T) cz kz = G 119 17 [.ref 20, .ref 14, .int a0] [.int (I 14 2), .ref 20] (ev_hp I J R T) cz kz := by
  intro G
  rfl
set_option maxRecDepth 100000 in
theorem pr_r37 {a0 : Int32} {a1 : Int32} : ∀ G : ez_F, fx_up X 3 G 119 17 [.ref 20, .ref 14, .int a0] [.int a1, .ref 20] (ev_hp I J R T) cz kz = G 119 22 [.ref 20, .ref 14, .int a0] [] (ev_hp (ev_sI I 20 (upd (I 20) 6 (a1 + (1 : Int32)))) J R T) cz kz := by
  intro G
  rfl
set_option maxRecDepth 100000 in
theorem pr_r38 {a0 : Int32} : ∀ G : ez_F, fx_up X 2 G 119 22 [.ref 20, .ref 14, .int a0] [] (ev_hp I J R T) cz kz = G 119 24 [.ref 20, .ref 14, .int a0, .int (0 : Int32)] [] (ev_hp I J R T) cz kz := by
  intro G
  rfl
theorem ps_12 {c : Int32}
    (H : pw N X 119 24 [.ref 20, .ref 14, .int c, .int (0 : Int32)] [] (ev_hp (ev_sI I 20 (upd (I 20) 6 ((I 14 2) + (1 : Int32)))) J R T) Q) : pw (N + 1) X 119 12 [.ref 20, .ref 14, .int c] [] (ev_hp I J R T) Q := by
  refine pw_seg (by decide) (fun _ _ => pr_r36) ?_
  refine pw_p (pw_seg (by decide) (fun _ _ => pr_r37) ?_)
  refine pw_p (pw_seg (by decide) (fun _ _ => pr_r38) ?_)
  exact H
set_option maxRecDepth 100000 in
theorem pr_r39 {a0 : Int32} {a1 : Int32} : ∀ G : ez_F, fx_up X 3 G 119 24 [.ref 20, .ref 14, .int a0, .int a1] [] (ev_hp I J R T) cz kz = bif decide (a0 ≤ a1) then G 119 88 [.ref 20, .ref 14, .int a0, .int a1] [] (ev_hp I J R T) cz kz else G 119 29 [.ref 20, .ref 14, .int a0, .int a1] [] (ev_hp I J R T) cz kz := by
  intro G
  rfl
set_option maxRecDepth 100000 in
theorem pr_r40 {a0 : Int32} {a1 : Int32} : ∀ G : ez_F, fx_up X 3 G 119 88 [.ref 20, .ref 14, .int a0, .int a1] [] (ev_hp I J R T) cz kz = G 119 93 [.ref 20, .ref 14, .int a0, .int a1] [] (ev_hp (ev_sI I 20 (upd (I 20) 3 (1 : Int32))) J R T) cz kz := by
  intro G
  rfl
set_option maxRecDepth 100000 in
theorem pr_r41 {a0 : Int32} {a1 : Int32} : ∀ G : ez_F, fx_up X 1 G 119 93 [.ref 20, .ref 14, .int a0, .int a1] [] (ev_hp I J R T) cz kz = some (none, (ev_hp I J R T), cz, kz) := by
  intro G
  rfl
set_option maxRecDepth 100000 in
theorem pr_r42 {a0 : Int32} {a1 : Int32} : ∀ G : ez_F, fx_up X 4 G 119 29 [.ref 20, .ref 14, .int a0, .int a1] [] (ev_hp I J R T) cz kz = G 119 34 [.ref 20, .ref 14, .int a0, .int a1, .int (a1 + (1 : Int32))] [] (ev_hp I J R T) cz kz := by
  intro G
  rfl
theorem ps_24 {c a : Int32}
    (H : ((c ≤ a → Q none (ev_hp (ev_sI I 20 (upd (I 20) 3 (1 : Int32))) J R T)) ∧ (¬ (c ≤ a) → pw N X 119 34 [.ref 20, .ref 14, .int c, .int a, .int (a + (1 : Int32))] [] (ev_hp I J R T) Q))) : pw (N + 1) X 119 24 [.ref 20, .ref 14, .int c, .int a] [] (ev_hp I J R T) Q := by
  refine pw_if (by decide) (fun _ _ => pr_r39) (fun w1 => ?_) (fun w1 => ?_)
  · have h1 := H.1 w1
    refine pw_p (pw_seg (by decide) (fun _ _ => pr_r40) ?_)
    exact pw_p (pw_ret (by decide) (fun _ _ => pr_r41) h1)
  · have h1 := H.2 w1
    refine pw_p (pw_seg (by decide) (fun _ _ => pr_r42) ?_)
    exact h1
set_option maxRecDepth 100000 in
theorem pr_r43 {a0 : Int32} {a1 : Int32} {a2 : Int32} : ∀ G : ez_F, fx_up X 3 G 119 34 [.ref 20, .ref 14, .int a0, .int a1, .int a2] [] (ev_hp I J R T) cz kz = bif decide (a0 ≤ a2) then G 119 82 [.ref 20, .ref 14, .int a0, .int a1, .int a2] [] (ev_hp I J R T) cz kz else G 119 40 [.ref 20, .ref 14, .int a0, .int a1, .int a2] [] (ev_hp I J R T) cz kz := by
  intro G
  rfl
set_option maxRecDepth 100000 in
theorem pr_r44 {a0 : Int32} {a1 : Int32} {a2 : Int32} : ∀ G : ez_F, fx_up X 2 G 119 82 [.ref 20, .ref 14, .int a0, .int a1, .int a2] [] (ev_hp I J R T) cz kz = G 119 24 [.ref 20, .ref 14, .int a0, .int (a1 + (1 : Int32)), .int a2] [] (ev_hp I J R T) cz kz := by
  intro G
  rfl
set_option maxRecDepth 100000 in
theorem pr_r45 {a0 : Int32} {a1 : Int32} {a2 : Int32} : ∀ G : ez_F, fx_up X 5 G 119 40 [.ref 20, .ref 14, .int a0, .int a1, .int a2] [] (ev_hp I J R T) cz kz = ev_C G 118 [.ref 20, .ref 14, .int a1, .int a2] (ev_hp I J R T) fun r h1 c1 k1 => G 119 48 [.ref 20, .ref 14, .int a0, .int a1, .int a2] (r.toList ++ []) h1 (cz + c1) (kz + k1) := by
  intro G
  rfl
theorem ps_34 {c a b : Int32}
    (H : ((c ≤ b → pw N X 119 24 [.ref 20, .ref 14, .int c, .int (a + (1 : Int32))] [] (ev_hp I J R T) Q) ∧ (¬ (c ≤ b) → (∃ Q1 : pw_Q, pe N X 118 [.ref 20, .ref 14, .int a, .int b] (ev_hp I J R T) Q1 ∧ ∀ (r : Option Value) (h1 : ez_H), Q1 r h1 → pw N X 119 48 [.ref 20, .ref 14, .int c, .int a, .int b] (r.toList ++ []) h1 Q)))) : pw (N + 1) X 119 34 [.ref 20, .ref 14, .int c, .int a, .int b] [] (ev_hp I J R T) Q := by
  refine pw_if (by decide) (fun _ _ => pr_r43) (fun w1 => ?_) (fun w1 => ?_)
  · have h1 := H.1 w1
    refine pw_p (pw_seg (by decide) (fun _ _ => pr_r44) ?_)
    refine pw_cutl (by rfl) ?_
    exact h1
  · have h1 := H.2 w1
    obtain ⟨Q1, hc, hk⟩ := h1
    exact pw_p (pw_call (by decide) (fun _ _ => pr_r45) hc hk)
set_option maxRecDepth 100000 in
theorem pr_r46 {a0 : Int32} {a1 : Int32} {a2 : Int32} {a3 : Int32} : ∀ G : ez_F, fx_up X 4 G 119 48 [.ref 20, .ref 14, .int a0, .int a1, .int a2] [.int a3] (ev_hp I J R T) cz kz = G 119 56 [.ref 20, .ref 14, .int a0, .int a1, .int a2, .int a3] [.int (I 20 6), .int a3] (ev_hp I J R T) cz kz := by
  intro G
  rfl
set_option maxRecDepth 100000 in
theorem pr_r47 {a0 : Int32} {a1 : Int32} {a2 : Int32} {a3 : Int32} {a4 : Int32} {a5 : Int32} : ∀ G : ez_F, fx_up X 1 G 119 56 [.ref 20, .ref 14, .int a0, .int a1, .int a2, .int a3] [.int a4, .int a5] (ev_hp I J R T) cz kz = bif decide (a4 ≤ a5) then G 119 76 [.ref 20, .ref 14, .int a0, .int a1, .int a2, .int a3] [] (ev_hp I J R T) cz kz else G 119 59 [.ref 20, .ref 14, .int a0, .int a1, .int a2, .int a3] [] (ev_hp I J R T) cz kz := by
  intro G
  rfl
set_option maxRecDepth 100000 in
theorem pr_r48 {a0 : Int32} {a1 : Int32} {a2 : Int32} {a3 : Int32} : ∀ G : ez_F, fx_up X 2 G 119 76 [.ref 20, .ref 14, .int a0, .int a1, .int a2, .int a3] [] (ev_hp I J R T) cz kz = G 119 34 [.ref 20, .ref 14, .int a0, .int a1, .int (a2 + (1 : Int32)), .int a3] [] (ev_hp I J R T) cz kz := by
  intro G
  rfl
set_option maxRecDepth 100000 in
theorem pr_r49 {a0 : Int32} {a1 : Int32} {a2 : Int32} {a3 : Int32} : ∀ G : ez_F, fx_up X 3 G 119 59 [.ref 20, .ref 14, .int a0, .int a1, .int a2, .int a3] [] (ev_hp I J R T) cz kz = G 119 64 [.ref 20, .ref 14, .int a0, .int a1, .int a2, .int a3] [] (ev_hp (ev_sI I 20 (upd (I 20) 4 a1)) J R T) cz kz := by
  intro G
  rfl
set_option maxRecDepth 100000 in
theorem pr_r50 {a0 : Int32} {a1 : Int32} {a2 : Int32} {a3 : Int32} : ∀ G : ez_F, fx_up X 3 G 119 64 [.ref 20, .ref 14, .int a0, .int a1, .int a2, .int a3] [] (ev_hp I J R T) cz kz = G 119 70 [.ref 20, .ref 14, .int a0, .int a1, .int a2, .int a3] [] (ev_hp (ev_sI I 20 (upd (I 20) 5 a2)) J R T) cz kz := by
  intro G
  rfl
set_option maxRecDepth 100000 in
theorem pr_r51 {a0 : Int32} {a1 : Int32} {a2 : Int32} {a3 : Int32} : ∀ G : ez_F, fx_up X 3 G 119 70 [.ref 20, .ref 14, .int a0, .int a1, .int a2, .int a3] [] (ev_hp I J R T) cz kz = G 119 76 [.ref 20, .ref 14, .int a0, .int a1, .int a2, .int a3] [] (ev_hp (ev_sI I 20 (upd (I 20) 6 a3)) J R T) cz kz := by
  intro G
  rfl
theorem ps_48 {c a b v : Int32}
    (H : (((I 20 6) ≤ v → pw N X 119 34 [.ref 20, .ref 14, .int c, .int a, .int (b + (1 : Int32))] [] (ev_hp I J R T) Q) ∧ (¬ ((I 20 6) ≤ v) → pw N X 119 34 [.ref 20, .ref 14, .int c, .int a, .int (b + (1 : Int32))] [] (ev_hp (ev_sI (ev_sI (ev_sI I 20 (upd (I 20) 4 a)) 20 (upd (upd (I 20) 4 a) 5 b)) 20 (upd (upd (upd (I 20) 4 a) 5 b) 6 v)) J R T) Q))) : pw (N + 1) X 119 48 [.ref 20, .ref 14, .int c, .int a, .int b] [.int v] (ev_hp I J R T) Q := by
  refine pw_seg (by decide) (fun _ _ => pr_r46) ?_
  refine pw_p (pw_if (by decide) (fun _ _ => pr_r47) (fun w1 => ?_) (fun w1 => ?_))
  · have h1 := H.1 w1
    refine pw_p (pw_seg (by decide) (fun _ _ => pr_r48) ?_)
    refine pw_cutl (by rfl) ?_
    exact h1
  · have h1 := H.2 w1
    refine pw_p (pw_seg (by decide) (fun _ _ => pr_r49) ?_)
    refine pw_p (pw_seg (by decide) (fun _ _ => pr_r50) ?_)
    refine pw_p (pw_seg (by decide) (fun _ _ => pr_r51) ?_)
    refine pw_p (pw_seg (by decide) (fun _ _ => pr_r48) ?_)
    refine pw_cutl (by rfl) ?_
    exact h1
set_option maxRecDepth 100000 in
theorem pr_r52 {a0 : Int32} : ∀ G : ez_F, fx_up X 2 G 111 0 [.ref 13, .int a0] [] (ev_hp I J R T) cz kz = G 111 4 [.ref 13, .int a0] [.ref (R 2)] (ev_hp I J R T) cz kz := by
  intro G
  rfl
set_option maxRecDepth 100000 in
theorem pr_r53 {a0 : Int32} {a1 : Nat} : ∀ G : ez_F, fx_up X 2 G 111 4 [.ref 13, .int a0] [.ref a1] (ev_hp I J R T) cz kz = ev_C G 4 [.ref a1, .int a0] (ev_hp I J R T) fun r h1 c1 k1 => G 111 8 [.ref 13, .int a0] (r.toList ++ []) h1 (cz + c1) (kz + k1) := by
  intro G
  rfl
theorem po_0 {k : Int32}
    (H : (∃ Q1 : pw_Q, pe N X 4 [.ref (R 2), .int k] (ev_hp I J R T) Q1 ∧ ∀ (r : Option Value) (h1 : ez_H), Q1 r h1 → pw N X 111 8 [.ref 13, .int k] (r.toList ++ []) h1 Q)) : pw (N + 1) X 111 0 [.ref 13, .int k] [] (ev_hp I J R T) Q := by
  refine pw_seg (by decide) (fun _ _ => pr_r52) ?_
  obtain ⟨Q1, hc, hk⟩ := H
  exact pw_p (pw_call (by decide) (fun _ _ => pr_r53) hc hk)
set_option maxRecDepth 100000 in
theorem pr_r54 {a0 : Int32} {a1 : Int64} : ∀ G : ez_F, fx_up X 1 G 111 8 [.ref 13, .int a0] [.long a1] (ev_hp I J R T) cz kz = some (some (.long a1), (ev_hp I J R T), cz, kz) := by
  intro G
  rfl
theorem po_8 {k : Int32} {z : Int64}
    (H : Q (some (.long z)) (ev_hp I J R T)) : pw (N + 1) X 111 8 [.ref 13, .int k] [.long z] (ev_hp I J R T) Q := by
  exact pw_ret (by decide) (fun _ _ => pr_r54) H
set_option maxRecDepth 100000 in
theorem pr_r55 {a0 : Int32} {a1 : Int32} : ∀ G : ez_F, fx_up X 1 G 7 16 [.ref 0, .int a0] [.int a1] (ev_hp I J R T) cz kz = bif decide (a1 = (0 : Int32)) then G 7 22 [.ref 0, .int a0] [] (ev_hp I J R T) cz kz else G 7 19 [.ref 0, .int a0] [] (ev_hp I J R T) cz kz := by
  intro G
  rfl
set_option maxRecDepth 100000 in
theorem pr_r56 {a0 : Int32} : ∀ G : ez_F, fx_up X 2 G 7 22 [.ref 0, .int a0] [] (ev_hp I J R T) cz kz = ev_C G 30 [.ref 0] (ev_hp I J R T) fun r h1 c1 k1 => G 7 26 [.ref 0, .int a0] (r.toList ++ []) h1 (cz + c1) (kz + k1) := by
  intro G
  rfl
set_option maxRecDepth 100000 in
theorem pr_r57 {a0 : Int32} : ∀ G : ez_F, fx_up X 2 G 7 19 [.ref 0, .int a0] [] (ev_hp I J R T) cz kz = some (some (.int (-6 : Int32)), (ev_hp I J R T), cz, kz) := by
  intro G
  rfl
theorem bv_16 {v x : Int32}
    (H : ((v = (0 : Int32) → (∃ Q1 : pw_Q, pe N X 30 [.ref 0] (ev_hp I J R T) Q1 ∧ ∀ (r : Option Value) (h1 : ez_H), Q1 r h1 → pw N X 7 26 [.ref 0, .int x] (r.toList ++ []) h1 Q)) ∧ (¬ (v = (0 : Int32)) → Q (some (.int (-6 : Int32))) (ev_hp I J R T)))) : pw (N + 1) X 7 16 [.ref 0, .int x] [.int v] (ev_hp I J R T) Q := by
  refine pw_if (by decide) (fun _ _ => pr_r55) (fun w1 => ?_) (fun w1 => ?_)
  · have h1 := H.1 w1
    obtain ⟨Q1, hc, hk⟩ := h1
    exact pw_p (pw_call (by decide) (fun _ _ => pr_r56) hc hk)
  · have h1 := H.2 w1
    exact pw_p (pw_ret (by decide) (fun _ _ => pr_r57) h1)
set_option maxRecDepth 100000 in
theorem pr_r58 {a0 : Int32} : ∀ G : ez_F, fx_up X 3 G 7 26 [.ref 0, .int a0] [.ref 14] (ev_hp I J R T) cz kz = G 7 31 [.ref 0, .int a0, .ref 14] [.int (I 14 2)] (ev_hp I J R T) cz kz := by
  intro G
  rfl
set_option maxRecDepth 100000 in
theorem pr_r59 {a0 : Int32} {a1 : Int32} : ∀ G : ez_F, fx_up X 1 G 7 31 [.ref 0, .int a0, .ref 14] [.int a1] (ev_hp I J R T) cz kz = bif decide (¬ a1 = (0 : Int32)) then G 7 36 [.ref 0, .int a0, .ref 14] [] (ev_hp I J R T) cz kz else G 7 34 [.ref 0, .int a0, .ref 14] [] (ev_hp I J R T) cz kz := by
  intro G
  rfl
set_option maxRecDepth 100000 in
theorem pr_r60 {a0 : Int32} : ∀ G : ez_F, fx_up X 6 G 7 36 [.ref 0, .int a0, .ref 14] [] (ev_hp I J R T) cz kz = G 7 48 [.ref 0, .int a0, .ref 14] [.int (I 1 6), .ref 14, .ref 20] (ev_hp I J R T) cz kz := by
  intro G
  rfl
set_option maxRecDepth 100000 in
theorem pr_r61 {a0 : Int32} {a1 : Int32} : ∀ G : ez_F, fx_up X 1 G 7 48 [.ref 0, .int a0, .ref 14] [.int a1, .ref 14, .ref 20] (ev_hp I J R T) cz kz = ev_C G 119 [.ref 20, .ref 14, .int a1] (ev_hp I J R T) fun r h1 c1 k1 => G 7 51 [.ref 0, .int a0, .ref 14] (r.toList ++ []) h1 (cz + c1) (kz + k1) := by
  intro G
  rfl
set_option maxRecDepth 100000 in
theorem pr_r62 {a0 : Int32} : ∀ G : ez_F, fx_up X 2 G 7 34 [.ref 0, .int a0, .ref 14] [] (ev_hp I J R T) cz kz = some (some (.int (-1 : Int32)), (ev_hp I J R T), cz, kz) := by
  intro G
  rfl
theorem bv_26 {x : Int32}
    (H : ((¬ (I 14 2) = (0 : Int32) → (∃ Q1 : pw_Q, pe N X 119 [.ref 20, .ref 14, .int (I 1 6)] (ev_hp I J R T) Q1 ∧ ∀ (r : Option Value) (h1 : ez_H), Q1 r h1 → pw N X 7 51 [.ref 0, .int x, .ref 14] (r.toList ++ []) h1 Q)) ∧ (¬ (¬ (I 14 2) = (0 : Int32)) → Q (some (.int (-1 : Int32))) (ev_hp I J R T)))) : pw (N + 1) X 7 26 [.ref 0, .int x] [.ref 14] (ev_hp I J R T) Q := by
  refine pw_seg (by decide) (fun _ _ => pr_r58) ?_
  refine pw_p (pw_if (by decide) (fun _ _ => pr_r59) (fun w1 => ?_) (fun w1 => ?_))
  · have h1 := H.1 w1
    refine pw_p (pw_seg (by decide) (fun _ _ => pr_r60) ?_)
    obtain ⟨Q1, hc, hk⟩ := h1
    exact pw_p (pw_call (by decide) (fun _ _ => pr_r61) hc hk)
  · have h1 := H.2 w1
    exact pw_p (pw_ret (by decide) (fun _ _ => pr_r62) h1)
set_option maxRecDepth 100000 in
theorem pr_r63 {a0 : Int32} : ∀ G : ez_F, fx_up X 2 G 7 51 [.ref 0, .int a0, .ref 14] [] (ev_hp I J R T) cz kz = bif decide (¬ a0 = (0 : Int32)) then G 7 65 [.ref 0, .int a0, .ref 14] [] (ev_hp I J R T) cz kz else G 7 55 [.ref 0, .int a0, .ref 14] [] (ev_hp I J R T) cz kz := by
  intro G
  rfl
set_option maxRecDepth 100000 in
theorem pr_r64 {a0 : Int32} : ∀ G : ez_F, fx_up X 3 G 7 65 [.ref 0, .int a0, .ref 14] [] (ev_hp I J R T) cz kz = bif decide (¬ a0 = (1 : Int32)) then G 7 80 [.ref 0, .int a0, .ref 14] [] (ev_hp I J R T) cz kz else G 7 70 [.ref 0, .int a0, .ref 14] [] (ev_hp I J R T) cz kz := by
  intro G
  rfl
set_option maxRecDepth 100000 in
theorem pr_r65 {a0 : Int32} : ∀ G : ez_F, fx_up X 3 G 7 80 [.ref 0, .int a0, .ref 14] [] (ev_hp I J R T) cz kz = G 7 87 [.ref 0, .int a0, .ref 14] [.int (I 20 6)] (ev_hp I J R T) cz kz := by
  intro G
  rfl
set_option maxRecDepth 100000 in
theorem pr_r66 {a0 : Int32} {a1 : Int32} : ∀ G : ez_F, fx_up X 1 G 7 87 [.ref 0, .int a0, .ref 14] [.int a1] (ev_hp I J R T) cz kz = some (some (.int a1), (ev_hp I J R T), cz, kz) := by
  intro G
  rfl
set_option maxRecDepth 100000 in
theorem pr_r67 {a0 : Int32} : ∀ G : ez_F, fx_up X 3 G 7 70 [.ref 0, .int a0, .ref 14] [] (ev_hp I J R T) cz kz = G 7 77 [.ref 0, .int a0, .ref 14] [.int (I 20 5)] (ev_hp I J R T) cz kz := by
  intro G
  rfl
set_option maxRecDepth 100000 in
theorem pr_r68 {a0 : Int32} {a1 : Int32} : ∀ G : ez_F, fx_up X 2 G 7 77 [.ref 0, .int a0, .ref 14] [.int a1] (ev_hp I J R T) cz kz = some (some (.int a1), (ev_hp I J R T), cz, kz) := by
  intro G
  rfl
set_option maxRecDepth 100000 in
theorem pr_r69 {a0 : Int32} : ∀ G : ez_F, fx_up X 3 G 7 55 [.ref 0, .int a0, .ref 14] [] (ev_hp I J R T) cz kz = G 7 62 [.ref 0, .int a0, .ref 14] [.int (I 20 4)] (ev_hp I J R T) cz kz := by
  intro G
  rfl
set_option maxRecDepth 100000 in
theorem pr_r70 {a0 : Int32} {a1 : Int32} : ∀ G : ez_F, fx_up X 2 G 7 62 [.ref 0, .int a0, .ref 14] [.int a1] (ev_hp I J R T) cz kz = some (some (.int a1), (ev_hp I J R T), cz, kz) := by
  intro G
  rfl
theorem bv_51 {x : Int32}
    (H : ((¬ x = (0 : Int32) → ((¬ x = (1 : Int32) → Q (some (.int (I 20 6))) (ev_hp I J R T)) ∧ (¬ (¬ x = (1 : Int32)) → Q (some (.int (I 20 5))) (ev_hp I J R T)))) ∧ (¬ (¬ x = (0 : Int32)) → Q (some (.int (I 20 4))) (ev_hp I J R T)))) : pw (N + 1) X 7 51 [.ref 0, .int x, .ref 14] [] (ev_hp I J R T) Q := by
  refine pw_if (by decide) (fun _ _ => pr_r63) (fun w1 => ?_) (fun w1 => ?_)
  · have h1 := H.1 w1
    refine pw_p (pw_if (by decide) (fun _ _ => pr_r64) (fun w2 => ?_) (fun w2 => ?_))
    · have h2 := h1.1 w2
      refine pw_p (pw_seg (by decide) (fun _ _ => pr_r65) ?_)
      exact pw_p (pw_ret (by decide) (fun _ _ => pr_r66) h2)
    · have h2 := h1.2 w2
      refine pw_p (pw_seg (by decide) (fun _ _ => pr_r67) ?_)
      exact pw_p (pw_ret (by decide) (fun _ _ => pr_r68) h2)
  · have h1 := H.2 w1
    refine pw_p (pw_seg (by decide) (fun _ _ => pr_r69) ?_)
    exact pw_p (pw_ret (by decide) (fun _ _ => pr_r70) h1)
end
/-- but for the pairs -/
noncomputable def ot (I A : Nat → Nat → Int32) : Prop := ∀ a, a ≠ 20 → a ≠ 21 → A a = I a
theorem ot_21 {I A : Nat → Nat → Int32} (h : ot I A) (f : Nat → Int32) : ot I (ev_sI A 21 f) := fun a h0 h1 => by
  rw [cx_sI_n _ _ h1]
  exact h a h0 h1
theorem ot_20 {I A : Nat → Nat → Int32} (h : ot I A) (f : Nat → Int32) : ot I (ev_sI A 20 f) := fun a h0 h1 => by
  rw [cx_sI_n _ _ h0]
  exact h a h0 h1
section
variable {N : Nat} {X : ez_X} {I A : Nat → Nat → Int32} {J : Nat → Nat → Int64} {R : Nat → Nat} {T : List ez_C} {x : Int32} {z : Int64} {n l : Nat} {g1 g2 : Nat → Int64}
noncomputable def ot_Q (I : Nat → Nat → Int32) (J : Nat → Nat → Int64) (R : Nat → Nat) (T : List ez_C) : pw_Q := fun r h => r = none ∧ ∃ A, h = ev_hp A J R T ∧ ot I A
theorem nz_bit {u : Int64} (h : ¬ lg_cmp u 0 = 0) : ∃ j, j < 64 ∧ kb u j = true ∧ ∀ i, i < j → kb u i = false := low_bit fun e => h ((lg_eq _ _).mpr e)
theorem pe_pairsIn (hA : ot I A) : pe N X 116 [.ref 20, .long z] (ev_hp A J R T) (ot_Q I J R T) := by
  have inner : ∀ (n : Int32) (a : Int32) (go : ∀ A u, ot I A → ∀ N, pw N X 116 5 [.ref 20, .long z, ez_fill, .long u, ez_fill, .int (n + (1 : Int32))] [] (ev_hp A J R T) (ot_Q I J R T)) (d m : Nat), m + d = 36 → ∀ A u w, ot I A → ∀ N, pw N X 116 36 [.ref 20, .long z, ez_fill, .long u, ez_fill, .int n, .int a, .long w, ez_fill, .int (Int32.ofNat m)] [] (ev_hp A J R T) (ot_Q I J R T) := by
    intro n a go d
    induction d with
    | zero =>
      intro m hm A u w hA N
      obtain rfl : m = 36 := by omega
      exact pw_p (pi_36 ⟨fun _ => go A u hA _, fun g => absurd (by decide) g⟩)
    | succ d ih =>
      intro m hmd A u w hA N
      refine pw_p (pi_36 ⟨fun _ => go A u hA _, fun _ => ⟨fun _ => go A u hA _, fun hz => ?_⟩⟩)
      obtain ⟨j, j1, j2, j3⟩ := nz_bit hz
      refine ⟨_, pe_ntz j2 j3 j1, ?_⟩
      rintro r h ⟨rfl, rfl⟩
      refine pw_p (pi_60 ?_)
      rw [io_1]
      exact ih (m + 1) (by omega) _ _ _ (ot_21 hA _) N
  have outer : ∀ (d n : Nat), n + d = 36 → ∀ A u, ot I A → ∀ N, pw N X 116 5 [.ref 20, .long z, ez_fill, .long u, ez_fill, .int (Int32.ofNat n)] [] (ev_hp A J R T) (ot_Q I J R T) := by
    intro d
    induction d with
    | zero =>
      intro n hn A u hA N
      obtain rfl : n = 36 := by omega
      exact pw_p (pi_5 ⟨fun _ => ⟨rfl, A, rfl, hA⟩, fun g => absurd (by decide) g⟩)
    | succ d ih =>
      intro n hnd A u hA N
      refine pw_p (pi_5 ⟨fun _ => ⟨rfl, A, rfl, hA⟩, fun _ => ⟨fun _ => ⟨rfl, A, rfl, hA⟩, fun hz => ?_⟩⟩)
      obtain ⟨j, j1, j2, j3⟩ := nz_bit hz
      refine ⟨_, pe_ntz j2 j3 j1, ?_⟩
      rintro r h ⟨rfl, rfl⟩
      refine pw_p (pi_22 (inner (Int32.ofNat n) _ (fun A u hA N => ?_) 36 0 (by omega) A _ _ hA _))
      rw [io_1]
      exact ih (n + 1) (by omega) A u hA N
  exact pe_of (pw_p (pi_0 (outer 36 0 (by omega) A z hA _)))
theorem pe_placesOf (h : rowJ (R 2) T n g2) (hn : n ≤ 10000) {k : Nat} (hk : k < n) (hx : x = Int32.ofNat k) : pe N X 111 [.ref 13, .int x] (ev_hp I J R T) (fun r h => r = some (.long (g2 k)) ∧ h = ev_hp I J R T) := by
  subst hx
  refine pe_of (pw_p (po_0 ⟨_, pe_atRJ h (by omega), ?_⟩))
  rintro r h' ⟨rfl, rfl⟩
  rw [atJ_in hk (by omega)]
  exact pw_p (po_8 ⟨rfl, rfl⟩)
theorem pe_countPairs (hA : ot I A) (e63 : I 6 3 = Int32.ofNat l) (hl : l ≤ n) (hn : n ≤ 10000) (r1 : rowJ (R 1) T n g1) (r2 : rowJ (R 2) T n g2) (hb : 0 ≤ (I 2 2).toInt ∧ (I 2 2).toInt ≤ 2) : pe N X 115 [.ref 20] (ev_hp A J R T) (ot_Q I J R T) := by
  have loop2 : ∀ (d k : Nat), k + d = l → ∀ A, ot I A → ∀ N, pw N X 115 26 [.ref 20, .int (Int32.ofNat k)] [] (ev_hp A J R T) (ot_Q I J R T) := by
    intro d
    induction d with
    | zero =>
      intro k hk A hA N
      obtain rfl : k = l := by omega
      refine pw_p (pu_26 ⟨fun _ => ⟨rfl, A, rfl, hA⟩, fun g => ?_⟩)
      rw [hA 6 (by decide) (by decide), e63] at g
      exact absurd (Int32.le_refl _) g
    | succ d ih =>
      intro k hkd A hA N
      have nxt := fun A (hA : ot I A) N => ih (k + 1) (by omega) A hA N
      refine pw_p (pu_26 ⟨fun _ => ⟨rfl, A, rfl, hA⟩, fun _ => ⟨_, pe_isLeft r1 hn (by omega) (by rw [hA 2 (by decide) (by decide)]; exact hb) rfl, ?_⟩⟩)
      rintro r h ⟨rfl, rfl⟩
      refine pw_p (pu_45 ⟨fun _ => ?_, fun _ => ⟨_, pe_placesOf (k := k) r2 hn (by omega) rfl, ?_⟩⟩)
      · rw [io_1]
        exact nxt A hA _
      · rintro r h ⟨rfl, rfl⟩
        refine pw_p (pu_57 ⟨_, pe_pairsIn hA, ?_⟩)
        rintro r h ⟨rfl, A', rfl, hA'⟩
        refine pw_p (pu_60 ?_)
        rw [io_1]
        exact nxt A' hA' _
  have loop1 : ∀ (d i : Nat), i + d = 1296 → ∀ A, ot I A → ∀ N, pw N X 115 2 [.ref 20, .int (Int32.ofNat i)] [] (ev_hp A J R T) (ot_Q I J R T) := by
    intro d
    induction d with
    | zero =>
      intro i hi A hA N
      obtain rfl : i = 1296 := by omega
      exact pw_p (pu_2 ⟨fun _ => loop2 l 0 (by omega) A hA _, fun g => absurd (Int32.le_refl _) g⟩)
    | succ d ih =>
      intro i hid A hA N
      refine pw_p (pu_2 ⟨fun _ => loop2 l 0 (by omega) A hA _, fun _ _ => ?_⟩)
      rw [io_1]
      exact ih (i + 1) (by omega) _ (ot_21 hA _) _
  exact pe_of (pw_p (pu_0 (loop1 1296 0 (by omega) A hA _)))
theorem pe_pairs (hA : ot I A) (e63 : I 6 3 = Int32.ofNat l) (hl : l ≤ n) (hn : n ≤ 10000) (r1 : rowJ (R 1) T n g1) (r2 : rowJ (R 2) T n g2) (hb : 0 ≤ (I 2 2).toInt ∧ (I 2 2).toInt ≤ 2) {c : Nat} (hc : c ≤ 36) (hx : x = Int32.ofNat c) : pe N X 119 [.ref 20, .ref 14, .int x] (ev_hp A J R T) (ot_Q I J R T) := by
  subst hx
  have inner : ∀ (a : Int32) (go : ∀ A, ot I A → ∀ N, pw N X 119 24 [.ref 20, .ref 14, .int (Int32.ofNat c), .int (a + (1 : Int32))] [] (ev_hp A J R T) (ot_Q I J R T)) (d b : Nat), c ≤ b + d → b ≤ c + 1 → ∀ A, ot I A → ∀ N, pw N X 119 34 [.ref 20, .ref 14, .int (Int32.ofNat c), .int a, .int (Int32.ofNat b)] [] (ev_hp A J R T) (ot_Q I J R T) := by
    intro a go d
    induction d with
    | zero =>
      intro b hb0 hb1 A hA N
      refine pw_p (ps_34 ⟨fun _ => go A hA _, fun g => absurd ((io_le (by omega) (by omega)).mpr (by omega)) g⟩)
    | succ d ih =>
      intro b hbd hb1 A hA N
      refine pw_p (ps_34 ⟨fun _ => go A hA _, fun g => ⟨_, pe_of (Q := fun r h => (∃ v, r = some (.int v)) ∧ h = ev_hp A J R T) (pw_p (pg_0 ⟨⟨_, rfl⟩, rfl⟩)), ?_⟩⟩)
      rw [io_le (by omega) (by omega)] at g
      rintro r h ⟨⟨v, rfl⟩, rfl⟩
      refine pw_p (ps_48 ⟨fun _ => ?_, fun _ => ?_⟩)
      · rw [io_1]
        exact ih (b + 1) (by omega) (by omega) A hA _
      · rw [io_1]
        exact ih (b + 1) (by omega) (by omega) _ (ot_20 (ot_20 (ot_20 hA _) _) _) _
  have outer : ∀ (d a : Nat), a + d = c → ∀ A, ot I A → ∀ N, pw N X 119 24 [.ref 20, .ref 14, .int (Int32.ofNat c), .int (Int32.ofNat a)] [] (ev_hp A J R T) (ot_Q I J R T) := by
    intro d
    induction d with
    | zero =>
      intro a ha A hA N
      obtain rfl : a = c := by omega
      exact pw_p (ps_24 ⟨fun _ => ⟨rfl, _, rfl, ot_20 hA _⟩, fun g => absurd (Int32.le_refl _) g⟩)
    | succ d ih =>
      intro a had A hA N
      refine pw_p (ps_24 ⟨fun _ => ⟨rfl, _, rfl, ot_20 hA _⟩, fun _ => ?_⟩)
      rw [io_1]
      refine inner (Int32.ofNat a) (fun A hA N => ?_) c (a + 1) (by omega) (by omega) A hA _
      rw [io_1]
      exact ih (a + 1) (by omega) A hA N
  refine pe_of (pw_p (ps_0 ⟨fun _ => ⟨_, pe_countPairs hA e63 hl hn r1 r2 hb, ?_⟩, fun _ => ⟨rfl, A, rfl, hA⟩⟩))
  rintro r h ⟨rfl, A', rfl, hA'⟩
  exact pw_p (ps_12 (outer c 0 (by omega) _ (ot_20 hA' _) _))
/-- so what is known stays -/
theorem ot_F4 (h : ot I A) (hd : d4 I J R T) : d4 A J R T := by
  have e : b4 A J = b4 I J := by
    unfold b4
    rw [h 8 (by decide) (by decide), h 3 (by decide) (by decide), h 5 (by decide) (by decide), h 2 (by decide) (by decide), h 1 (by decide) (by decide)]
  exact d4_b e (by rw [h 2 (by decide) (by decide)]) rfl rfl (by rw [h 13 (by decide) (by decide)]) (by rw [h 13 (by decide) (by decide)]) (by rw [h 14 (by decide) (by decide)]) (h 15 (by decide) (by decide)) (h 16 (by decide) (by decide)) ⟨rfl, rfl, rfl⟩ (fun _ _ _ _ q => q) hd
theorem pe_xbestSalvo (h : rl3 I J R T) (hd : d4 I J R T) (hh : cx_hok cx_B0 I R T) : pe N X 7 [.ref 0, .int x] (ev_hp I J R T) (fun _ h => F4 h) := by
  obtain ⟨m, en, hm4, hn⟩ := b_16 hh.1
  refine pe_of (pw_p (xo_bestSalvo ⟨fun hx => ⟨_, pe_tm h.1.1 hh h.1.2, ?_⟩, fun hx => F4_tm hd⟩))
  rintro r h' (⟨h1, rfl, rfl⟩ | ⟨h1, rfl, h2⟩)
  · exact pw_p (bv_16 ⟨fun z => absurd z (by decide), fun _ => F4_tm hd⟩)
  · have hl := fun N => pe_lt (X := X) h hd hh h2 N
    obtain ⟨f6, R6, T6, rfl, -⟩ := h2
    refine pw_p (bv_16 ⟨fun _ => ⟨_, hl _, ?_⟩, fun z => absurd rfl z⟩)
    rintro r h' ⟨rfl, A, B, R', T', rfl, hq, ht⟩
    have hd4 := rq_d4 hq fun _ => ht
    have hq0 := hq
    obtain ⟨a1, a2, a3, a4, a5, a6, n, g1, g2, g3, r1, r2, r3, r4, r5, r6⟩ := hq0
    refine pw_p (bv_26 ⟨fun _ => ⟨_, pe_pairs (I := A) (fun _ _ _ => rfl) a2 r4 r5 r1 r2 (by rw [a1 2 (by decide) (by decide) (by decide) (by decide) (by decide)]; exact b_lie hh.1) hn (by rw [a1 1 (by decide) (by decide) (by decide) (by decide) (by decide)]; exact en), ?_⟩, fun _ => F4_rq hq ht⟩)
    rintro r h' ⟨rfl, A', rfl, hA'⟩
    have hF : F4 (ev_hp A' B R' T') := ⟨A', B, R', T', rfl, ot_F4 hA' hd4⟩
    exact pw_p (bv_51 ⟨fun _ => ⟨fun _ => hF, fun _ => hF⟩, fun _ => hF⟩)
end
end
section
/-! The switch: what its search leaves alone. -/
section
variable {N : Nat} {X : ez_X} {I : Nat → Nat → Int32} {J : Nat → Nat → Int64} {R : Nat → Nat} {T : List ez_C} {Q : pw_Q} {cz kz : Nat}
set_option maxRecDepth 100000 in
theorem sy_r0 {a0 : Int64} : ∀ G : ez_F, fx_up X 3 G 99 0 [.long a0, ez_fill] [] (ev_hp I J R T) cz kz = ev_C G 238 [.long a0] (ev_hp I J R T) fun r h1 c1 k1 => G 99 6 [.long a0, ez_fill] (r.toList ++ [.int (63 : Int32)]) h1 (cz + c1) (kz + k1) := by
  intro G
  rfl
theorem lc_0 {z : Int64}
    (H : (∃ Q1 : pw_Q, pe N X 238 [.long z] (ev_hp I J R T) Q1 ∧ ∀ (r : Option Value) (h1 : ez_H), Q1 r h1 → pw N X 99 6 [.long z, ez_fill] (r.toList ++ [.int (63 : Int32)]) h1 Q)) : pw (N + 1) X 99 0 [.long z, ez_fill] [] (ev_hp I J R T) Q := by
  obtain ⟨Q1, hc, hk⟩ := H
  exact pw_call (by decide) (fun _ _ => sy_r0) hc hk
set_option maxRecDepth 100000 in
theorem sy_r1 {a0 : Int64} {a1 : Int32} {a2 : Int32} : ∀ G : ez_F, fx_up X 4 G 99 6 [.long a0, ez_fill] [.int a1, .int a2] (ev_hp I J R T) cz kz = some (some (.int ((a2 - a1) >>> ((1 : Int32) &&& (31 : Int32)))), (ev_hp I J R T), cz, kz) := by
  intro G
  rfl
theorem lc_6 {v : Int32} {z : Int64}
    (H : Q (some (.int (((63 : Int32) - v) >>> ((1 : Int32) &&& (31 : Int32))))) (ev_hp I J R T)) : pw (N + 1) X 99 6 [.long z, ez_fill] [.int v, .int (63 : Int32)] (ev_hp I J R T) Q := by
  exact pw_ret (by decide) (fun _ _ => sy_r1) H
set_option maxRecDepth 100000 in
theorem sy_r2 {a0 : Int32} {a1 : Int32} {a2 : Int32} {a3 : Int32} : ∀ G : ez_F, fx_up X 12 G 96 0 [.ref 31, .int a0, .int a1, .int a2, .int a3] [] (ev_hp I J R T) cz kz = ev_C G 138 [.ref 6, .int a0] (ev_hp I J R T) fun r h1 c1 k1 => G 96 20 [.ref 31, .int a0, .int a1, .int a2, .int a3, .int ((511 : Int32) <<< (((9 : Int32) * ((2 : Int32) - a1)) &&& (31 : Int32)))] (r.toList ++ []) h1 (cz + c1) (kz + k1) := by
  intro G
  rfl
theorem cy_0 {a s c l : Int32}
    (H : (∃ Q1 : pw_Q, pe N X 138 [.ref 6, .int a] (ev_hp I J R T) Q1 ∧ ∀ (r : Option Value) (h1 : ez_H), Q1 r h1 → pw N X 96 20 [.ref 31, .int a, .int s, .int c, .int l, .int ((511 : Int32) <<< (((9 : Int32) * ((2 : Int32) - s)) &&& (31 : Int32)))] (r.toList ++ []) h1 Q)) : pw (N + 1) X 96 0 [.ref 31, .int a, .int s, .int c, .int l] [] (ev_hp I J R T) Q := by
  obtain ⟨Q1, hc, hk⟩ := H
  exact pw_call (by decide) (fun _ _ => sy_r2) hc hk
set_option maxRecDepth 100000 in
theorem sy_r3 {a0 : Int32} {a1 : Int32} {a2 : Int32} {a3 : Int32} {a4 : Int32} {a5 : Int32} : ∀ G : ez_F, fx_up X 3 G 96 20 [.ref 31, .int a0, .int a1, .int a2, .int a3, .int a4] [.int a5] (ev_hp I J R T) cz kz = G 96 25 [.ref 31, .int a0, .int a1, .int a2, .int a3, .int a4, .int a5, .int (0 : Int32)] [] (ev_hp I J R T) cz kz := by
  intro G
  rfl
theorem cy_20 {a s c l p v : Int32}
    (H : pw N X 96 25 [.ref 31, .int a, .int s, .int c, .int l, .int p, .int v, .int (0 : Int32)] [] (ev_hp I J R T) Q) : pw (N + 1) X 96 20 [.ref 31, .int a, .int s, .int c, .int l, .int p] [.int v] (ev_hp I J R T) Q := by
  refine pw_seg (by decide) (fun _ _ => sy_r3) ?_
  exact H
set_option maxRecDepth 100000 in
theorem sy_r4 {a0 : Int32} {a1 : Int32} {a2 : Int32} {a3 : Int32} {a4 : Int32} {a5 : Int32} {a6 : Int32} : ∀ G : ez_F, fx_up X 3 G 96 25 [.ref 31, .int a0, .int a1, .int a2, .int a3, .int a4, .int a5, .int a6] [] (ev_hp I J R T) cz kz = bif decide (a3 ≤ a6) then G 96 97 [.ref 31, .int a0, .int a1, .int a2, .int a3, .int a4, .int a5, .int a6] [] (ev_hp I J R T) cz kz else G 96 32 [.ref 31, .int a0, .int a1, .int a2, .int a3, .int a4, .int a5, .int a6] [] (ev_hp I J R T) cz kz := by
  intro G
  rfl
set_option maxRecDepth 100000 in
theorem sy_r5 {a0 : Int32} {a1 : Int32} {a2 : Int32} {a3 : Int32} {a4 : Int32} {a5 : Int32} {a6 : Int32} : ∀ G : ez_F, fx_up X 1 G 96 97 [.ref 31, .int a0, .int a1, .int a2, .int a3, .int a4, .int a5, .int a6] [] (ev_hp I J R T) cz kz = G 96 98 [.ref 31, .int a0, .int a1, .int a2, .int a3, .int a4, .int a5, .int a6] [.int (0 : Int32)] (ev_hp I J R T) cz kz := by
  intro G
  rfl
set_option maxRecDepth 100000 in
theorem sy_r6 {a0 : Int32} {a1 : Int32} {a2 : Int32} {a3 : Int32} {a4 : Int32} {a5 : Int32} {a6 : Int32} : ∀ G : ez_F, fx_up X 5 G 96 32 [.ref 31, .int a0, .int a1, .int a2, .int a3, .int a4, .int a5, .int a6] [] (ev_hp I J R T) cz kz = ev_C G 138 [.ref 6, .int a6] (ev_hp I J R T) fun r h1 c1 k1 => G 96 43 [.ref 31, .int a0, .int a1, .int a2, .int a3, .int a4, .int a5, .int a6] (r.toList ++ [.int a5]) h1 (cz + c1) (kz + k1) := by
  intro G
  rfl
theorem cy_25 {a s c l p q j : Int32}
    (H : ((l ≤ j → ((0 : Int32) = 0 ∨ (0 : Int32) = 1 → Q (some (.int (0 : Int32))) (ev_hp I J R T))) ∧ (¬ (l ≤ j) → (∃ Q1 : pw_Q, pe N X 138 [.ref 6, .int j] (ev_hp I J R T) Q1 ∧ ∀ (r : Option Value) (h1 : ez_H), Q1 r h1 → pw N X 96 43 [.ref 31, .int a, .int s, .int c, .int l, .int p, .int q, .int j] (r.toList ++ [.int q]) h1 Q)))) : pw (N + 1) X 96 25 [.ref 31, .int a, .int s, .int c, .int l, .int p, .int q, .int j] [] (ev_hp I J R T) Q := by
  refine pw_if (by decide) (fun _ _ => sy_r4) (fun w1 => ?_) (fun w1 => ?_)
  · have h1 := H.1 w1
    refine pw_p (pw_seg (by decide) (fun _ _ => sy_r5) ?_)
    exact pw_p (pw_zret (by rfl) h1)
  · have h1 := H.2 w1
    obtain ⟨Q1, hc, hk⟩ := h1
    exact pw_p (pw_call (by decide) (fun _ _ => sy_r6) hc hk)
set_option maxRecDepth 100000 in
theorem sy_r7 {a0 : Int32} {a1 : Int32} {a2 : Int32} {a3 : Int32} {a4 : Int32} {a5 : Int32} {a6 : Int32} {a7 : Int32} {a8 : Int32} : ∀ G : ez_F, fx_up X 4 G 96 43 [.ref 31, .int a0, .int a1, .int a2, .int a3, .int a4, .int a5, .int a6] [.int a7, .int a8] (ev_hp I J R T) cz kz = bif decide ((a8 ^^^ a7) = (0 : Int32)) then G 96 65 [.ref 31, .int a0, .int a1, .int a2, .int a3, .int a4, .int a5, .int a6, .int (a8 ^^^ a7)] [] (ev_hp I J R T) cz kz else G 96 51 [.ref 31, .int a0, .int a1, .int a2, .int a3, .int a4, .int a5, .int a6, .int (a8 ^^^ a7)] [] (ev_hp I J R T) cz kz := by
  intro G
  rfl
set_option maxRecDepth 100000 in
theorem sy_r8 {a0 : Int32} {a1 : Int32} {a2 : Int32} {a3 : Int32} {a4 : Int32} {a5 : Int32} {a6 : Int32} {a7 : Int32} : ∀ G : ez_F, fx_up X 4 G 96 65 [.ref 31, .int a0, .int a1, .int a2, .int a3, .int a4, .int a5, .int a6, .int a7] [] (ev_hp I J R T) cz kz = bif decide ((0 : Int32) = (0 : Int32)) then G 96 91 [.ref 31, .int a0, .int a1, .int a2, .int a3, .int a4, .int a5, .int a6, .int a7, .int (0 : Int32)] [] (ev_hp I J R T) cz kz else G 96 73 [.ref 31, .int a0, .int a1, .int a2, .int a3, .int a4, .int a5, .int a6, .int a7, .int (0 : Int32)] [] (ev_hp I J R T) cz kz := by
  intro G
  rfl
set_option maxRecDepth 100000 in
theorem sy_r9 {a0 : Int32} {a1 : Int32} {a2 : Int32} {a3 : Int32} {a4 : Int32} {a5 : Int32} {a6 : Int32} {a7 : Int32} {a8 : Int32} : ∀ G : ez_F, fx_up X 2 G 96 91 [.ref 31, .int a0, .int a1, .int a2, .int a3, .int a4, .int a5, .int a6, .int a7, .int a8] [] (ev_hp I J R T) cz kz = G 96 25 [.ref 31, .int a0, .int a1, .int a2, .int a3, .int a4, .int a5, .int (a6 + (1 : Int32)), .int a7, .int a8] [] (ev_hp I J R T) cz kz := by
  intro G
  rfl
set_option maxRecDepth 100000 in
theorem sy_r10 {a0 : Int32} {a1 : Int32} {a2 : Int32} {a3 : Int32} {a4 : Int32} {a5 : Int32} {a6 : Int32} {a7 : Int32} : ∀ G : ez_F, fx_up X 6 G 96 51 [.ref 31, .int a0, .int a1, .int a2, .int a3, .int a4, .int a5, .int a6, .int a7] [] (ev_hp I J R T) cz kz = bif decide (¬ (a7 &&& (a4 ^^^ (-1 : Int32))) = (0 : Int32)) then G 96 65 [.ref 31, .int a0, .int a1, .int a2, .int a3, .int a4, .int a5, .int a6, .int a7] [] (ev_hp I J R T) cz kz else G 96 61 [.ref 31, .int a0, .int a1, .int a2, .int a3, .int a4, .int a5, .int a6, .int a7] [] (ev_hp I J R T) cz kz := by
  intro G
  rfl
set_option maxRecDepth 100000 in
theorem sy_r11 {a0 : Int32} {a1 : Int32} {a2 : Int32} {a3 : Int32} {a4 : Int32} {a5 : Int32} {a6 : Int32} {a7 : Int32} : ∀ G : ez_F, fx_up X 5 G 96 61 [.ref 31, .int a0, .int a1, .int a2, .int a3, .int a4, .int a5, .int a6, .int a7] [] (ev_hp I J R T) cz kz = bif decide ((1 : Int32) = (0 : Int32)) then G 96 91 [.ref 31, .int a0, .int a1, .int a2, .int a3, .int a4, .int a5, .int a6, .int a7, .int (1 : Int32)] [] (ev_hp I J R T) cz kz else G 96 73 [.ref 31, .int a0, .int a1, .int a2, .int a3, .int a4, .int a5, .int a6, .int a7, .int (1 : Int32)] [] (ev_hp I J R T) cz kz := by
  intro G
  rfl
set_option maxRecDepth 100000 in
theorem sy_r12 {a0 : Int32} {a1 : Int32} {a2 : Int32} {a3 : Int32} {a4 : Int32} {a5 : Int32} {a6 : Int32} {a7 : Int32} {a8 : Int32} : ∀ G : ez_F, fx_up X 4 G 96 73 [.ref 31, .int a0, .int a1, .int a2, .int a3, .int a4, .int a5, .int a6, .int a7, .int a8] [] (ev_hp I J R T) cz kz = ev_C G 113 [.ref 13, .int a6] (ev_hp I J R T) fun r h1 c1 k1 => G 96 82 [.ref 31, .int a0, .int a1, .int a2, .int a3, .int a4, .int a5, .int a6, .int a7, .int a8] (r.toList ++ []) h1 (cz + c1) (kz + k1) := by
  intro G
  rfl
theorem cy_43 {a s c l p q j v : Int32}
    (H : (((q ^^^ v) = (0 : Int32) → pw N X 96 25 [.ref 31, .int a, .int s, .int c, .int l, .int p, .int q, .int (j + (1 : Int32))] [] (ev_hp I J R T) Q) ∧ (¬ ((q ^^^ v) = (0 : Int32)) → ((¬ ((q ^^^ v) &&& (p ^^^ (-1 : Int32))) = (0 : Int32) → pw N X 96 25 [.ref 31, .int a, .int s, .int c, .int l, .int p, .int q, .int (j + (1 : Int32))] [] (ev_hp I J R T) Q) ∧ (¬ (¬ ((q ^^^ v) &&& (p ^^^ (-1 : Int32))) = (0 : Int32)) → (∃ Q1 : pw_Q, pe N X 113 [.ref 13, .int j] (ev_hp I J R T) Q1 ∧ ∀ (r : Option Value) (h1 : ez_H), Q1 r h1 → pw N X 96 82 [.ref 31, .int a, .int s, .int c, .int l, .int p, .int q, .int j, .int (q ^^^ v), .int (1 : Int32)] (r.toList ++ []) h1 Q)))))) : pw (N + 1) X 96 43 [.ref 31, .int a, .int s, .int c, .int l, .int p, .int q, .int j] [.int v, .int q] (ev_hp I J R T) Q := by
  refine pw_if (by decide) (fun _ _ => sy_r7) (fun w1 => ?_) (fun w1 => ?_)
  · have h1 := H.1 w1
    refine pw_p (pw_if (by decide) (fun _ _ => sy_r8) (fun w2 => ?_) (fun w2 => ?_))
    rotate_left
    · exact absurd (by decide) w2
    refine pw_p (pw_seg (by decide) (fun _ _ => sy_r9) ?_)
    refine pw_cutl (by rfl) ?_
    exact h1
  · have h1 := H.2 w1
    refine pw_p (pw_if (by decide) (fun _ _ => sy_r10) (fun w2 => ?_) (fun w2 => ?_))
    · have h2 := h1.1 w2
      refine pw_p (pw_if (by decide) (fun _ _ => sy_r8) (fun w3 => ?_) (fun w3 => ?_))
      rotate_left
      · exact absurd (by decide) w3
      refine pw_p (pw_seg (by decide) (fun _ _ => sy_r9) ?_)
      refine pw_cutl (by rfl) ?_
      exact h2
    · have h2 := h1.2 w2
      refine pw_p (pw_if (by decide) (fun _ _ => sy_r11) (fun w3 => ?_) (fun w3 => ?_))
      · exact absurd w3 (by decide)
      obtain ⟨Q1, hc, hk⟩ := h2
      exact pw_p (pw_call (by decide) (fun _ _ => sy_r12) hc hk)
set_option maxRecDepth 100000 in
theorem sy_r13 {a0 : Int32} {a1 : Int32} {a2 : Int32} {a3 : Int32} {a4 : Int32} {a5 : Int32} {a6 : Int32} {a7 : Int32} {a8 : Int32} {a9 : Int64} : ∀ G : ez_F, fx_up X 1 G 96 82 [.ref 31, .int a0, .int a1, .int a2, .int a3, .int a4, .int a5, .int a6, .int a7, .int a8] [.long a9] (ev_hp I J R T) cz kz = ev_C G 97 [.long a9] (ev_hp I J R T) fun r h1 c1 k1 => G 96 85 [.ref 31, .int a0, .int a1, .int a2, .int a3, .int a4, .int a5, .int a6, .int a7, .int a8] (r.toList ++ []) h1 (cz + c1) (kz + k1) := by
  intro G
  rfl
theorem cy_82 {a s c l p q j u e : Int32} {z : Int64}
    (H : (∃ Q1 : pw_Q, pe N X 97 [.long z] (ev_hp I J R T) Q1 ∧ ∀ (r : Option Value) (h1 : ez_H), Q1 r h1 → pw N X 96 85 [.ref 31, .int a, .int s, .int c, .int l, .int p, .int q, .int j, .int u, .int e] (r.toList ++ []) h1 Q)) : pw (N + 1) X 96 82 [.ref 31, .int a, .int s, .int c, .int l, .int p, .int q, .int j, .int u, .int e] [.long z] (ev_hp I J R T) Q := by
  obtain ⟨Q1, hc, hk⟩ := H
  exact pw_call (by decide) (fun _ _ => sy_r13) hc hk
set_option maxRecDepth 100000 in
theorem sy_r14  : ∀ G : ez_F, fx_up X 3 G 101 0 [.ref 31] [] (ev_hp I J R T) cz kz = G 101 7 [.ref 31] [.int (I 6 3)] (ev_hp I J R T) cz kz := by
  intro G
  rfl
set_option maxRecDepth 100000 in
theorem sy_r15 {a0 : Int32} : ∀ G : ez_F, fx_up X 4 G 101 7 [.ref 31] [.int a0] (ev_hp I J R T) cz kz = G 101 13 [.ref 31, .int a0] [] (ev_hp (ev_sI I 31 (upd (I 31) 4 (-1 : Int32))) J R T) cz kz := by
  intro G
  rfl
set_option maxRecDepth 100000 in
theorem sy_r16 {a0 : Int32} : ∀ G : ez_F, fx_up X 3 G 101 13 [.ref 31, .int a0] [] (ev_hp I J R T) cz kz = G 101 18 [.ref 31, .int a0] [] (ev_hp (ev_sI I 31 (upd (I 31) 5 (-1 : Int32))) J R T) cz kz := by
  intro G
  rfl
set_option maxRecDepth 100000 in
theorem sy_r17 {a0 : Int32} : ∀ G : ez_F, fx_up X 2 G 101 18 [.ref 31, .int a0] [] (ev_hp I J R T) cz kz = G 101 20 [.ref 31, .int a0, .int (0 : Int32)] [] (ev_hp I J R T) cz kz := by
  intro G
  rfl
theorem sj_0 
    (H : pw N X 101 20 [.ref 31, .int (I 6 3), .int (0 : Int32)] [] (ev_hp (ev_sI (ev_sI I 31 (upd (I 31) 4 (-1 : Int32))) 31 (upd (upd (I 31) 4 (-1 : Int32)) 5 (-1 : Int32))) J R T) Q) : pw (N + 1) X 101 0 [.ref 31] [] (ev_hp I J R T) Q := by
  refine pw_seg (by decide) (fun _ _ => sy_r14) ?_
  refine pw_p (pw_seg (by decide) (fun _ _ => sy_r15) ?_)
  refine pw_p (pw_seg (by decide) (fun _ _ => sy_r16) ?_)
  refine pw_p (pw_seg (by decide) (fun _ _ => sy_r17) ?_)
  exact H
set_option maxRecDepth 100000 in
theorem sy_r18 {a0 : Int32} {a1 : Int32} : ∀ G : ez_F, fx_up X 4 G 101 20 [.ref 31, .int a0, .int a1] [] (ev_hp I J R T) cz kz = G 101 28 [.ref 31, .int a0, .int a1] [.int (I 3 3), .int a1] (ev_hp I J R T) cz kz := by
  intro G
  rfl
set_option maxRecDepth 100000 in
theorem sy_r19 {a0 : Int32} {a1 : Int32} {a2 : Int32} {a3 : Int32} : ∀ G : ez_F, fx_up X 1 G 101 28 [.ref 31, .int a0, .int a1] [.int a2, .int a3] (ev_hp I J R T) cz kz = bif decide (a2 ≤ a3) then G 101 117 [.ref 31, .int a0, .int a1] [] (ev_hp I J R T) cz kz else G 101 31 [.ref 31, .int a0, .int a1] [] (ev_hp I J R T) cz kz := by
  intro G
  rfl
set_option maxRecDepth 100000 in
theorem sy_r20 {a0 : Int32} {a1 : Int32} : ∀ G : ez_F, fx_up X 1 G 101 117 [.ref 31, .int a0, .int a1] [] (ev_hp I J R T) cz kz = some (none, (ev_hp I J R T), cz, kz) := by
  intro G
  rfl
set_option maxRecDepth 100000 in
theorem sy_r21 {a0 : Int32} {a1 : Int32} : ∀ G : ez_F, fx_up X 2 G 101 31 [.ref 31, .int a0, .int a1] [] (ev_hp I J R T) cz kz = G 101 33 [.ref 31, .int a0, .int a1, .int (0 : Int32)] [] (ev_hp I J R T) cz kz := by
  intro G
  rfl
theorem sj_20 {l s : Int32}
    (H : (((I 3 3) ≤ s → Q none (ev_hp I J R T)) ∧ (¬ ((I 3 3) ≤ s) → pw N X 101 33 [.ref 31, .int l, .int s, .int (0 : Int32)] [] (ev_hp I J R T) Q))) : pw (N + 1) X 101 20 [.ref 31, .int l, .int s] [] (ev_hp I J R T) Q := by
  refine pw_seg (by decide) (fun _ _ => sy_r18) ?_
  refine pw_p (pw_if (by decide) (fun _ _ => sy_r19) (fun w1 => ?_) (fun w1 => ?_))
  · have h1 := H.1 w1
    exact pw_p (pw_ret (by decide) (fun _ _ => sy_r20) h1)
  · have h1 := H.2 w1
    refine pw_p (pw_seg (by decide) (fun _ _ => sy_r21) ?_)
    exact h1
set_option maxRecDepth 100000 in
theorem sy_r22 {a0 : Int32} {a1 : Int32} {a2 : Int32} : ∀ G : ez_F, fx_up X 3 G 101 33 [.ref 31, .int a0, .int a1, .int a2] [] (ev_hp I J R T) cz kz = bif decide (a0 ≤ a2) then G 101 111 [.ref 31, .int a0, .int a1, .int a2] [] (ev_hp I J R T) cz kz else G 101 38 [.ref 31, .int a0, .int a1, .int a2] [] (ev_hp I J R T) cz kz := by
  intro G
  rfl
set_option maxRecDepth 100000 in
theorem sy_r23 {a0 : Int32} {a1 : Int32} {a2 : Int32} : ∀ G : ez_F, fx_up X 2 G 101 111 [.ref 31, .int a0, .int a1, .int a2] [] (ev_hp I J R T) cz kz = G 101 20 [.ref 31, .int a0, .int (a1 + (1 : Int32)), .int a2] [] (ev_hp I J R T) cz kz := by
  intro G
  rfl
set_option maxRecDepth 100000 in
theorem sy_r24 {a0 : Int32} {a1 : Int32} {a2 : Int32} : ∀ G : ez_F, fx_up X 4 G 101 38 [.ref 31, .int a0, .int a1, .int a2] [] (ev_hp I J R T) cz kz = ev_C G 113 [.ref 13, .int a2] (ev_hp I J R T) fun r h1 c1 k1 => G 101 46 [.ref 31, .int a0, .int a1, .int a2] (r.toList ++ []) h1 (cz + c1) (kz + k1) := by
  intro G
  rfl
theorem sj_33 {l s k : Int32}
    (H : ((l ≤ k → pw N X 101 20 [.ref 31, .int l, .int (s + (1 : Int32))] [] (ev_hp I J R T) Q) ∧ (¬ (l ≤ k) → (∃ Q1 : pw_Q, pe N X 113 [.ref 13, .int k] (ev_hp I J R T) Q1 ∧ ∀ (r : Option Value) (h1 : ez_H), Q1 r h1 → pw N X 101 46 [.ref 31, .int l, .int s, .int k] (r.toList ++ []) h1 Q)))) : pw (N + 1) X 101 33 [.ref 31, .int l, .int s, .int k] [] (ev_hp I J R T) Q := by
  refine pw_if (by decide) (fun _ _ => sy_r22) (fun w1 => ?_) (fun w1 => ?_)
  · have h1 := H.1 w1
    refine pw_p (pw_seg (by decide) (fun _ _ => sy_r23) ?_)
    refine pw_cutl (by rfl) ?_
    exact h1
  · have h1 := H.2 w1
    obtain ⟨Q1, hc, hk⟩ := h1
    exact pw_p (pw_call (by decide) (fun _ _ => sy_r24) hc hk)
set_option maxRecDepth 100000 in
theorem sy_r25 {a0 : Int32} {a1 : Int32} {a2 : Int32} {a3 : Int64} : ∀ G : ez_F, fx_up X 1 G 101 46 [.ref 31, .int a0, .int a1, .int a2] [.long a3] (ev_hp I J R T) cz kz = ev_C G 99 [.long a3] (ev_hp I J R T) fun r h1 c1 k1 => G 101 49 [.ref 31, .int a0, .int a1, .int a2] (r.toList ++ []) h1 (cz + c1) (kz + k1) := by
  intro G
  rfl
theorem sj_46 {l s k : Int32} {z : Int64}
    (H : (∃ Q1 : pw_Q, pe N X 99 [.long z] (ev_hp I J R T) Q1 ∧ ∀ (r : Option Value) (h1 : ez_H), Q1 r h1 → pw N X 101 49 [.ref 31, .int l, .int s, .int k] (r.toList ++ []) h1 Q)) : pw (N + 1) X 101 46 [.ref 31, .int l, .int s, .int k] [.long z] (ev_hp I J R T) Q := by
  obtain ⟨Q1, hc, hk⟩ := H
  exact pw_call (by decide) (fun _ _ => sy_r25) hc hk
set_option maxRecDepth 100000 in
theorem sy_r26 {a0 : Int32} {a1 : Int32} {a2 : Int32} {a3 : Int32} : ∀ G : ez_F, fx_up X 5 G 101 49 [.ref 31, .int a0, .int a1, .int a2] [.int a3] (ev_hp I J R T) cz kz = G 101 57 [.ref 31, .int a0, .int a1, .int a2, .int (a3 + (1 : Int32))] [.int (I 31 4)] (ev_hp I J R T) cz kz := by
  intro G
  rfl
set_option maxRecDepth 100000 in
theorem sy_r27 {a0 : Int32} {a1 : Int32} {a2 : Int32} {a3 : Int32} {a4 : Int32} : ∀ G : ez_F, fx_up X 2 G 101 57 [.ref 31, .int a0, .int a1, .int a2, .int a3] [.int a4] (ev_hp I J R T) cz kz = bif decide (a4 = (-1 : Int32)) then G 101 70 [.ref 31, .int a0, .int a1, .int a2, .int a3] [] (ev_hp I J R T) cz kz else G 101 61 [.ref 31, .int a0, .int a1, .int a2, .int a3] [] (ev_hp I J R T) cz kz := by
  intro G
  rfl
set_option maxRecDepth 100000 in
theorem sy_r28 {a0 : Int32} {a1 : Int32} {a2 : Int32} {a3 : Int32} : ∀ G : ez_F, fx_up X 5 G 101 70 [.ref 31, .int a0, .int a1, .int a2, .int a3] [] (ev_hp I J R T) cz kz = bif decide ((1 : Int32) = (0 : Int32)) then G 101 105 [.ref 31, .int a0, .int a1, .int a2, .int a3, .int (1 : Int32)] [] (ev_hp I J R T) cz kz else G 101 82 [.ref 31, .int a0, .int a1, .int a2, .int a3, .int (1 : Int32)] [] (ev_hp I J R T) cz kz := by
  intro G
  rfl
set_option maxRecDepth 100000 in
theorem sy_r29 {a0 : Int32} {a1 : Int32} {a2 : Int32} {a3 : Int32} {a4 : Int32} : ∀ G : ez_F, fx_up X 6 G 101 82 [.ref 31, .int a0, .int a1, .int a2, .int a3, .int a4] [] (ev_hp I J R T) cz kz = ev_C G 96 [.ref 31, .int a2, .int a1, .int a3, .int a0] (ev_hp I J R T) fun r h1 c1 k1 => G 101 91 [.ref 31, .int a0, .int a1, .int a2, .int a3, .int a4] (r.toList ++ []) h1 (cz + c1) (kz + k1) := by
  intro G
  rfl
set_option maxRecDepth 100000 in
theorem sy_r30 {a0 : Int32} {a1 : Int32} {a2 : Int32} {a3 : Int32} : ∀ G : ez_F, fx_up X 3 G 101 61 [.ref 31, .int a0, .int a1, .int a2, .int a3] [] (ev_hp I J R T) cz kz = G 101 67 [.ref 31, .int a0, .int a1, .int a2, .int a3] [.int (I 31 4), .int a3] (ev_hp I J R T) cz kz := by
  intro G
  rfl
set_option maxRecDepth 100000 in
theorem sy_r31 {a0 : Int32} {a1 : Int32} {a2 : Int32} {a3 : Int32} {a4 : Int32} {a5 : Int32} : ∀ G : ez_F, fx_up X 1 G 101 67 [.ref 31, .int a0, .int a1, .int a2, .int a3] [.int a4, .int a5] (ev_hp I J R T) cz kz = bif decide (a4 ≤ a5) then G 101 74 [.ref 31, .int a0, .int a1, .int a2, .int a3] [] (ev_hp I J R T) cz kz else G 101 70 [.ref 31, .int a0, .int a1, .int a2, .int a3] [] (ev_hp I J R T) cz kz := by
  intro G
  rfl
set_option maxRecDepth 100000 in
theorem sy_r32 {a0 : Int32} {a1 : Int32} {a2 : Int32} {a3 : Int32} : ∀ G : ez_F, fx_up X 4 G 101 74 [.ref 31, .int a0, .int a1, .int a2, .int a3] [] (ev_hp I J R T) cz kz = bif decide ((0 : Int32) = (0 : Int32)) then G 101 105 [.ref 31, .int a0, .int a1, .int a2, .int a3, .int (0 : Int32)] [] (ev_hp I J R T) cz kz else G 101 82 [.ref 31, .int a0, .int a1, .int a2, .int a3, .int (0 : Int32)] [] (ev_hp I J R T) cz kz := by
  intro G
  rfl
set_option maxRecDepth 100000 in
theorem sy_r33 {a0 : Int32} {a1 : Int32} {a2 : Int32} {a3 : Int32} {a4 : Int32} : ∀ G : ez_F, fx_up X 2 G 101 105 [.ref 31, .int a0, .int a1, .int a2, .int a3, .int a4] [] (ev_hp I J R T) cz kz = G 101 33 [.ref 31, .int a0, .int a1, .int (a2 + (1 : Int32)), .int a3, .int a4] [] (ev_hp I J R T) cz kz := by
  intro G
  rfl
theorem sj_49 {l s k v : Int32}
    (H : (((I 31 4) = (-1 : Int32) → (∃ Q1 : pw_Q, pe N X 96 [.ref 31, .int k, .int s, .int (v + (1 : Int32)), .int l] (ev_hp I J R T) Q1 ∧ ∀ (r : Option Value) (h1 : ez_H), Q1 r h1 → pw N X 101 91 [.ref 31, .int l, .int s, .int k, .int (v + (1 : Int32)), .int (1 : Int32)] (r.toList ++ []) h1 Q)) ∧ (¬ ((I 31 4) = (-1 : Int32)) → (((I 31 4) ≤ (v + (1 : Int32)) → pw N X 101 33 [.ref 31, .int l, .int s, .int (k + (1 : Int32))] [] (ev_hp I J R T) Q) ∧ (¬ ((I 31 4) ≤ (v + (1 : Int32))) → (∃ Q1 : pw_Q, pe N X 96 [.ref 31, .int k, .int s, .int (v + (1 : Int32)), .int l] (ev_hp I J R T) Q1 ∧ ∀ (r : Option Value) (h1 : ez_H), Q1 r h1 → pw N X 101 91 [.ref 31, .int l, .int s, .int k, .int (v + (1 : Int32)), .int (1 : Int32)] (r.toList ++ []) h1 Q)))))) : pw (N + 1) X 101 49 [.ref 31, .int l, .int s, .int k] [.int v] (ev_hp I J R T) Q := by
  refine pw_seg (by decide) (fun _ _ => sy_r26) ?_
  refine pw_p (pw_if (by decide) (fun _ _ => sy_r27) (fun w1 => ?_) (fun w1 => ?_))
  · have h1 := H.1 w1
    refine pw_p (pw_if (by decide) (fun _ _ => sy_r28) (fun w2 => ?_) (fun w2 => ?_))
    · exact absurd w2 (by decide)
    obtain ⟨Q1, hc, hk⟩ := h1
    exact pw_p (pw_call (by decide) (fun _ _ => sy_r29) hc hk)
  · have h1 := H.2 w1
    refine pw_p (pw_seg (by decide) (fun _ _ => sy_r30) ?_)
    refine pw_p (pw_if (by decide) (fun _ _ => sy_r31) (fun w2 => ?_) (fun w2 => ?_))
    · have h2 := h1.1 w2
      refine pw_p (pw_if (by decide) (fun _ _ => sy_r32) (fun w3 => ?_) (fun w3 => ?_))
      rotate_left
      · exact absurd (by decide) w3
      refine pw_p (pw_seg (by decide) (fun _ _ => sy_r33) ?_)
      refine pw_cutl (by rfl) ?_
      exact h2
    · have h2 := h1.2 w2
      refine pw_p (pw_if (by decide) (fun _ _ => sy_r28) (fun w3 => ?_) (fun w3 => ?_))
      · exact absurd w3 (by decide)
      obtain ⟨Q1, hc, hk⟩ := h2
      exact pw_p (pw_call (by decide) (fun _ _ => sy_r29) hc hk)
set_option maxRecDepth 100000 in
theorem sy_r34 {a0 : Int32} {a1 : Int32} : ∀ G : ez_F, fx_up X 1 G 50 16 [.ref 0, .int a0] [.int a1] (ev_hp I J R T) cz kz = bif decide (a1 = (0 : Int32)) then G 50 22 [.ref 0, .int a0] [] (ev_hp I J R T) cz kz else G 50 19 [.ref 0, .int a0] [] (ev_hp I J R T) cz kz := by
  intro G
  rfl
set_option maxRecDepth 100000 in
theorem sy_r35 {a0 : Int32} : ∀ G : ez_F, fx_up X 3 G 50 22 [.ref 0, .int a0] [] (ev_hp I J R T) cz kz = ev_C G 112 [.ref 13] (ev_hp I J R T) fun r h1 c1 k1 => G 50 29 [.ref 0, .int a0] (r.toList ++ []) h1 (cz + c1) (kz + k1) := by
  intro G
  rfl
set_option maxRecDepth 100000 in
theorem sy_r36 {a0 : Int32} : ∀ G : ez_F, fx_up X 2 G 50 19 [.ref 0, .int a0] [] (ev_hp I J R T) cz kz = some (some (.int (-6 : Int32)), (ev_hp I J R T), cz, kz) := by
  intro G
  rfl
theorem sv_16 {v x : Int32}
    (H : ((v = (0 : Int32) → (∃ Q1 : pw_Q, pe N X 112 [.ref 13] (ev_hp I J R T) Q1 ∧ ∀ (r : Option Value) (h1 : ez_H), Q1 r h1 → pw N X 50 29 [.ref 0, .int x] (r.toList ++ []) h1 Q)) ∧ (¬ (v = (0 : Int32)) → Q (some (.int (-6 : Int32))) (ev_hp I J R T)))) : pw (N + 1) X 50 16 [.ref 0, .int x] [.int v] (ev_hp I J R T) Q := by
  refine pw_if (by decide) (fun _ _ => sy_r34) (fun w1 => ?_) (fun w1 => ?_)
  · have h1 := H.1 w1
    obtain ⟨Q1, hc, hk⟩ := h1
    exact pw_p (pw_call (by decide) (fun _ _ => sy_r35) hc hk)
  · have h1 := H.2 w1
    exact pw_p (pw_ret (by decide) (fun _ _ => sy_r36) h1)
set_option maxRecDepth 100000 in
theorem sy_r37 {a0 : Int32} : ∀ G : ez_F, fx_up X 3 G 50 29 [.ref 0, .int a0] [] (ev_hp I J R T) cz kz = ev_C G 102 [.ref 31] (ev_hp I J R T) fun r h1 c1 k1 => G 50 36 [.ref 0, .int a0] (r.toList ++ []) h1 (cz + c1) (kz + k1) := by
  intro G
  rfl
theorem sv_29 {x : Int32}
    (H : (∃ Q1 : pw_Q, pe N X 102 [.ref 31] (ev_hp I J R T) Q1 ∧ ∀ (r : Option Value) (h1 : ez_H), Q1 r h1 → pw N X 50 36 [.ref 0, .int x] (r.toList ++ []) h1 Q)) : pw (N + 1) X 50 29 [.ref 0, .int x] [] (ev_hp I J R T) Q := by
  obtain ⟨Q1, hc, hk⟩ := H
  exact pw_call (by decide) (fun _ _ => sy_r37) hc hk
set_option maxRecDepth 100000 in
theorem sy_r38 {a0 : Int32} {a1 : Int32} : ∀ G : ez_F, fx_up X 1 G 50 36 [.ref 0, .int a0] [.int a1] (ev_hp I J R T) cz kz = bif decide (a1 = (0 : Int32)) then G 50 42 [.ref 0, .int a0] [] (ev_hp I J R T) cz kz else G 50 39 [.ref 0, .int a0] [] (ev_hp I J R T) cz kz := by
  intro G
  rfl
set_option maxRecDepth 100000 in
theorem sy_r39 {a0 : Int32} : ∀ G : ez_F, fx_up X 3 G 50 42 [.ref 0, .int a0] [] (ev_hp I J R T) cz kz = ev_C G 101 [.ref 31] (ev_hp I J R T) fun r h1 c1 k1 => G 50 49 [.ref 0, .int a0] (r.toList ++ []) h1 (cz + c1) (kz + k1) := by
  intro G
  rfl
set_option maxRecDepth 100000 in
theorem sy_r40 {a0 : Int32} : ∀ G : ez_F, fx_up X 2 G 50 39 [.ref 0, .int a0] [] (ev_hp I J R T) cz kz = some (some (.int (-4 : Int32)), (ev_hp I J R T), cz, kz) := by
  intro G
  rfl
theorem sv_36 {v x : Int32}
    (H : ((v = (0 : Int32) → (∃ Q1 : pw_Q, pe N X 101 [.ref 31] (ev_hp I J R T) Q1 ∧ ∀ (r : Option Value) (h1 : ez_H), Q1 r h1 → pw N X 50 49 [.ref 0, .int x] (r.toList ++ []) h1 Q)) ∧ (¬ (v = (0 : Int32)) → Q (some (.int (-4 : Int32))) (ev_hp I J R T)))) : pw (N + 1) X 50 36 [.ref 0, .int x] [.int v] (ev_hp I J R T) Q := by
  refine pw_if (by decide) (fun _ _ => sy_r38) (fun w1 => ?_) (fun w1 => ?_)
  · have h1 := H.1 w1
    obtain ⟨Q1, hc, hk⟩ := h1
    exact pw_p (pw_call (by decide) (fun _ _ => sy_r39) hc hk)
  · have h1 := H.2 w1
    exact pw_p (pw_ret (by decide) (fun _ _ => sy_r40) h1)
set_option maxRecDepth 100000 in
theorem sy_r41 {a0 : Int32} : ∀ G : ez_F, fx_up X 2 G 50 49 [.ref 0, .int a0] [] (ev_hp I J R T) cz kz = bif decide (¬ a0 = (0 : Int32)) then G 50 63 [.ref 0, .int a0] [] (ev_hp I J R T) cz kz else G 50 53 [.ref 0, .int a0] [] (ev_hp I J R T) cz kz := by
  intro G
  rfl
set_option maxRecDepth 100000 in
theorem sy_r42 {a0 : Int32} : ∀ G : ez_F, fx_up X 3 G 50 63 [.ref 0, .int a0] [] (ev_hp I J R T) cz kz = G 50 70 [.ref 0, .int a0] [.int (I 31 5)] (ev_hp I J R T) cz kz := by
  intro G
  rfl
set_option maxRecDepth 100000 in
theorem sy_r43 {a0 : Int32} {a1 : Int32} : ∀ G : ez_F, fx_up X 1 G 50 70 [.ref 0, .int a0] [.int a1] (ev_hp I J R T) cz kz = some (some (.int a1), (ev_hp I J R T), cz, kz) := by
  intro G
  rfl
set_option maxRecDepth 100000 in
theorem sy_r44 {a0 : Int32} : ∀ G : ez_F, fx_up X 3 G 50 53 [.ref 0, .int a0] [] (ev_hp I J R T) cz kz = G 50 60 [.ref 0, .int a0] [.int (I 31 4)] (ev_hp I J R T) cz kz := by
  intro G
  rfl
set_option maxRecDepth 100000 in
theorem sy_r45 {a0 : Int32} {a1 : Int32} : ∀ G : ez_F, fx_up X 2 G 50 60 [.ref 0, .int a0] [.int a1] (ev_hp I J R T) cz kz = some (some (.int a1), (ev_hp I J R T), cz, kz) := by
  intro G
  rfl
theorem sv_49 {x : Int32}
    (H : ((¬ x = (0 : Int32) → Q (some (.int (I 31 5))) (ev_hp I J R T)) ∧ (¬ (¬ x = (0 : Int32)) → Q (some (.int (I 31 4))) (ev_hp I J R T)))) : pw (N + 1) X 50 49 [.ref 0, .int x] [] (ev_hp I J R T) Q := by
  refine pw_if (by decide) (fun _ _ => sy_r41) (fun w1 => ?_) (fun w1 => ?_)
  · have h1 := H.1 w1
    refine pw_p (pw_seg (by decide) (fun _ _ => sy_r42) ?_)
    exact pw_p (pw_ret (by decide) (fun _ _ => sy_r43) h1)
  · have h1 := H.2 w1
    refine pw_p (pw_seg (by decide) (fun _ _ => sy_r44) ?_)
    exact pw_p (pw_ret (by decide) (fun _ _ => sy_r45) h1)
set_option maxRecDepth 100000 in
theorem sy_r46 {a0 : Int32} {a1 : Int32} {a2 : Int32} {a3 : Int32} {a4 : Int32} {a5 : Int32} {a6 : Int32} {a7 : Int32} {a8 : Int32} {a9 : Int32} : ∀ G : ez_F, fx_up X 2 G 96 85 [.ref 31, .int a0, .int a1, .int a2, .int a3, .int a4, .int a5, .int a6, .int a7, .int a8] [.int a9] (ev_hp I J R T) cz kz = bif decide (a9 < a2) then G 96 91 [.ref 31, .int a0, .int a1, .int a2, .int a3, .int a4, .int a5, .int a6, .int a7, .int a8] [] (ev_hp I J R T) cz kz else G 96 89 [.ref 31, .int a0, .int a1, .int a2, .int a3, .int a4, .int a5, .int a6, .int a7, .int a8] [] (ev_hp I J R T) cz kz := by
  intro G
  rfl
set_option maxRecDepth 100000 in
theorem sy_r47 {a0 : Int32} {a1 : Int32} {a2 : Int32} {a3 : Int32} {a4 : Int32} {a5 : Int32} {a6 : Int32} {a7 : Int32} {a8 : Int32} : ∀ G : ez_F, fx_up X 1 G 96 89 [.ref 31, .int a0, .int a1, .int a2, .int a3, .int a4, .int a5, .int a6, .int a7, .int a8] [] (ev_hp I J R T) cz kz = G 96 90 [.ref 31, .int a0, .int a1, .int a2, .int a3, .int a4, .int a5, .int a6, .int a7, .int a8] [.int (1 : Int32)] (ev_hp I J R T) cz kz := by
  intro G
  rfl
theorem cy_85 {a s c l p q j u e v : Int32}
    (H : ((v < c → pw N X 96 25 [.ref 31, .int a, .int s, .int c, .int l, .int p, .int q, .int (j + (1 : Int32))] [] (ev_hp I J R T) Q) ∧ (¬ (v < c) → ((1 : Int32) = 0 ∨ (1 : Int32) = 1 → Q (some (.int (1 : Int32))) (ev_hp I J R T))))) : pw (N + 1) X 96 85 [.ref 31, .int a, .int s, .int c, .int l, .int p, .int q, .int j, .int u, .int e] [.int v] (ev_hp I J R T) Q := by
  refine pw_if (by decide) (fun _ _ => sy_r46) (fun w1 => ?_) (fun w1 => ?_)
  · have h1 := H.1 w1
    refine pw_p (pw_seg (by decide) (fun _ _ => sy_r9) ?_)
    refine pw_cutl (by rfl) ?_
    exact h1
  · have h1 := H.2 w1
    refine pw_p (pw_seg (by decide) (fun _ _ => sy_r47) ?_)
    exact pw_p (pw_zret (by rfl) h1)
set_option maxRecDepth 100000 in
theorem sy_r48 {a0 : Int32} {a1 : Int32} {a2 : Int32} {a3 : Int32} {a4 : Int32} {a5 : Int32} : ∀ G : ez_F, fx_up X 1 G 101 91 [.ref 31, .int a0, .int a1, .int a2, .int a3, .int a4] [.int a5] (ev_hp I J R T) cz kz = bif decide (a5 = (0 : Int32)) then G 101 105 [.ref 31, .int a0, .int a1, .int a2, .int a3, .int a4] [] (ev_hp I J R T) cz kz else G 101 94 [.ref 31, .int a0, .int a1, .int a2, .int a3, .int a4] [] (ev_hp I J R T) cz kz := by
  intro G
  rfl
set_option maxRecDepth 100000 in
theorem sy_r49 {a0 : Int32} {a1 : Int32} {a2 : Int32} {a3 : Int32} {a4 : Int32} : ∀ G : ez_F, fx_up X 3 G 101 94 [.ref 31, .int a0, .int a1, .int a2, .int a3, .int a4] [] (ev_hp I J R T) cz kz = G 101 100 [.ref 31, .int a0, .int a1, .int a2, .int a3, .int a4] [] (ev_hp (ev_sI I 31 (upd (I 31) 4 a3)) J R T) cz kz := by
  intro G
  rfl
set_option maxRecDepth 100000 in
theorem sy_r50 {a0 : Int32} {a1 : Int32} {a2 : Int32} {a3 : Int32} {a4 : Int32} : ∀ G : ez_F, fx_up X 3 G 101 100 [.ref 31, .int a0, .int a1, .int a2, .int a3, .int a4] [] (ev_hp I J R T) cz kz = G 101 105 [.ref 31, .int a0, .int a1, .int a2, .int a3, .int a4] [] (ev_hp (ev_sI I 31 (upd (I 31) 5 a1)) J R T) cz kz := by
  intro G
  rfl
theorem sj_91 {l s k v w b : Int32}
    (H : ((v = (0 : Int32) → pw N X 101 33 [.ref 31, .int l, .int s, .int (k + (1 : Int32))] [] (ev_hp I J R T) Q) ∧ (¬ (v = (0 : Int32)) → pw N X 101 33 [.ref 31, .int l, .int s, .int (k + (1 : Int32))] [] (ev_hp (ev_sI (ev_sI I 31 (upd (I 31) 4 w)) 31 (upd (upd (I 31) 4 w) 5 s)) J R T) Q))) : pw (N + 1) X 101 91 [.ref 31, .int l, .int s, .int k, .int w, .int b] [.int v] (ev_hp I J R T) Q := by
  refine pw_if (by decide) (fun _ _ => sy_r48) (fun w1 => ?_) (fun w1 => ?_)
  · have h1 := H.1 w1
    refine pw_p (pw_seg (by decide) (fun _ _ => sy_r33) ?_)
    refine pw_cutl (by rfl) ?_
    exact h1
  · have h1 := H.2 w1
    refine pw_p (pw_seg (by decide) (fun _ _ => sy_r49) ?_)
    refine pw_p (pw_seg (by decide) (fun _ _ => sy_r50) ?_)
    refine pw_p (pw_seg (by decide) (fun _ _ => sy_r33) ?_)
    refine pw_cutl (by rfl) ?_
    exact h1
set_option maxRecDepth 100000 in
theorem sy_r51 {a0 : Int32} : ∀ G : ez_F, fx_up X 2 G 235 0 [.int a0] [] (ev_hp I J R T) cz kz = bif decide ((0 : Int32) < a0) then G 235 15 [.int a0] [] (ev_hp I J R T) cz kz else G 235 4 [.int a0] [] (ev_hp I J R T) cz kz := by
  intro G
  rfl
set_option maxRecDepth 100000 in
theorem sy_r52 {a0 : Int32} : ∀ G : ez_F, fx_up X 2 G 235 15 [.int a0] [] (ev_hp I J R T) cz kz = G 235 18 [.int a0, .int (31 : Int32)] [] (ev_hp I J R T) cz kz := by
  intro G
  rfl
set_option maxRecDepth 100000 in
theorem sy_r53 {a0 : Int32} : ∀ G : ez_F, fx_up X 2 G 235 4 [.int a0] [] (ev_hp I J R T) cz kz = bif decide (¬ a0 = (0 : Int32)) then G 235 13 [.int a0] [] (ev_hp I J R T) cz kz else G 235 8 [.int a0] [] (ev_hp I J R T) cz kz := by
  intro G
  rfl
set_option maxRecDepth 100000 in
theorem sy_r54 {a0 : Int32} : ∀ G : ez_F, fx_up X 2 G 235 13 [.int a0] [] (ev_hp I J R T) cz kz = some (some (.int (0 : Int32)), (ev_hp I J R T), cz, kz) := by
  intro G
  rfl
set_option maxRecDepth 100000 in
theorem sy_r55 {a0 : Int32} : ∀ G : ez_F, fx_up X 3 G 235 8 [.int a0] [] (ev_hp I J R T) cz kz = some (some (.int (32 : Int32)), (ev_hp I J R T), cz, kz) := by
  intro G
  rfl
theorem nh_0 {x : Int32}
    (H : (((0 : Int32) < x → pw N X 235 18 [.int x, .int (31 : Int32)] [] (ev_hp I J R T) Q) ∧ (¬ ((0 : Int32) < x) → ((¬ x = (0 : Int32) → Q (some (.int (0 : Int32))) (ev_hp I J R T)) ∧ (¬ (¬ x = (0 : Int32)) → Q (some (.int (32 : Int32))) (ev_hp I J R T)))))) : pw (N + 1) X 235 0 [.int x] [] (ev_hp I J R T) Q := by
  refine pw_if (by decide) (fun _ _ => sy_r51) (fun w1 => ?_) (fun w1 => ?_)
  · have h1 := H.1 w1
    refine pw_p (pw_seg (by decide) (fun _ _ => sy_r52) ?_)
    exact h1
  · have h1 := H.2 w1
    refine pw_p (pw_if (by decide) (fun _ _ => sy_r53) (fun w2 => ?_) (fun w2 => ?_))
    · have h2 := h1.1 w2
      exact pw_p (pw_ret (by decide) (fun _ _ => sy_r54) h2)
    · have h2 := h1.2 w2
      exact pw_p (pw_ret (by decide) (fun _ _ => sy_r55) h2)
set_option maxRecDepth 100000 in
theorem sy_r56 {a0 : Int32} {a1 : Int32} : ∀ G : ez_F, fx_up X 3 G 235 18 [.int a0, .int a1] [] (ev_hp I J R T) cz kz = bif decide (a0 < (65536 : Int32)) then G 235 33 [.int a0, .int a1] [] (ev_hp I J R T) cz kz else G 235 25 [.int a0, .int a1] [] (ev_hp I J R T) cz kz := by
  intro G
  rfl
set_option maxRecDepth 100000 in
theorem sy_r57 {a0 : Int32} {a1 : Int32} : ∀ G : ez_F, fx_up X 5 G 235 25 [.int a0, .int a1] [] (ev_hp I J R T) cz kz = G 235 33 [.int (a0.toUInt32 >>> ((16 : Int32).toUInt32 &&& Int32.toUInt32 31)).toInt32, .int (a1 + (-16 : Int32))] [] (ev_hp I J R T) cz kz := by
  intro G
  rfl
theorem nh_18 {x n : Int32}
    (H : ((x < (65536 : Int32) → pw N X 235 33 [.int x, .int n] [] (ev_hp I J R T) Q) ∧ (¬ (x < (65536 : Int32)) → pw N X 235 33 [.int (x.toUInt32 >>> ((16 : Int32).toUInt32 &&& Int32.toUInt32 31)).toInt32, .int (n + (-16 : Int32))] [] (ev_hp I J R T) Q))) : pw (N + 1) X 235 18 [.int x, .int n] [] (ev_hp I J R T) Q := by
  refine pw_if (by decide) (fun _ _ => sy_r56) (fun w1 => ?_) (fun w1 => ?_)
  · have h1 := H.1 w1
    exact h1
  · have h1 := H.2 w1
    refine pw_p (pw_seg (by decide) (fun _ _ => sy_r57) ?_)
    exact h1
set_option maxRecDepth 100000 in
theorem sy_r58 {a0 : Int32} {a1 : Int32} : ∀ G : ez_F, fx_up X 3 G 235 33 [.int a0, .int a1] [] (ev_hp I J R T) cz kz = bif decide (a0 < (256 : Int32)) then G 235 48 [.int a0, .int a1] [] (ev_hp I J R T) cz kz else G 235 40 [.int a0, .int a1] [] (ev_hp I J R T) cz kz := by
  intro G
  rfl
set_option maxRecDepth 100000 in
theorem sy_r59 {a0 : Int32} {a1 : Int32} : ∀ G : ez_F, fx_up X 5 G 235 40 [.int a0, .int a1] [] (ev_hp I J R T) cz kz = G 235 48 [.int (a0.toUInt32 >>> ((8 : Int32).toUInt32 &&& Int32.toUInt32 31)).toInt32, .int (a1 + (-8 : Int32))] [] (ev_hp I J R T) cz kz := by
  intro G
  rfl
theorem nh_33 {x n : Int32}
    (H : ((x < (256 : Int32) → pw N X 235 48 [.int x, .int n] [] (ev_hp I J R T) Q) ∧ (¬ (x < (256 : Int32)) → pw N X 235 48 [.int (x.toUInt32 >>> ((8 : Int32).toUInt32 &&& Int32.toUInt32 31)).toInt32, .int (n + (-8 : Int32))] [] (ev_hp I J R T) Q))) : pw (N + 1) X 235 33 [.int x, .int n] [] (ev_hp I J R T) Q := by
  refine pw_if (by decide) (fun _ _ => sy_r58) (fun w1 => ?_) (fun w1 => ?_)
  · have h1 := H.1 w1
    exact h1
  · have h1 := H.2 w1
    refine pw_p (pw_seg (by decide) (fun _ _ => sy_r59) ?_)
    exact h1
set_option maxRecDepth 100000 in
theorem sy_r60 {a0 : Int32} {a1 : Int32} : ∀ G : ez_F, fx_up X 3 G 235 48 [.int a0, .int a1] [] (ev_hp I J R T) cz kz = bif decide (a0 < (16 : Int32)) then G 235 61 [.int a0, .int a1] [] (ev_hp I J R T) cz kz else G 235 54 [.int a0, .int a1] [] (ev_hp I J R T) cz kz := by
  intro G
  rfl
set_option maxRecDepth 100000 in
theorem sy_r61 {a0 : Int32} {a1 : Int32} : ∀ G : ez_F, fx_up X 5 G 235 54 [.int a0, .int a1] [] (ev_hp I J R T) cz kz = G 235 61 [.int (a0.toUInt32 >>> ((4 : Int32).toUInt32 &&& Int32.toUInt32 31)).toInt32, .int (a1 + (-4 : Int32))] [] (ev_hp I J R T) cz kz := by
  intro G
  rfl
theorem nh_48 {x n : Int32}
    (H : ((x < (16 : Int32) → pw N X 235 61 [.int x, .int n] [] (ev_hp I J R T) Q) ∧ (¬ (x < (16 : Int32)) → pw N X 235 61 [.int (x.toUInt32 >>> ((4 : Int32).toUInt32 &&& Int32.toUInt32 31)).toInt32, .int (n + (-4 : Int32))] [] (ev_hp I J R T) Q))) : pw (N + 1) X 235 48 [.int x, .int n] [] (ev_hp I J R T) Q := by
  refine pw_if (by decide) (fun _ _ => sy_r60) (fun w1 => ?_) (fun w1 => ?_)
  · have h1 := H.1 w1
    exact h1
  · have h1 := H.2 w1
    refine pw_p (pw_seg (by decide) (fun _ _ => sy_r61) ?_)
    exact h1
set_option maxRecDepth 100000 in
theorem sy_r62 {a0 : Int32} {a1 : Int32} : ∀ G : ez_F, fx_up X 3 G 235 61 [.int a0, .int a1] [] (ev_hp I J R T) cz kz = bif decide (a0 < (4 : Int32)) then G 235 73 [.int a0, .int a1] [] (ev_hp I J R T) cz kz else G 235 66 [.int a0, .int a1] [] (ev_hp I J R T) cz kz := by
  intro G
  rfl
set_option maxRecDepth 100000 in
theorem sy_r63 {a0 : Int32} {a1 : Int32} : ∀ G : ez_F, fx_up X 5 G 235 66 [.int a0, .int a1] [] (ev_hp I J R T) cz kz = G 235 73 [.int (a0.toUInt32 >>> ((2 : Int32).toUInt32 &&& Int32.toUInt32 31)).toInt32, .int (a1 + (-2 : Int32))] [] (ev_hp I J R T) cz kz := by
  intro G
  rfl
theorem nh_61 {x n : Int32}
    (H : ((x < (4 : Int32) → pw N X 235 73 [.int x, .int n] [] (ev_hp I J R T) Q) ∧ (¬ (x < (4 : Int32)) → pw N X 235 73 [.int (x.toUInt32 >>> ((2 : Int32).toUInt32 &&& Int32.toUInt32 31)).toInt32, .int (n + (-2 : Int32))] [] (ev_hp I J R T) Q))) : pw (N + 1) X 235 61 [.int x, .int n] [] (ev_hp I J R T) Q := by
  refine pw_if (by decide) (fun _ _ => sy_r62) (fun w1 => ?_) (fun w1 => ?_)
  · have h1 := H.1 w1
    exact h1
  · have h1 := H.2 w1
    refine pw_p (pw_seg (by decide) (fun _ _ => sy_r63) ?_)
    exact h1
set_option maxRecDepth 100000 in
theorem sy_r64 {a0 : Int32} {a1 : Int32} : ∀ G : ez_F, fx_up X 6 G 235 73 [.int a0, .int a1] [] (ev_hp I J R T) cz kz = some (some (.int (a1 - (a0.toUInt32 >>> ((1 : Int32).toUInt32 &&& Int32.toUInt32 31)).toInt32)), (ev_hp I J R T), cz, kz) := by
  intro G
  rfl
theorem nh_73 {x n : Int32}
    (H : Q (some (.int (n - (x.toUInt32 >>> ((1 : Int32).toUInt32 &&& Int32.toUInt32 31)).toInt32))) (ev_hp I J R T)) : pw (N + 1) X 235 73 [.int x, .int n] [] (ev_hp I J R T) Q := by
  exact pw_ret (by decide) (fun _ _ => sy_r64) H
set_option maxRecDepth 100000 in
theorem sy_r65 {a0 : Int64} : ∀ G : ez_F, fx_up X 7 G 238 0 [.long a0, ez_fill] [] (ev_hp I J R T) cz kz = bif decide (¬ ((a0.toUInt64 >>> ((32 : Int32).toInt64.toUInt64 &&& Int64.toUInt64 63)).toInt64).toInt32 = (0 : Int32)) then G 238 21 [.long a0, ez_fill, .int ((a0.toUInt64 >>> ((32 : Int32).toInt64.toUInt64 &&& Int64.toUInt64 63)).toInt64).toInt32] [] (ev_hp I J R T) cz kz else G 238 10 [.long a0, ez_fill, .int ((a0.toUInt64 >>> ((32 : Int32).toInt64.toUInt64 &&& Int64.toUInt64 63)).toInt64).toInt32] [] (ev_hp I J R T) cz kz := by
  intro G
  rfl
set_option maxRecDepth 100000 in
theorem sy_r66 {a0 : Int64} {a1 : Int32} : ∀ G : ez_F, fx_up X 2 G 238 21 [.long a0, ez_fill, .int a1] [] (ev_hp I J R T) cz kz = ev_C G 235 [.int a1] (ev_hp I J R T) fun r h1 c1 k1 => G 238 25 [.long a0, ez_fill, .int a1] (r.toList ++ []) h1 (cz + c1) (kz + k1) := by
  intro G
  rfl
set_option maxRecDepth 100000 in
theorem sy_r67 {a0 : Int64} {a1 : Int32} : ∀ G : ez_F, fx_up X 4 G 238 10 [.long a0, ez_fill, .int a1] [] (ev_hp I J R T) cz kz = ev_C G 235 [.int a0.toInt32] (ev_hp I J R T) fun r h1 c1 k1 => G 238 17 [.long a0, ez_fill, .int a1] (r.toList ++ [.int (32 : Int32)]) h1 (cz + c1) (kz + k1) := by
  intro G
  rfl
theorem ni_0 {z : Int64}
    (H : ((¬ ((z.toUInt64 >>> ((32 : Int32).toInt64.toUInt64 &&& Int64.toUInt64 63)).toInt64).toInt32 = (0 : Int32) → (∃ Q1 : pw_Q, pe N X 235 [.int ((z.toUInt64 >>> ((32 : Int32).toInt64.toUInt64 &&& Int64.toUInt64 63)).toInt64).toInt32] (ev_hp I J R T) Q1 ∧ ∀ (r : Option Value) (h1 : ez_H), Q1 r h1 → pw N X 238 25 [.long z, ez_fill, .int ((z.toUInt64 >>> ((32 : Int32).toInt64.toUInt64 &&& Int64.toUInt64 63)).toInt64).toInt32] (r.toList ++ []) h1 Q)) ∧ (¬ (¬ ((z.toUInt64 >>> ((32 : Int32).toInt64.toUInt64 &&& Int64.toUInt64 63)).toInt64).toInt32 = (0 : Int32)) → (∃ Q1 : pw_Q, pe N X 235 [.int z.toInt32] (ev_hp I J R T) Q1 ∧ ∀ (r : Option Value) (h1 : ez_H), Q1 r h1 → pw N X 238 17 [.long z, ez_fill, .int ((z.toUInt64 >>> ((32 : Int32).toInt64.toUInt64 &&& Int64.toUInt64 63)).toInt64).toInt32] (r.toList ++ [.int (32 : Int32)]) h1 Q)))) : pw (N + 1) X 238 0 [.long z, ez_fill] [] (ev_hp I J R T) Q := by
  refine pw_if (by decide) (fun _ _ => sy_r65) (fun w1 => ?_) (fun w1 => ?_)
  · have h1 := H.1 w1
    obtain ⟨Q1, hc, hk⟩ := h1
    exact pw_p (pw_call (by decide) (fun _ _ => sy_r66) hc hk)
  · have h1 := H.2 w1
    obtain ⟨Q1, hc, hk⟩ := h1
    exact pw_p (pw_call (by decide) (fun _ _ => sy_r67) hc hk)
set_option maxRecDepth 100000 in
theorem sy_r68 {a0 : Int64} {a1 : Int32} {a2 : Int32} {a3 : Int32} : ∀ G : ez_F, fx_up X 3 G 238 17 [.long a0, ez_fill, .int a1] [.int a2, .int a3] (ev_hp I J R T) cz kz = some (some (.int (a3 + a2)), (ev_hp I J R T), cz, kz) := by
  intro G
  rfl
theorem ni_17 {z : Int64} {x v w : Int32}
    (H : Q (some (.int (w + v))) (ev_hp I J R T)) : pw (N + 1) X 238 17 [.long z, ez_fill, .int x] [.int v, .int w] (ev_hp I J R T) Q := by
  exact pw_ret (by decide) (fun _ _ => sy_r68) H
set_option maxRecDepth 100000 in
theorem sy_r69 {a0 : Int64} {a1 : Int32} {a2 : Int32} : ∀ G : ez_F, fx_up X 1 G 238 25 [.long a0, ez_fill, .int a1] [.int a2] (ev_hp I J R T) cz kz = some (some (.int a2), (ev_hp I J R T), cz, kz) := by
  intro G
  rfl
theorem ni_25 {z : Int64} {x v : Int32}
    (H : Q (some (.int v)) (ev_hp I J R T)) : pw (N + 1) X 238 25 [.long z, ez_fill, .int x] [.int v] (ev_hp I J R T) Q := by
  exact pw_ret (by decide) (fun _ _ => sy_r69) H
end
section
variable {N : Nat} {X : ez_X} {I A : Nat → Nat → Int32} {J : Nat → Nat → Int64} {R : Nat → Nat} {T : List ez_C} {x : Int32} {z : Int64} {n l : Nat} {g1 : Nat → Int64} {f : Nat → Int32}
/-- some int, and nothing else -/
noncomputable def si_Q (h0 : ez_H) : pw_Q := fun r h => (∃ v, r = some (.int v)) ∧ h = h0
theorem pe_lz32 : pe N X 235 [.int x] (ev_hp I J R T) (si_Q (ev_hp I J R T)) := by
  have t73 : ∀ (x n : Int32) N, pw N X 235 73 [.int x, .int n] [] (ev_hp I J R T) (si_Q (ev_hp I J R T)) := fun x n N => pw_p (nh_73 ⟨⟨_, rfl⟩, rfl⟩)
  have t61 : ∀ (x n : Int32) N, pw N X 235 61 [.int x, .int n] [] (ev_hp I J R T) (si_Q (ev_hp I J R T)) := fun x n N => pw_p (nh_61 ⟨fun _ => t73 _ _ _, fun _ => t73 _ _ _⟩)
  have t48 : ∀ (x n : Int32) N, pw N X 235 48 [.int x, .int n] [] (ev_hp I J R T) (si_Q (ev_hp I J R T)) := fun x n N => pw_p (nh_48 ⟨fun _ => t61 _ _ _, fun _ => t61 _ _ _⟩)
  have t33 : ∀ (x n : Int32) N, pw N X 235 33 [.int x, .int n] [] (ev_hp I J R T) (si_Q (ev_hp I J R T)) := fun x n N => pw_p (nh_33 ⟨fun _ => t48 _ _ _, fun _ => t48 _ _ _⟩)
  have t18 : ∀ (x n : Int32) N, pw N X 235 18 [.int x, .int n] [] (ev_hp I J R T) (si_Q (ev_hp I J R T)) := fun x n N => pw_p (nh_18 ⟨fun _ => t33 _ _ _, fun _ => t33 _ _ _⟩)
  exact pe_of (pw_p (nh_0 ⟨fun _ => t18 _ _ _, fun _ => ⟨fun _ => ⟨⟨_, rfl⟩, rfl⟩, fun _ => ⟨⟨_, rfl⟩, rfl⟩⟩⟩))
theorem pe_lz : pe N X 238 [.long z] (ev_hp I J R T) (si_Q (ev_hp I J R T)) := by
  refine pe_of (pw_p (ni_0 ⟨fun _ => ⟨_, pe_lz32, ?_⟩, fun _ => ⟨_, pe_lz32, ?_⟩⟩))
  · rintro r h ⟨⟨v, rfl⟩, rfl⟩
    exact pw_p (ni_25 ⟨⟨_, rfl⟩, rfl⟩)
  · rintro r h ⟨⟨v, rfl⟩, rfl⟩
    exact pw_p (ni_17 ⟨⟨_, rfl⟩, rfl⟩)
theorem pe_lastCallS : pe N X 99 [.long z] (ev_hp I J R T) (si_Q (ev_hp I J R T)) := by
  refine pe_of (pw_p (lc_0 ⟨_, pe_lz, ?_⟩))
  rintro r h ⟨⟨v, rfl⟩, rfl⟩
  exact pw_p (lc_6 ⟨⟨_, rfl⟩, rfl⟩)
theorem pe_ntzS : pe N X 239 [.long z] (ev_hp I J R T) (si_Q (ev_hp I J R T)) := by
  refine pe_of (pw_p (nl_0 ⟨fun _ => ⟨_, pe_ntz32, ?_⟩, fun _ => ⟨_, pe_ntz32, ?_⟩⟩))
  · rintro r h ⟨rfl, rfl⟩
    exact pw_p (nl_25 ⟨⟨_, rfl⟩, rfl⟩)
  · rintro r h ⟨rfl, rfl⟩
    exact pw_p (nl_17 ⟨⟨_, rfl⟩, rfl⟩)
theorem pe_firstCallS : pe N X 97 [.long z] (ev_hp I J R T) (si_Q (ev_hp I J R T)) := by
  refine pe_of (pw_p (fq_0 ⟨_, pe_ntzS, ?_⟩))
  rintro r h ⟨⟨v, rfl⟩, rfl⟩
  exact pw_p (fq_4 ⟨⟨_, rfl⟩, rfl⟩)
theorem pe_comesFromS {a s c : Int32} (r0 : rowT (R 0) T n f) (hn : n ≤ 10000) {m : Nat} (r1 : rowJ (R 1) T m g1) (hl : l ≤ m) (hm : m ≤ 10000) : pe N X 96 [.ref 31, .int a, .int s, .int c, .int (Int32.ofNat l)] (ev_hp I J R T) (si_Q (ev_hp I J R T)) := by
  have loop : ∀ (p q : Int32) (d j : Nat), j + d = l → ∀ N, pw N X 96 25 [.ref 31, .int a, .int s, .int c, .int (Int32.ofNat l), .int p, .int q, .int (Int32.ofNat j)] [] (ev_hp I J R T) (si_Q (ev_hp I J R T)) := by
    intro p q d
    induction d with
    | zero =>
      intro j hj N
      obtain rfl : j = l := by omega
      exact pw_p (cy_25 ⟨fun _ _ => ⟨⟨_, rfl⟩, rfl⟩, fun g => absurd (Int32.le_refl _) g⟩)
    | succ d ih =>
      intro j hjd N
      have nxt : ∀ N, pw N X 96 25 [.ref 31, .int a, .int s, .int c, .int (Int32.ofNat l), .int p, .int q, .int (Int32.ofNat j + (1 : Int32))] [] (ev_hp I J R T) (si_Q (ev_hp I J R T)) := fun N => by
        rw [io_1]
        exact ih (j + 1) (by omega) N
      refine pw_p (cy_25 ⟨fun _ _ => ⟨⟨_, rfl⟩, rfl⟩, fun _ => ⟨_, pe_code r0 hn, ?_⟩⟩)
      rintro r h ⟨rfl, rfl⟩
      refine pw_p (cy_43 ⟨fun _ => nxt _, fun _ => ⟨fun _ => nxt _, fun _ => ⟨_, pe_wrongs (k := j) r1 hm (by omega) rfl, ?_⟩⟩⟩)
      rintro r h ⟨rfl, rfl⟩
      refine pw_p (cy_82 ⟨_, pe_firstCallS, ?_⟩)
      rintro r h ⟨⟨v, rfl⟩, rfl⟩
      exact pw_p (cy_85 ⟨fun _ => nxt _, fun _ _ => ⟨⟨_, rfl⟩, rfl⟩⟩)
  refine pe_of (pw_p (cy_0 ⟨_, pe_code r0 hn, ?_⟩))
  rintro r h ⟨rfl, rfl⟩
  exact pw_p (cy_20 (loop _ _ l 0 (by omega) _))
/-- but for the switch -/
noncomputable def os (I A : Nat → Nat → Int32) : Prop := ∀ a, a ≠ 31 → A a = I a
noncomputable def os_Q (I : Nat → Nat → Int32) (J : Nat → Nat → Int64) (R : Nat → Nat) (T : List ez_C) : pw_Q := fun r h => r = none ∧ ∃ A, h = ev_hp A J R T ∧ os I A
theorem os_31 (h : os I A) (f : Nat → Int32) : os I (ev_sI A 31 f) := fun a h0 => by
  rw [cx_sI_n _ _ h0]
  exact h a h0
theorem pe_switch {ns : Nat} (e3 : I 3 3 = Int32.ofNat ns) (hns : ns ≤ 3) (e63 : I 6 3 = Int32.ofNat l) (r0 : rowT (R 0) T n f) (hn : n ≤ 10000) {m : Nat} (r1 : rowJ (R 1) T m g1) (hl : l ≤ m) (hm : m ≤ 10000) : pe N X 101 [.ref 31] (ev_hp I J R T) (os_Q I J R T) := by
  have inner : ∀ (s : Int32) (go : ∀ A, os I A → ∀ N, pw N X 101 20 [.ref 31, .int (Int32.ofNat l), .int (s + (1 : Int32))] [] (ev_hp A J R T) (os_Q I J R T)) (d k : Nat), k + d = l → ∀ A, os I A → ∀ N, pw N X 101 33 [.ref 31, .int (Int32.ofNat l), .int s, .int (Int32.ofNat k)] [] (ev_hp A J R T) (os_Q I J R T) := by
    intro s go d
    induction d with
    | zero =>
      intro k hk A hA N
      obtain rfl : k = l := by omega
      exact pw_p (sj_33 ⟨fun _ => go A hA _, fun g => absurd (Int32.le_refl _) g⟩)
    | succ d ih =>
      intro k hkd A hA N
      have nxt : ∀ A, os I A → ∀ N, pw N X 101 33 [.ref 31, .int (Int32.ofNat l), .int s, .int (Int32.ofNat k + (1 : Int32))] [] (ev_hp A J R T) (os_Q I J R T) := fun A hA N => by
        rw [io_1]
        exact ih (k + 1) (by omega) A hA N
      refine pw_p (sj_33 ⟨fun _ => go A hA _, fun _ => ⟨_, pe_wrongs (k := k) r1 hm (by omega) rfl, ?_⟩⟩)
      rintro r h ⟨rfl, rfl⟩
      refine pw_p (sj_46 ⟨_, pe_lastCallS, ?_⟩)
      rintro r h ⟨⟨v, rfl⟩, rfl⟩
      have came : ∀ w b : Int32, ∀ N, ∃ Q1 : pw_Q, pe N X 96 [.ref 31, .int (Int32.ofNat k), .int s, .int w, .int (Int32.ofNat l)] (ev_hp A J R T) Q1 ∧ ∀ (r : Option Value) (h1 : ez_H), Q1 r h1 → pw N X 101 91 [.ref 31, .int (Int32.ofNat l), .int s, .int (Int32.ofNat k), .int w, .int b] (r.toList ++ []) h1 (os_Q I J R T) := fun w b N => by
        refine ⟨_, pe_comesFromS r0 hn r1 hl hm, ?_⟩
        rintro r h ⟨⟨u, rfl⟩, rfl⟩
        exact pw_p (sj_91 ⟨fun _ => nxt A hA _, fun _ => nxt _ (os_31 (os_31 hA _) _) _⟩)
      exact pw_p (sj_49 ⟨fun _ => came _ _ _, fun _ => ⟨fun _ => nxt A hA _, fun _ => came _ _ _⟩⟩)
  have outer : ∀ (d s : Nat), s + d = ns → ∀ A, os I A → ∀ N, pw N X 101 20 [.ref 31, .int (Int32.ofNat l), .int (Int32.ofNat s)] [] (ev_hp A J R T) (os_Q I J R T) := by
    intro d
    induction d with
    | zero =>
      intro s hs A hA N
      obtain rfl : s = ns := by omega
      refine pw_p (sj_20 ⟨fun _ => ⟨rfl, A, rfl, hA⟩, fun g => ?_⟩)
      rw [hA 3 (by decide), e3] at g
      exact absurd (Int32.le_refl _) g
    | succ d ih =>
      intro s hsd A hA N
      refine pw_p (sj_20 ⟨fun _ => ⟨rfl, A, rfl, hA⟩, fun _ => inner (Int32.ofNat s) (fun A hA N => ?_) l 0 (by omega) A hA _⟩)
      rw [io_1]
      exact ih (s + 1) (by omega) A hA N
  refine pe_of (pw_p (sj_0 ?_))
  rw [e63]
  exact outer ns 0 (by omega) _ (os_31 (os_31 (fun _ _ => rfl) _) _) _
theorem os_d4 (h : os I A) (hd : d4 I J R T) : d4 A J R T := by
  have e : b4 A J = b4 I J := by
    unfold b4
    rw [h 8 (by decide), h 3 (by decide), h 5 (by decide), h 2 (by decide), h 1 (by decide)]
  exact d4_b e (by rw [h 2 (by decide)]) rfl rfl (by rw [h 13 (by decide)]) (by rw [h 13 (by decide)]) (by rw [h 14 (by decide)]) (h 15 (by decide)) (h 16 (by decide)) ⟨rfl, rfl, rfl⟩ (fun _ _ _ _ q => q) hd
theorem F4_se {h0 : ez_H} (hd : d4 I J R T) (hh : cx_hok cx_B0 I R T) (hs : se_Q I J R T (ls I J) h0) : F4 h0 := by
  obtain ⟨f6, R6, T6, rfl, f64, -, k1, k2, k3, k4⟩ := hs
  obtain ⟨m0, fm, r0, -⟩ := rows_0 hh.2
  have mv : ∀ p n g, rowJ p T n g → rowJ p T6 n g := fun p n g hp => by
    rcases hp with hp | ⟨h1, h2⟩
    · exact Or.inl hp
    · have hne := row_ne r0 (Or.inr ⟨h1, h2⟩ : rowJ p T n g)
      exact Or.inr ⟨h1, by rw [k4 (p - 65) (List.getElem?_eq_some_iff.mp h2).1 (by omega)]; exact h2⟩
  have e : b4 (ev_sI I 6 f6) J = b4 I J := by
    unfold b4
    rw [cx_sI_n _ _ (show (8 : Nat) ≠ 6 by decide), cx_sI_n _ _ (show (3 : Nat) ≠ 6 by decide), cx_sI_n _ _ (show (5 : Nat) ≠ 6 by decide), cx_sI_n _ _ (show (2 : Nat) ≠ 6 by decide), cx_sI_n _ _ (show (1 : Nat) ≠ 6 by decide)]
  exact ⟨ev_sI I 6 f6, J, R6, T6, rfl, d4_b e (by rw [cx_sI_n _ _ (show (2 : Nat) ≠ 6 by decide)]) rfl rfl (by rw [cx_sI_n _ _ (show (13 : Nat) ≠ 6 by decide)]) (by rw [cx_sI_n _ _ (show (13 : Nat) ≠ 6 by decide)]) (by rw [cx_sI_n _ _ (show (14 : Nat) ≠ 6 by decide)]) (cx_sI_n _ _ (by decide)) (cx_sI_n _ _ (by decide)) ⟨k1 1 (by decide), k1 2 (by decide), k1 3 (by decide)⟩ (fun p n g _ hp => mv p n g hp) hd⟩
theorem pe_xswitched (h : rl3 I J R T) (hd : d4 I J R T) (hh : cx_hok cx_B0 I R T) : pe N X 50 [.ref 0, .int x] (ev_hp I J R T) (fun _ h => F4 h) := by
  refine pe_of (pw_p (xo_switched ⟨fun hx => ⟨_, pe_crowded h.1.1 hh h.1.2, ?_⟩, fun hx => F4_tm hd⟩))
  rintro r h' (⟨h1, rfl, rfl⟩ | ⟨h1, rfl, h2⟩)
  · exact pw_p (sv_16 ⟨fun z => absurd z (by decide), fun _ => F4_tm hd⟩)
  · have hl := fun N => pe_rep (X := X) h hd hh h2 N
    have hse := h2
    obtain ⟨f6, R6, T6, rfl, f64, ⟨s2, n0, fr, s3, s4, s5, s6⟩, k1, k2, k3, k4⟩ := h2
    refine pw_p (sv_16 ⟨fun _ => ⟨_, hl _, ?_⟩, fun _ => ?_⟩)
    · rintro r h' ⟨rfl, A, B, R', T', rfl, hq, q9, q14, q15, q16⟩
      have hd4 := rq_d4 hq fun z => tal_b rfl rfl rfl rfl (by rw [q14]) q15 q16 (hd.2.2 (q9.symm.trans z))
      have hF := F4_rep hd hq q9 q14 q15 q16
      have hq0 := hq
      obtain ⟨a1, a2, a3, a4, ⟨nn, ff0, t1, t2, t3, t4⟩, a6, n1, g1, g2, g3, r1, r2, r3, r4, r5, r6⟩ := hq0
      have e8 : B 8 = J 8 := a4 8 (by decide) (by decide)
      have e33 : A 3 3 = Int32.ofNat (I 3 3).toInt.toNat := by
        rw [a1 3 (by decide) (by decide) (by decide) (by decide) (by decide)]
        exact io_nat (b_sh hh.1).1.1
      have hs3 := (b_sh hh.1).1.2
      have hp30 : ∀ k, k < (ls I J).length → wP I J k ≤ 30 := fun k _ => wP_30 (nca_30 h) k
      refine pw_p (sv_29 ⟨_, pe_someIsTrue (p := wP I J) r1 r4 r5 a2 (fun k hk => (rq_w (A := A) h hh.1 e8 hk (r6 k hk).1).2.2.1) hp30, ?_⟩)
      rintro r h' ⟨hv, rfl⟩
      have sw : ∀ v : Int32, ∀ N, pw N X 50 36 [.ref 0, .int x] [.int v] (ev_hp A B R' T') (fun _ h => F4 h) := fun v N => by
        refine pw_p (sv_36 ⟨fun _ => ⟨_, pe_switch e33 (by omega) a2 t1 t3 r1 r4 r5, ?_⟩, fun _ => hF⟩)
        rintro r h' ⟨rfl, A', rfl, hA'⟩
        have hF2 : F4 (ev_hp A' B R' T') := ⟨A', B, R', T', rfl, os_d4 hA' hd4⟩
        exact pw_p (sv_49 ⟨fun _ => hF2, fun _ => hF2⟩)
      rcases hv with rfl | rfl
      · exact sw _ _
      · exact sw _ _
    · exact F4_se hd hh hse
end
end
section
/-! Relation 4 joined with relation 3: every call, both sides. -/
section
variable {N : Nat} {X : ez_X} {I : Nat → Nat → Int32} {J : Nat → Nat → Int64} {R : Nat → Nat} {T : List ez_C} {x y : Int32}
theorem x4_ship (hB : cx_hB cx_B0 I) : pe N X 43 [.ref 0, .int x, .int y] (ev_hp I J R T) (fun _ h => d4_X I J R T h) := by
  have hW := hB 1 3
  have hH := hB 1 4
  have hwr := hB 1 5
  have hns := hB 3 3
  rw [show cx_B0 1 3 = (2, 6) from rfl] at hW
  rw [show cx_B0 1 4 = (2, 6) from rfl] at hH
  rw [show cx_B0 1 5 = (0, 1) from rfl] at hwr
  rw [show cx_B0 3 3 = (0, 3) from rfl] at hns
  simp only at hW hH hwr hns
  have hwr := cx_01 hwr.1 hwr.2
  have refused : d4_X I J R T (ev_hp I J R T) := ⟨I, J, rfl, Or.inr (Or.inr ⟨rfl, rfl⟩)⟩
  refine pe_of (pw_p (sx_0 ⟨fun _ => refused, fun h1 => ⟨fun _ => refused, fun _ => ⟨fun h2 => ⟨fun _ => ⟨fun h3 => ?_, fun _ => refused⟩, fun _ => refused⟩, fun _ => refused⟩⟩⟩))
  obtain ⟨sh, rfl, s1, s2⟩ := wi_nat (u := 1) (v := 65535) (by omega) h1 (by omega)
  obtain ⟨tn, rfl, -, t2⟩ := wi_nat (u := 0) (v := 2) (by omega) h2 (by omega)
  obtain ⟨ns, e3, n1⟩ : ∃ ns : Nat, I 3 3 = Int32.ofNat ns ∧ ns < 3 := by
    rw [Int32.lt_iff_toInt_lt, show (3 : Int32).toInt = 3 from by decide] at h3
    exact ⟨(I 3 3).toInt.toNat, io_nat hns.1, by omega⟩
  refine ⟨_, pe_build n1 e3 hwr hW hH (by omega) (by omega), ?_⟩
  rintro r h ⟨rfl, I2, J2, rfl, ⟨n, f, g1, g2, -⟩⟩
  refine pw_p (sx_66 ⟨_, pe_W (ea_S_layingsChanged_28_0 X _ _ R T), ?_⟩)
  rintro r h ⟨_, _, rfl, rfl, -⟩
  exact pw_p (sx_71 ⟨_, _, rfl, Or.inl ⟨rfl, rfl⟩⟩)
end
noncomputable def rl4 (I : Nat → Nat → Int32) (J : Nat → Nat → Int64) (R : Nat → Nat) (T : List ez_C) : Prop := rl3 I J R T ∧ d4 I J R T
section
variable {X : ez_X} {m : Nat} {K : cx_K} {as : List Value} {σ0 : List Int} {I : Nat → Nat → Int32} {J : Nat → Nat → Int64} {R : Nat → Nat} {T : List ez_C}
theorem r4_w {M : Int32 → (Nat → Nat → Int32) → (Nat → Nat → Int64) → (Nat → Nat) → List ez_C → Prop} (hl : ev_W X m 0 (ez_lay as) [] (ev_hp I J R T) 0 0 (lw_mid T M)) (he : ev_W X m 0 (ez_lay as) [] (ev_hp I J R T) 0 0 (fun _ h _ _ => d4_X I J R T h)) (hd : d4 I J R T) : ev_W X m 0 (ez_lay as) [] (ev_hp I J R T) 0 0 (lw_mid T (fun v I1 J1 R1 T1 => M v I1 J1 R1 T1 ∧ d4 I1 J1 R1 T1)) := by
  refine (hl.both he).mono ?_
  rintro r h c k ⟨⟨v, I1, J1, R1, T1, e1, e2, e3, e4, e5, e6⟩, q⟩
  exact ⟨v, I1, J1, R1, T1, e1, e2, e3, e4, e5, e6, d4_x q e2 hd⟩
theorem r4_x {M : Int32 → (Nat → Nat → Int32) → (Nat → Nat → Int64) → (Nat → Nat) → List ez_C → Prop} (hl : ev_W X m 0 (ez_lay as) [] (ev_hp I J R T) 0 0 (lw_mid T M)) (he : ∀ N, pe N X m as (ev_hp I J R T) (fun _ h => d4_X I J R T h)) (hd : d4 I J R T) : ev_W X m 0 (ez_lay as) [] (ev_hp I J R T) 0 0 (lw_mid T (fun v I1 J1 R1 T1 => M v I1 J1 R1 T1 ∧ d4 I1 J1 R1 T1)) := by
  refine (W_pe hl he).mono ?_
  rintro r h c k ⟨⟨v, I1, J1, R1, T1, e1, e2, e3, e4, e5, e6⟩, q⟩
  exact ⟨v, I1, J1, R1, T1, e1, e2, e3, e4, e5, e6, d4_x q e2 hd⟩
theorem r4_f {M : Int32 → (Nat → Nat → Int32) → (Nat → Nat → Int64) → (Nat → Nat) → List ez_C → Prop} (hl : ev_W X m 0 (ez_lay as) [] (ev_hp I J R T) 0 0 (lw_mid T M)) (he : ∀ N, pe N X m as (ev_hp I J R T) (fun _ h => F4 h)) : ev_W X m 0 (ez_lay as) [] (ev_hp I J R T) 0 0 (lw_mid T (fun v I1 J1 R1 T1 => M v I1 J1 R1 T1 ∧ d4 I1 J1 R1 T1)) := by
  refine (W_pe hl he).mono ?_
  rintro r h c k ⟨⟨v, I1, J1, R1, T1, e1, e2, e3, e4, e5, e6⟩, A, B, R2, T2, q1, q2⟩
  exact ⟨v, I1, J1, R1, T1, e1, e2, e3, e4, e5, e6, d4_hp (q1.symm.trans e2) q2⟩
theorem r4_q {M : Int32 → (Nat → Nat → Int32) → (Nat → Nat → Int64) → (Nat → Nat) → List ez_C → Prop} (hl : ev_W X m 0 (ez_lay as) [] (ev_hp I J R T) 0 0 (lw_mid T M)) (he : ∀ N, pe N X m as (ev_hp I J R T) (fun _ h => ∀ p, d4_S R p → h[p]? = (ev_hp I J R T)[p]?)) (hb : b5_fx K.2.1 = true) (hv : cx_valid cx_B0 m K) (hX2 : X.1 < 2 ^ 31) (hh : cx_hok cx_B0 I R T) (hok : cx_ok σ0 K.1 (ez_lay as) [] I T) (hd : d4 I J R T) : ev_W X m 0 (ez_lay as) [] (ev_hp I J R T) 0 0 (lw_mid T (fun v I1 J1 R1 T1 => M v I1 J1 R1 T1 ∧ d4 I1 J1 R1 T1)) := by
  refine (W_pe (hl.both (hv X σ0 _ I J R T hX2 hh hok)) he).mono ?_
  rintro r h c k ⟨⟨⟨v, I1, J1, R1, T1, e1, e2, e3, e4, e5, e6⟩, A, B, R2, T2, q1, -, q3, -⟩, q⟩
  exact ⟨v, I1, J1, R1, T1, e1, e2, e3, e4, e5, e6, d4_hp (q1.symm.trans e2) (d4_cells (fun p hp => by rw [← q1]; exact q p hp) (b5_fr hb q3) hd)⟩
theorem r4_m {M : Int32 → (Nat → Nat → Int32) → (Nat → Nat → Int64) → (Nat → Nat) → List ez_C → Prop} (hl : ev_W X m 0 (ez_lay as) [] (ev_hp I J R T) 0 0 (lw_mid T M)) (he : ∀ N, pe N X m as (ev_hp I J R T) (fun _ h => ∀ p, (p < 35 ∨ 65 ≤ p) → p < 65 + T.length → h[p]? = (ev_hp I J R T)[p]?)) (hh : cx_rows R T) (hd : d4 I J R T) : ev_W X m 0 (ez_lay as) [] (ev_hp I J R T) 0 0 (lw_mid T (fun v I1 J1 R1 T1 => M v I1 J1 R1 T1 ∧ d4 I1 J1 R1 T1)) := by
  refine (W_pe hl he).mono ?_
  rintro r h c k ⟨⟨v, I1, J1, R1, T1, e1, e2, e3, e4, e5, e6⟩, q⟩
  exact ⟨v, I1, J1, R1, T1, e1, e2, e3, e4, e5, e6, d4_km hh q e2 hd⟩
theorem r4_fL {M : Int64 → (Nat → Nat → Int32) → (Nat → Nat → Int64) → (Nat → Nat) → List ez_C → Prop} (hl : ev_W X m 0 (ez_lay as) [] (ev_hp I J R T) 0 0 (lw_midL T M)) (he : ∀ N, pe N X m as (ev_hp I J R T) (fun _ h => F4 h)) : ev_W X m 0 (ez_lay as) [] (ev_hp I J R T) 0 0 (lw_midL T (fun v I1 J1 R1 T1 => M v I1 J1 R1 T1 ∧ d4 I1 J1 R1 T1)) := by
  refine (W_pe hl he).mono ?_
  rintro r h c k ⟨⟨v, I1, J1, R1, T1, e1, e2, e3, e4, e5, e6⟩, A, B, R2, T2, q1, q2⟩
  exact ⟨v, I1, J1, R1, T1, e1, e2, e3, e4, e5, e6, d4_hp (q1.symm.trans e2) q2⟩
theorem r4_qL {M : Int64 → (Nat → Nat → Int32) → (Nat → Nat → Int64) → (Nat → Nat) → List ez_C → Prop} (hl : ev_W X m 0 (ez_lay as) [] (ev_hp I J R T) 0 0 (lw_midL T M)) (he : ∀ N, pe N X m as (ev_hp I J R T) (fun _ h => ∀ p, d4_S R p → h[p]? = (ev_hp I J R T)[p]?)) (hb : b5_fx K.2.1 = true) (hv : cx_valid cx_B0 m K) (hX2 : X.1 < 2 ^ 31) (hh : cx_hok cx_B0 I R T) (hok : cx_ok σ0 K.1 (ez_lay as) [] I T) (hd : d4 I J R T) : ev_W X m 0 (ez_lay as) [] (ev_hp I J R T) 0 0 (lw_midL T (fun v I1 J1 R1 T1 => M v I1 J1 R1 T1 ∧ d4 I1 J1 R1 T1)) := by
  refine (W_pe (hl.both (hv X σ0 _ I J R T hX2 hh hok)) he).mono ?_
  rintro r h c k ⟨⟨⟨v, I1, J1, R1, T1, e1, e2, e3, e4, e5, e6⟩, A, B, R2, T2, q1, -, q3, -⟩, q⟩
  exact ⟨v, I1, J1, R1, T1, e1, e2, e3, e4, e5, e6, d4_hp (q1.symm.trans e2) (d4_cells (fun p hp => by rw [← q1]; exact q p hp) (b5_fr hb q3) hd)⟩
theorem r4_mL {M : Int64 → (Nat → Nat → Int32) → (Nat → Nat → Int64) → (Nat → Nat) → List ez_C → Prop} (hl : ev_W X m 0 (ez_lay as) [] (ev_hp I J R T) 0 0 (lw_midL T M)) (he : ∀ N, pe N X m as (ev_hp I J R T) (fun _ h => ∀ p, (p < 35 ∨ 65 ≤ p) → p < 65 + T.length → h[p]? = (ev_hp I J R T)[p]?)) (hh : cx_rows R T) (hd : d4 I J R T) : ev_W X m 0 (ez_lay as) [] (ev_hp I J R T) 0 0 (lw_midL T (fun v I1 J1 R1 T1 => M v I1 J1 R1 T1 ∧ d4 I1 J1 R1 T1)) := by
  refine (W_pe hl he).mono ?_
  rintro r h c k ⟨⟨v, I1, J1, R1, T1, e1, e2, e3, e4, e5, e6⟩, q⟩
  exact ⟨v, I1, J1, R1, T1, e1, e2, e3, e4, e5, e6, d4_km hh q e2 hd⟩
end
section
variable {X : ez_X} {I I1 : Nat → Nat → Int32} {J J1 : Nat → Nat → Int64} {R R1 : Nat → Nat} {T T1 : List ez_C} {v : Int32} {w : Int64}
theorem l4x_grid (hX2 : X.1 < 2 ^ 31) (hh : cx_hok cx_B0 I R T) (hr : rl4 I J R T) (x y z : Int32) (hz : z = 0 ∨ z = 1) : ev_W X 18 0 (ez_lay [.ref 0, .int x, .int y, .int z]) [] (ev_hp I J R T) 0 0 (lw_mid T (fun v I1 J1 R1 T1 => ((mi_k ck_18_0.2.1 (kf_grid x y z) I J v I1 J1 R1 T1 ∧ cp I1 J1 R1 T1) ∧ ∃ K f, C3 K ∧ (∀ j, j < 12 → f j = -1) ∧ ck I1 J1 = fx_grid x y z f K) ∧ d4 I1 J1 R1 T1)) := r4_w (l3x_grid hX2 hh hr.1 x y z hz) (x4_grid x y z hz) hr.2
theorem l4m_grid (hX2 : X.1 < 2 ^ 31) (hh : cx_hok cx_B0 I R T) (hr : rl4 I J R T) (x y z : Int32) (hz : z = 0 ∨ z = 1) (hh1 : cx_hok cx_B0 I1 R1 T1) (hm : ((mi_k ck_18_0.2.1 (kf_grid x y z) I J v I1 J1 R1 T1 ∧ cp I1 J1 R1 T1) ∧ ∃ K f, C3 K ∧ (∀ j, j < 12 → f j = -1) ∧ ck I1 J1 = fx_grid x y z f K) ∧ d4 I1 J1 R1 T1) : ev_W X 195 0 (ez_lay [.ref 35, .int x, .int y, .int z]) [] (ev_hp I1 J1 R1 T1) 0 0 (lw_mid T1 (fun u I2 J2 R2 T2 => rl4 I2 J2 R2 T2)) := r4_m (l3m_grid hX2 hh hr.1 x y z hz hh1 hm.1) (fun N => keep_n (N := N) (by decide +kernel)) hh1.2 hm.2
theorem l4x_ship (hX2 : X.1 < 2 ^ 31) (hh : cx_hok cx_B0 I R T) (hr : rl4 I J R T) (x y : Int32) : ev_W X 43 0 (ez_lay [.ref 0, .int x, .int y]) [] (ev_hp I J R T) 0 0 (lw_mid T (fun v I1 J1 R1 T1 => (((mi_k ck_43_0.2.1 (kf_ship x y) I J v I1 J1 R1 T1 ∧ mi_ship x y I J I1 J1) ∧ cp I1 J1 R1 T1) ∧ C3 (ck I1 J1)) ∧ d4 I1 J1 R1 T1)) := r4_x (l3x_ship hX2 hh hr.1 x y) (fun N => x4_ship (N := N) hh.1) hr.2
theorem l4m_ship (hX2 : X.1 < 2 ^ 31) (hh : cx_hok cx_B0 I R T) (hr : rl4 I J R T) (x y : Int32) (hh1 : cx_hok cx_B0 I1 R1 T1) (hm : (((mi_k ck_43_0.2.1 (kf_ship x y) I J v I1 J1 R1 T1 ∧ mi_ship x y I J I1 J1) ∧ cp I1 J1 R1 T1) ∧ C3 (ck I1 J1)) ∧ d4 I1 J1 R1 T1) : ev_W X 220 0 (ez_lay [.ref 35, .int x, .int y]) [] (ev_hp I1 J1 R1 T1) 0 0 (lw_mid T1 (fun u I2 J2 R2 T2 => rl4 I2 J2 R2 T2)) := r4_m (l3m_ship hX2 hh hr.1 x y hh1 hm.1) (fun N => keep_n (N := N) (by decide +kernel)) hh1.2 hm.2
theorem l4x_set (hX2 : X.1 < 2 ^ 31) (hh : cx_hok cx_B0 I R T) (hr : rl4 I J R T) (x y : Int32) : ev_W X 42 0 (ez_lay [.ref 0, .int x, .int y]) [] (ev_hp I J R T) 0 0 (lw_mid T (fun v I1 J1 R1 T1 => ((mi_k ck_42_0.2.1 (kf_set x y) I J v I1 J1 R1 T1 ∧ cp I1 J1 R1 T1) ∧ C3 (ck I1 J1)) ∧ d4 I1 J1 R1 T1)) := r4_w (l3x_set hX2 hh hr.1 x y) (x4_set x y) hr.2
theorem l4m_set (hX2 : X.1 < 2 ^ 31) (hh : cx_hok cx_B0 I R T) (hr : rl4 I J R T) (x y : Int32) (hh1 : cx_hok cx_B0 I1 R1 T1) (hm : ((mi_k ck_42_0.2.1 (kf_set x y) I J v I1 J1 R1 T1 ∧ cp I1 J1 R1 T1) ∧ C3 (ck I1 J1)) ∧ d4 I1 J1 R1 T1) : ev_W X 219 0 (ez_lay [.ref 35, .int x, .int y]) [] (ev_hp I1 J1 R1 T1) 0 0 (lw_mid T1 (fun u I2 J2 R2 T2 => rl4 I2 J2 R2 T2)) := r4_m (l3m_set hX2 hh hr.1 x y hh1 hm.1) (fun N => keep_n (N := N) (by decide +kernel)) hh1.2 hm.2
theorem l4x_drift (hX2 : X.1 < 2 ^ 31) (hh : cx_hok cx_B0 I R T) (hr : rl4 I J R T) (x y : Int32) : ev_W X 16 0 (ez_lay [.ref 0, .int x, .int y]) [] (ev_hp I J R T) 0 0 (lw_mid T (fun v I1 J1 R1 T1 => ((mi_k ck_16_0.2.1 (kf_drift x y) I J v I1 J1 R1 T1 ∧ cp I1 J1 R1 T1) ∧ ∃ K, C3 K ∧ ck I1 J1 = fx_drift x y K) ∧ d4 I1 J1 R1 T1)) := r4_w (l3x_drift hX2 hh hr.1 x y) (x4_drift x y) hr.2
theorem l4m_drift (hX2 : X.1 < 2 ^ 31) (hh : cx_hok cx_B0 I R T) (hr : rl4 I J R T) (x y : Int32) (hh1 : cx_hok cx_B0 I1 R1 T1) (hm : ((mi_k ck_16_0.2.1 (kf_drift x y) I J v I1 J1 R1 T1 ∧ cp I1 J1 R1 T1) ∧ ∃ K, C3 K ∧ ck I1 J1 = fx_drift x y K) ∧ d4 I1 J1 R1 T1) : ev_W X 185 0 (ez_lay [.ref 35, .int x, .int y]) [] (ev_hp I1 J1 R1 T1) 0 0 (lw_mid T1 (fun u I2 J2 R2 T2 => rl4 I2 J2 R2 T2)) := r4_m (l3m_drift hX2 hh hr.1 x y hh1 hm.1) (fun N => keep_n (N := N) (by decide +kernel)) hh1.2 hm.2
theorem l4x_spots (hX2 : X.1 < 2 ^ 31) (hh : cx_hok cx_B0 I R T) (hr : rl4 I J R T) (x : Int32) : ev_W X 46 0 (ez_lay [.ref 0, .int x]) [] (ev_hp I J R T) 0 0 (lw_mid T (fun v I1 J1 R1 T1 => (rl2 I1 J1 R1 T1 ∧ C3 (ck I1 J1)) ∧ d4 I1 J1 R1 T1)) := r4_q (l3x_spots hX2 hh hr.1 x) (fun N => q4_spots (N := N) hh.2 hr.1.1.2) (by rfl) cv_46_0 hX2 hh ao_1 hr.2
theorem l4m_spots (hX2 : X.1 < 2 ^ 31) (hh : cx_hok cx_B0 I R T) (hr : rl4 I J R T) (x : Int32) (hh1 : cx_hok cx_B0 I1 R1 T1) (hm : (rl2 I1 J1 R1 T1 ∧ C3 (ck I1 J1)) ∧ d4 I1 J1 R1 T1) : ev_W X 223 0 (ez_lay [.ref 35, .int x]) [] (ev_hp I1 J1 R1 T1) 0 0 (lw_mid T1 (fun u I2 J2 R2 T2 => rl4 I2 J2 R2 T2)) := r4_m (l3m_spots hX2 hh hr.1 x hh1 hm.1) (fun N => keep_n (N := N) (by decide +kernel)) hh1.2 hm.2
theorem l4x_spot (hX2 : X.1 < 2 ^ 31) (hh : cx_hok cx_B0 I R T) (hr : rl4 I J R T) (x y : Int32) : ev_W X 44 0 (ez_lay [.ref 0, .int x, .int y]) [] (ev_hp I J R T) 0 0 (lw_midL T (fun v I1 J1 R1 T1 => (rl2 I1 J1 R1 T1 ∧ C3 (ck I1 J1)) ∧ d4 I1 J1 R1 T1)) := r4_qL (l3x_spot hX2 hh hr.1 x y) (fun N => q4_spot (N := N) hh.2 hr.1.1.2) (by rfl) cv_44_0 hX2 hh ao_2 hr.2
theorem l4m_spot (hX2 : X.1 < 2 ^ 31) (hh : cx_hok cx_B0 I R T) (hr : rl4 I J R T) (x y : Int32) (hh1 : cx_hok cx_B0 I1 R1 T1) (hm : (rl2 I1 J1 R1 T1 ∧ C3 (ck I1 J1)) ∧ d4 I1 J1 R1 T1) : ev_W X 222 0 (ez_lay [.ref 35, .int x, .int y]) [] (ev_hp I1 J1 R1 T1) 0 0 (lw_midL T1 (fun u I2 J2 R2 T2 => rl4 I2 J2 R2 T2)) := r4_mL (l3m_spot hX2 hh hr.1 x y hh1 hm.1) (fun N => keep_n (N := N) (by decide +kernel)) hh1.2 hm.2
theorem l4x_layings (hX2 : X.1 < 2 ^ 31) (hh : cx_hok cx_B0 I R T) (hr : rl4 I J R T) : ev_W X 27 0 (ez_lay [.ref 0]) [] (ev_hp I J R T) 0 0 (lw_mid T (fun v I1 J1 R1 T1 => (rl2 I1 J1 R1 T1 ∧ C3 (ck I1 J1)) ∧ d4 I1 J1 R1 T1)) := r4_q (l3x_layings hX2 hh hr.1) (fun N => q4_layings (N := N) hh.2 hr.1.1.2) (by rfl) cv_27_0 hX2 hh ao_0 hr.2
theorem l4m_layings (hX2 : X.1 < 2 ^ 31) (hh : cx_hok cx_B0 I R T) (hr : rl4 I J R T) (hh1 : cx_hok cx_B0 I1 R1 T1) (hm : (rl2 I1 J1 R1 T1 ∧ C3 (ck I1 J1)) ∧ d4 I1 J1 R1 T1) : ev_W X 206 0 (ez_lay [.ref 35]) [] (ev_hp I1 J1 R1 T1) 0 0 (lw_mid T1 (fun u I2 J2 R2 T2 => rl4 I2 J2 R2 T2)) := r4_m (l3m_layings hX2 hh hr.1 hh1 hm.1) (fun N => keep_n (N := N) (by decide +kernel)) hh1.2 hm.2
theorem l4x_laid (hX2 : X.1 < 2 ^ 31) (hh : cx_hok cx_B0 I R T) (hr : rl4 I J R T) (x y : Int32) : ev_W X 26 0 (ez_lay [.ref 0, .int x, .int y]) [] (ev_hp I J R T) 0 0 (lw_mid T (fun v I1 J1 R1 T1 => (rl2 I1 J1 R1 T1 ∧ C3 (ck I1 J1)) ∧ d4 I1 J1 R1 T1)) := r4_q (l3x_laid hX2 hh hr.1 x y) (fun N => q4_laid (N := N) hh.2 hr.1.1.2) (by rfl) cv_26_0 hX2 hh ao_2 hr.2
theorem l4m_laid (hX2 : X.1 < 2 ^ 31) (hh : cx_hok cx_B0 I R T) (hr : rl4 I J R T) (x y : Int32) (hh1 : cx_hok cx_B0 I1 R1 T1) (hm : (rl2 I1 J1 R1 T1 ∧ C3 (ck I1 J1)) ∧ d4 I1 J1 R1 T1) : ev_W X 205 0 (ez_lay [.ref 35, .int x, .int y]) [] (ev_hp I1 J1 R1 T1) 0 0 (lw_mid T1 (fun u I2 J2 R2 T2 => rl4 I2 J2 R2 T2)) := r4_m (l3m_laid hX2 hh hr.1 x y hh1 hm.1) (fun N => keep_n (N := N) (by decide +kernel)) hh1.2 hm.2
theorem l4x_call (hX2 : X.1 < 2 ^ 31) (hh : cx_hok cx_B0 I R T) (hr : rl4 I J R T) (x : Int32) : ev_W X 10 0 (ez_lay [.ref 0, .int x]) [] (ev_hp I J R T) 0 0 (lw_mid T (fun v I1 J1 R1 T1 => ((mi_k ck_10_0.2.1 (kf_call x) I J v I1 J1 R1 T1 ∧ cp I1 J1 R1 T1) ∧ ∃ K, C3 K ∧ ck I1 J1 = fx_call x K) ∧ d4 I1 J1 R1 T1)) := r4_w (l3x_call hX2 hh hr.1 x) (x4_call x) hr.2
theorem l4m_call (hX2 : X.1 < 2 ^ 31) (hh : cx_hok cx_B0 I R T) (hr : rl4 I J R T) (x : Int32) (hh1 : cx_hok cx_B0 I1 R1 T1) (hm : ((mi_k ck_10_0.2.1 (kf_call x) I J v I1 J1 R1 T1 ∧ cp I1 J1 R1 T1) ∧ ∃ K, C3 K ∧ ck I1 J1 = fx_call x K) ∧ d4 I1 J1 R1 T1) : ev_W X 175 0 (ez_lay [.ref 35, .int x]) [] (ev_hp I1 J1 R1 T1) 0 0 (lw_mid T1 (fun u I2 J2 R2 T2 => rl4 I2 J2 R2 T2)) := r4_m (l3m_call hX2 hh hr.1 x hh1 hm.1) (fun N => keep_n (N := N) (by decide +kernel)) hh1.2 hm.2
theorem l4x_salvo (hX2 : X.1 < 2 ^ 31) (hh : cx_hok cx_B0 I R T) (hr : rl4 I J R T) (x y : Int32) : ev_W X 41 0 (ez_lay [.ref 0, .int x, .int y]) [] (ev_hp I J R T) 0 0 (lw_mid T (fun v I1 J1 R1 T1 => ((mi_k ck_41_0.2.1 (kf_salvo x y) I J v I1 J1 R1 T1 ∧ cp I1 J1 R1 T1) ∧ ∃ K, C3 K ∧ ck I1 J1 = fx_salvo x y K) ∧ d4 I1 J1 R1 T1)) := r4_w (l3x_salvo hX2 hh hr.1 x y) (x4_salvo x y) hr.2
theorem l4m_salvo (hX2 : X.1 < 2 ^ 31) (hh : cx_hok cx_B0 I R T) (hr : rl4 I J R T) (x y : Int32) (hh1 : cx_hok cx_B0 I1 R1 T1) (hm : ((mi_k ck_41_0.2.1 (kf_salvo x y) I J v I1 J1 R1 T1 ∧ cp I1 J1 R1 T1) ∧ ∃ K, C3 K ∧ ck I1 J1 = fx_salvo x y K) ∧ d4 I1 J1 R1 T1) : ev_W X 218 0 (ez_lay [.ref 35, .int x, .int y]) [] (ev_hp I1 J1 R1 T1) 0 0 (lw_mid T1 (fun u I2 J2 R2 T2 => rl4 I2 J2 R2 T2)) := r4_m (l3m_salvo hX2 hh hr.1 x y hh1 hm.1) (fun N => keep_n (N := N) (by decide +kernel)) hh1.2 hm.2
theorem l4x_answer (hX2 : X.1 < 2 ^ 31) (hh : cx_hok cx_B0 I R T) (hr : rl4 I J R T) (x y : Int32) : ev_W X 1 0 (ez_lay [.ref 0, .int x, .int y]) [] (ev_hp I J R T) 0 0 (lw_mid T (fun v I1 J1 R1 T1 => (rl2 I1 J1 R1 T1 ∧ ∃ K, C3 K ∧ ck I1 J1 = fx_answer x y K) ∧ d4 I1 J1 R1 T1)) := r4_w (l3x_answer hX2 hh hr.1 x y) (x4_answer x y) hr.2
theorem l4m_answer (hX2 : X.1 < 2 ^ 31) (hh : cx_hok cx_B0 I R T) (hr : rl4 I J R T) (x y : Int32) (hh1 : cx_hok cx_B0 I1 R1 T1) (hm : (rl2 I1 J1 R1 T1 ∧ ∃ K, C3 K ∧ ck I1 J1 = fx_answer x y K) ∧ d4 I1 J1 R1 T1) : ev_W X 166 0 (ez_lay [.ref 35, .int x, .int y]) [] (ev_hp I1 J1 R1 T1) 0 0 (lw_mid T1 (fun u I2 J2 R2 T2 => rl4 I2 J2 R2 T2)) := r4_m (l3m_answer hX2 hh hr.1 x y hh1 hm.1) (fun N => keep_n (N := N) (by decide +kernel)) hh1.2 hm.2
theorem l4x_lose (hX2 : X.1 < 2 ^ 31) (hh : cx_hok cx_B0 I R T) (hr : rl4 I J R T) (x : Int32) : ev_W X 32 0 (ez_lay [.ref 0, .int x]) [] (ev_hp I J R T) 0 0 (lw_mid T (fun v I1 J1 R1 T1 => (rl2 I1 J1 R1 T1 ∧ ∃ K, C3 K ∧ ck I1 J1 = fx_lose x K) ∧ d4 I1 J1 R1 T1)) := r4_w (l3x_lose hX2 hh hr.1 x) (x4_lose x) hr.2
theorem l4m_lose (hX2 : X.1 < 2 ^ 31) (hh : cx_hok cx_B0 I R T) (hr : rl4 I J R T) (x : Int32) (hh1 : cx_hok cx_B0 I1 R1 T1) (hm : (rl2 I1 J1 R1 T1 ∧ ∃ K, C3 K ∧ ck I1 J1 = fx_lose x K) ∧ d4 I1 J1 R1 T1) : ev_W X 209 0 (ez_lay [.ref 35, .int x]) [] (ev_hp I1 J1 R1 T1) 0 0 (lw_mid T1 (fun u I2 J2 R2 T2 => rl4 I2 J2 R2 T2)) := r4_m (l3m_lose hX2 hh hr.1 x hh1 hm.1) (fun N => keep_n (N := N) (by decide +kernel)) hh1.2 hm.2
theorem l4x_back (hX2 : X.1 < 2 ^ 31) (hh : cx_hok cx_B0 I R T) (hr : rl4 I J R T) : ev_W X 5 0 (ez_lay [.ref 0]) [] (ev_hp I J R T) 0 0 (lw_mid T (fun v I1 J1 R1 T1 => ((mi_k ck_5_0.2.1 kf_back I J v I1 J1 R1 T1 ∧ cp I1 J1 R1 T1) ∧ ∃ K, C3 K ∧ ck I1 J1 = fx_back K) ∧ d4 I1 J1 R1 T1)) := r4_w (l3x_back hX2 hh hr.1) x4_back hr.2
theorem l4m_back (hX2 : X.1 < 2 ^ 31) (hh : cx_hok cx_B0 I R T) (hr : rl4 I J R T) (hh1 : cx_hok cx_B0 I1 R1 T1) (hm : ((mi_k ck_5_0.2.1 kf_back I J v I1 J1 R1 T1 ∧ cp I1 J1 R1 T1) ∧ ∃ K, C3 K ∧ ck I1 J1 = fx_back K) ∧ d4 I1 J1 R1 T1) : ev_W X 168 0 (ez_lay [.ref 35]) [] (ev_hp I1 J1 R1 T1) 0 0 (lw_mid T1 (fun u I2 J2 R2 T2 => rl4 I2 J2 R2 T2)) := r4_m (l3m_back hX2 hh hr.1 hh1 hm.1) (fun N => keep_n (N := N) (by decide +kernel)) hh1.2 hm.2
theorem l4x_truth (hX2 : X.1 < 2 ^ 31) (hh : cx_hok cx_B0 I R T) (hr : rl4 I J R T) (x y : Int32) : ev_W X 53 0 (ez_lay [.ref 0, .int x, .int y]) [] (ev_hp I J R T) 0 0 (lw_mid T (fun v I1 J1 R1 T1 => (rl2 I1 J1 R1 T1 ∧ C3 (ck I1 J1)) ∧ d4 I1 J1 R1 T1)) := r4_q (l3x_truth hX2 hh hr.1 x y) (fun N => q4_truth (N := N) hh.2 hr.1.1.2) (by rfl) cv_53_0 hX2 hh ao_2 hr.2
theorem l4m_truth (hX2 : X.1 < 2 ^ 31) (hh : cx_hok cx_B0 I R T) (hr : rl4 I J R T) (x y : Int32) (hh1 : cx_hok cx_B0 I1 R1 T1) (hm : (rl2 I1 J1 R1 T1 ∧ C3 (ck I1 J1)) ∧ d4 I1 J1 R1 T1) : ev_W X 229 0 (ez_lay [.ref 35, .int x, .int y]) [] (ev_hp I1 J1 R1 T1) 0 0 (lw_mid T1 (fun u I2 J2 R2 T2 => rl4 I2 J2 R2 T2)) := r4_m (l3m_truth hX2 hh hr.1 x y hh1 hm.1) (fun N => keep_n (N := N) (by decide +kernel)) hh1.2 hm.2
theorem l4x_lies (hX2 : X.1 < 2 ^ 31) (hh : cx_hok cx_B0 I R T) (hr : rl4 I J R T) (x y z : Int32) : ev_W X 31 0 (ez_lay [.ref 0, .int x, .int y, .int z]) [] (ev_hp I J R T) 0 0 (lw_midL T (fun v I1 J1 R1 T1 => (rl2 I1 J1 R1 T1 ∧ C3 (ck I1 J1)) ∧ d4 I1 J1 R1 T1)) := r4_qL (l3x_lies hX2 hh hr.1 x y z) (fun N => q4_lies (N := N) hh.2 hr.1.1.2) (by rfl) cv_31_0 hX2 hh ao_3 hr.2
theorem l4m_lies (hX2 : X.1 < 2 ^ 31) (hh : cx_hok cx_B0 I R T) (hr : rl4 I J R T) (x y z : Int32) (hh1 : cx_hok cx_B0 I1 R1 T1) (hm : (rl2 I1 J1 R1 T1 ∧ C3 (ck I1 J1)) ∧ d4 I1 J1 R1 T1) : ev_W X 208 0 (ez_lay [.ref 35, .int x, .int y, .int z]) [] (ev_hp I1 J1 R1 T1) 0 0 (lw_midL T1 (fun u I2 J2 R2 T2 => rl4 I2 J2 R2 T2)) := r4_mL (l3m_lies hX2 hh hr.1 x y z hh1 hm.1) (fun N => keep_n (N := N) (by decide +kernel)) hh1.2 hm.2
theorem l4x_left (hX2 : X.1 < 2 ^ 31) (hh : cx_hok cx_B0 I R T) (hr : rl4 I J R T) : ev_W X 29 0 (ez_lay [.ref 0]) [] (ev_hp I J R T) 0 0 (lw_mid T (fun v I1 J1 R1 T1 => (rl2 I1 J1 R1 T1 ∧ C3 (ck I1 J1)) ∧ d4 I1 J1 R1 T1)) := r4_f (l3x_left hX2 hh hr.1) (fun N => pe_mono (pe_xleft (N := N) hr.1 hr.2 hh) fun _ _ q => q.2)
theorem l4m_left (hX2 : X.1 < 2 ^ 31) (hh : cx_hok cx_B0 I R T) (hr : rl4 I J R T) (hh1 : cx_hok cx_B0 I1 R1 T1) (hm : (rl2 I1 J1 R1 T1 ∧ C3 (ck I1 J1)) ∧ d4 I1 J1 R1 T1) : ev_W X 207 0 (ez_lay [.ref 35]) [] (ev_hp I1 J1 R1 T1) 0 0 (lw_mid T1 (fun u I2 J2 R2 T2 => rl4 I2 J2 R2 T2)) := r4_m (l3m_left hX2 hh hr.1 hh1 hm.1) (fun N => keep_n (N := N) (by decide +kernel)) hh1.2 hm.2
theorem l4x_which (hX2 : X.1 < 2 ^ 31) (hh : cx_hok cx_B0 I R T) (hr : rl4 I J R T) (x : Int32) : ev_W X 54 0 (ez_lay [.ref 0, .int x]) [] (ev_hp I J R T) 0 0 (lw_mid T (fun v I1 J1 R1 T1 => (rl2 I1 J1 R1 T1 ∧ C3 (ck I1 J1)) ∧ d4 I1 J1 R1 T1)) := r4_f (l3x_which hX2 hh hr.1 x) (fun N => pe_mono (pe_xwhich (N := N) hr.1 hr.2 hh) fun _ _ q => q.2)
theorem l4m_which (hX2 : X.1 < 2 ^ 31) (hh : cx_hok cx_B0 I R T) (hr : rl4 I J R T) (x : Int32) (hh1 : cx_hok cx_B0 I1 R1 T1) (hm : (rl2 I1 J1 R1 T1 ∧ C3 (ck I1 J1)) ∧ d4 I1 J1 R1 T1) : ev_W X 232 0 (ez_lay [.ref 35, .int x]) [] (ev_hp I1 J1 R1 T1) 0 0 (lw_mid T1 (fun u I2 J2 R2 T2 => rl4 I2 J2 R2 T2)) := r4_m (l3m_which hX2 hh hr.1 x hh1 hm.1) (fun N => keep_n (N := N) (by decide +kernel)) hh1.2 hm.2
theorem l4x_there (hX2 : X.1 < 2 ^ 31) (hh : cx_hok cx_B0 I R T) (hr : rl4 I J R T) (x : Int32) : ev_W X 51 0 (ez_lay [.ref 0, .int x]) [] (ev_hp I J R T) 0 0 (lw_mid T (fun v I1 J1 R1 T1 => (rl2 I1 J1 R1 T1 ∧ C3 (ck I1 J1)) ∧ d4 I1 J1 R1 T1)) := r4_f (l3x_there hX2 hh hr.1 x) (fun N => pe_mono (pe_xthere (N := N) hr.1 hr.2 hh) fun _ _ q => q.2)
theorem l4m_there (hX2 : X.1 < 2 ^ 31) (hh : cx_hok cx_B0 I R T) (hr : rl4 I J R T) (x : Int32) (hh1 : cx_hok cx_B0 I1 R1 T1) (hm : (rl2 I1 J1 R1 T1 ∧ C3 (ck I1 J1)) ∧ d4 I1 J1 R1 T1) : ev_W X 227 0 (ez_lay [.ref 35, .int x]) [] (ev_hp I1 J1 R1 T1) 0 0 (lw_mid T1 (fun u I2 J2 R2 T2 => rl4 I2 J2 R2 T2)) := r4_m (l3m_there hX2 hh hr.1 x hh1 hm.1) (fun N => keep_n (N := N) (by decide +kernel)) hh1.2 hm.2
theorem l4x_sure (hX2 : X.1 < 2 ^ 31) (hh : cx_hok cx_B0 I R T) (hr : rl4 I J R T) (x : Int32) : ev_W X 48 0 (ez_lay [.ref 0, .int x]) [] (ev_hp I J R T) 0 0 (lw_midL T (fun v I1 J1 R1 T1 => (rl2 I1 J1 R1 T1 ∧ C3 (ck I1 J1)) ∧ d4 I1 J1 R1 T1)) := r4_fL (l3x_sure hX2 hh hr.1 x) (fun N => pe_mono (pe_xsure (N := N) hr.1 hr.2 hh) fun _ _ q => q.2)
theorem l4m_sure (hX2 : X.1 < 2 ^ 31) (hh : cx_hok cx_B0 I R T) (hr : rl4 I J R T) (x : Int32) (hh1 : cx_hok cx_B0 I1 R1 T1) (hm : (rl2 I1 J1 R1 T1 ∧ C3 (ck I1 J1)) ∧ d4 I1 J1 R1 T1) : ev_W X 225 0 (ez_lay [.ref 35, .int x]) [] (ev_hp I1 J1 R1 T1) 0 0 (lw_midL T1 (fun u I2 J2 R2 T2 => rl4 I2 J2 R2 T2)) := r4_mL (l3m_sure hX2 hh hr.1 x hh1 hm.1) (fun N => keep_n (N := N) (by decide +kernel)) hh1.2 hm.2
theorem l4x_part (hX2 : X.1 < 2 ^ 31) (hh : cx_hok cx_B0 I R T) (hr : rl4 I J R T) (x y : Int32) : ev_W X 37 0 (ez_lay [.ref 0, .int x, .int y]) [] (ev_hp I J R T) 0 0 (lw_mid T (fun v I1 J1 R1 T1 => (rl2 I1 J1 R1 T1 ∧ C3 (ck I1 J1)) ∧ d4 I1 J1 R1 T1)) := r4_f (l3x_part hX2 hh hr.1 x y) (fun N => pe_mono (pe_xpart (N := N) hr.1 hr.2 hh) fun _ _ q => q.2)
theorem l4m_part (hX2 : X.1 < 2 ^ 31) (hh : cx_hok cx_B0 I R T) (hr : rl4 I J R T) (x y : Int32) (hh1 : cx_hok cx_B0 I1 R1 T1) (hm : (rl2 I1 J1 R1 T1 ∧ C3 (ck I1 J1)) ∧ d4 I1 J1 R1 T1) : ev_W X 214 0 (ez_lay [.ref 35, .int x, .int y]) [] (ev_hp I1 J1 R1 T1) 0 0 (lw_mid T1 (fun u I2 J2 R2 T2 => rl4 I2 J2 R2 T2)) := r4_m (l3m_part hX2 hh hr.1 x y hh1 hm.1) (fun N => keep_n (N := N) (by decide +kernel)) hh1.2 hm.2
theorem l4x_best (hX2 : X.1 < 2 ^ 31) (hh : cx_hok cx_B0 I R T) (hr : rl4 I J R T) (x : Int32) : ev_W X 6 0 (ez_lay [.ref 0, .int x]) [] (ev_hp I J R T) 0 0 (lw_mid T (fun v I1 J1 R1 T1 => (rl2 I1 J1 R1 T1 ∧ C3 (ck I1 J1)) ∧ d4 I1 J1 R1 T1)) := r4_f (l3x_best hX2 hh hr.1 x) (fun N => pe_mono (pe_xbest (N := N) hr.1 hr.2 hh) fun _ _ q => q.2)
theorem l4m_best (hX2 : X.1 < 2 ^ 31) (hh : cx_hok cx_B0 I R T) (hr : rl4 I J R T) (x : Int32) (hh1 : cx_hok cx_B0 I1 R1 T1) (hm : (rl2 I1 J1 R1 T1 ∧ C3 (ck I1 J1)) ∧ d4 I1 J1 R1 T1) : ev_W X 169 0 (ez_lay [.ref 35, .int x]) [] (ev_hp I1 J1 R1 T1) 0 0 (lw_mid T1 (fun u I2 J2 R2 T2 => rl4 I2 J2 R2 T2)) := r4_m (l3m_best hX2 hh hr.1 x hh1 hm.1) (fun N => keep_n (N := N) (by decide +kernel)) hh1.2 hm.2
theorem l4x_bestSalvo (hX2 : X.1 < 2 ^ 31) (hh : cx_hok cx_B0 I R T) (hr : rl4 I J R T) (x : Int32) : ev_W X 7 0 (ez_lay [.ref 0, .int x]) [] (ev_hp I J R T) 0 0 (lw_mid T (fun v I1 J1 R1 T1 => (rl2 I1 J1 R1 T1 ∧ C3 (ck I1 J1)) ∧ d4 I1 J1 R1 T1)) := r4_f (l3x_bestSalvo hX2 hh hr.1 x) (fun N => pe_xbestSalvo (N := N) hr.1 hr.2 hh)
theorem l4m_bestSalvo (hX2 : X.1 < 2 ^ 31) (hh : cx_hok cx_B0 I R T) (hr : rl4 I J R T) (x : Int32) (hh1 : cx_hok cx_B0 I1 R1 T1) (hm : (rl2 I1 J1 R1 T1 ∧ C3 (ck I1 J1)) ∧ d4 I1 J1 R1 T1) : ev_W X 170 0 (ez_lay [.ref 35, .int x]) [] (ev_hp I1 J1 R1 T1) 0 0 (lw_mid T1 (fun u I2 J2 R2 T2 => rl4 I2 J2 R2 T2)) := r4_m (l3m_bestSalvo hX2 hh hr.1 x hh1 hm.1) (fun N => keep_n (N := N) (by decide +kernel)) hh1.2 hm.2
theorem l4x_need (hX2 : X.1 < 2 ^ 31) (hh : cx_hok cx_B0 I R T) (hr : rl4 I J R T) (x : Int32) : ev_W X 34 0 (ez_lay [.ref 0, .int x]) [] (ev_hp I J R T) 0 0 (lw_mid T (fun v I1 J1 R1 T1 => (rl2 I1 J1 R1 T1 ∧ C3 (ck I1 J1)) ∧ d4 I1 J1 R1 T1)) := r4_q (l3x_need hX2 hh hr.1 x) (fun N => q4_need (N := N) hh.2 hr.1.1.2) (by rfl) cv_34_0 hX2 hh ao_1 hr.2
theorem l4m_need (hX2 : X.1 < 2 ^ 31) (hh : cx_hok cx_B0 I R T) (hr : rl4 I J R T) (x : Int32) (hh1 : cx_hok cx_B0 I1 R1 T1) (hm : (rl2 I1 J1 R1 T1 ∧ C3 (ck I1 J1)) ∧ d4 I1 J1 R1 T1) : ev_W X 212 0 (ez_lay [.ref 35, .int x]) [] (ev_hp I1 J1 R1 T1) 0 0 (lw_mid T1 (fun u I2 J2 R2 T2 => rl4 I2 J2 R2 T2)) := r4_m (l3m_need hX2 hh hr.1 x hh1 hm.1) (fun N => keep_n (N := N) (by decide +kernel)) hh1.2 hm.2
theorem l4x_calls (hX2 : X.1 < 2 ^ 31) (hh : cx_hok cx_B0 I R T) (hr : rl4 I J R T) (x y : Int32) : ev_W X 11 0 (ez_lay [.ref 0, .int x, .int y]) [] (ev_hp I J R T) 0 0 (lw_mid T (fun v I1 J1 R1 T1 => (rl2 I1 J1 R1 T1 ∧ C3 (ck I1 J1)) ∧ d4 I1 J1 R1 T1)) := r4_q (l3x_calls hX2 hh hr.1 x y) (fun N => q4_calls (N := N) hh.2 hr.1.1.2) (by rfl) cv_11_0 hX2 hh ao_2 hr.2
theorem l4m_calls (hX2 : X.1 < 2 ^ 31) (hh : cx_hok cx_B0 I R T) (hr : rl4 I J R T) (x y : Int32) (hh1 : cx_hok cx_B0 I1 R1 T1) (hm : (rl2 I1 J1 R1 T1 ∧ C3 (ck I1 J1)) ∧ d4 I1 J1 R1 T1) : ev_W X 178 0 (ez_lay [.ref 35, .int x, .int y]) [] (ev_hp I1 J1 R1 T1) 0 0 (lw_mid T1 (fun u I2 J2 R2 T2 => rl4 I2 J2 R2 T2)) := r4_m (l3m_calls hX2 hh hr.1 x y hh1 hm.1) (fun N => keep_n (N := N) (by decide +kernel)) hh1.2 hm.2
theorem l4x_hardest (hX2 : X.1 < 2 ^ 31) (hh : cx_hok cx_B0 I R T) (hr : rl4 I J R T) (x : Int32) : ev_W X 20 0 (ez_lay [.ref 0, .int x]) [] (ev_hp I J R T) 0 0 (lw_mid T (fun v I1 J1 R1 T1 => (rl2 I1 J1 R1 T1 ∧ C3 (ck I1 J1)) ∧ d4 I1 J1 R1 T1)) := r4_q (l3x_hardest hX2 hh hr.1 x) (fun N => q4_hardest (N := N) hh.2 hr.1.1.2) (by rfl) cv_20_0 hX2 hh ao_1 hr.2
theorem l4m_hardest (hX2 : X.1 < 2 ^ 31) (hh : cx_hok cx_B0 I R T) (hr : rl4 I J R T) (x : Int32) (hh1 : cx_hok cx_B0 I1 R1 T1) (hm : (rl2 I1 J1 R1 T1 ∧ C3 (ck I1 J1)) ∧ d4 I1 J1 R1 T1) : ev_W X 196 0 (ez_lay [.ref 35, .int x]) [] (ev_hp I1 J1 R1 T1) 0 0 (lw_mid T1 (fun u I2 J2 R2 T2 => rl4 I2 J2 R2 T2)) := r4_m (l3m_hardest hX2 hh hr.1 x hh1 hm.1) (fun N => keep_n (N := N) (by decide +kernel)) hh1.2 hm.2
theorem l4x_stray (hX2 : X.1 < 2 ^ 31) (hh : cx_hok cx_B0 I R T) (hr : rl4 I J R T) : ev_W X 47 0 (ez_lay [.ref 0]) [] (ev_hp I J R T) 0 0 (lw_mid T (fun v I1 J1 R1 T1 => (rl2 I1 J1 R1 T1 ∧ C3 (ck I1 J1)) ∧ d4 I1 J1 R1 T1)) := r4_f (l3x_stray hX2 hh hr.1) (fun N => pe_mono (pe_xstray (N := N) hr.1 hr.2 hh) fun _ _ q => q.2)
theorem l4m_stray (hX2 : X.1 < 2 ^ 31) (hh : cx_hok cx_B0 I R T) (hr : rl4 I J R T) (hh1 : cx_hok cx_B0 I1 R1 T1) (hm : (rl2 I1 J1 R1 T1 ∧ C3 (ck I1 J1)) ∧ d4 I1 J1 R1 T1) : ev_W X 224 0 (ez_lay [.ref 35]) [] (ev_hp I1 J1 R1 T1) 0 0 (lw_mid T1 (fun u I2 J2 R2 T2 => rl4 I2 J2 R2 T2)) := r4_m (l3m_stray hX2 hh hr.1 hh1 hm.1) (fun N => keep_n (N := N) (by decide +kernel)) hh1.2 hm.2
theorem l4x_blame (hX2 : X.1 < 2 ^ 31) (hh : cx_hok cx_B0 I R T) (hr : rl4 I J R T) : ev_W X 8 0 (ez_lay [.ref 0]) [] (ev_hp I J R T) 0 0 (lw_mid T (fun v I1 J1 R1 T1 => (rl2 I1 J1 R1 T1 ∧ C3 (ck I1 J1)) ∧ d4 I1 J1 R1 T1)) := r4_f (l3x_blame hX2 hh hr.1) (fun N => pe_mono (pe_xblame (N := N) hr.1 hr.2 hh) fun _ _ q => q.2)
theorem l4m_blame (hX2 : X.1 < 2 ^ 31) (hh : cx_hok cx_B0 I R T) (hr : rl4 I J R T) (hh1 : cx_hok cx_B0 I1 R1 T1) (hm : (rl2 I1 J1 R1 T1 ∧ C3 (ck I1 J1)) ∧ d4 I1 J1 R1 T1) : ev_W X 172 0 (ez_lay [.ref 35]) [] (ev_hp I1 J1 R1 T1) 0 0 (lw_mid T1 (fun u I2 J2 R2 T2 => rl4 I2 J2 R2 T2)) := r4_m (l3m_blame hX2 hh hr.1 hh1 hm.1) (fun N => keep_n (N := N) (by decide +kernel)) hh1.2 hm.2
theorem l4x_blamed (hX2 : X.1 < 2 ^ 31) (hh : cx_hok cx_B0 I R T) (hr : rl4 I J R T) : ev_W X 9 0 (ez_lay [.ref 0]) [] (ev_hp I J R T) 0 0 (lw_mid T (fun v I1 J1 R1 T1 => (rl2 I1 J1 R1 T1 ∧ C3 (ck I1 J1)) ∧ d4 I1 J1 R1 T1)) := r4_f (l3x_blamed hX2 hh hr.1) (fun N => pe_mono (pe_xblamed (N := N) hr.1 hr.2 hh) fun _ _ q => q.2)
theorem l4m_blamed (hX2 : X.1 < 2 ^ 31) (hh : cx_hok cx_B0 I R T) (hr : rl4 I J R T) (hh1 : cx_hok cx_B0 I1 R1 T1) (hm : (rl2 I1 J1 R1 T1 ∧ C3 (ck I1 J1)) ∧ d4 I1 J1 R1 T1) : ev_W X 174 0 (ez_lay [.ref 35]) [] (ev_hp I1 J1 R1 T1) 0 0 (lw_mid T1 (fun u I2 J2 R2 T2 => rl4 I2 J2 R2 T2)) := r4_m (l3m_blamed hX2 hh hr.1 hh1 hm.1) (fun N => keep_n (N := N) (by decide +kernel)) hh1.2 hm.2
theorem l4x_switched (hX2 : X.1 < 2 ^ 31) (hh : cx_hok cx_B0 I R T) (hr : rl4 I J R T) (x : Int32) : ev_W X 50 0 (ez_lay [.ref 0, .int x]) [] (ev_hp I J R T) 0 0 (lw_mid T (fun v I1 J1 R1 T1 => (rl2 I1 J1 R1 T1 ∧ C3 (ck I1 J1)) ∧ d4 I1 J1 R1 T1)) := r4_f (l3x_switched hX2 hh hr.1 x) (fun N => pe_xswitched (N := N) hr.1 hr.2 hh)
theorem l4m_switched (hX2 : X.1 < 2 ^ 31) (hh : cx_hok cx_B0 I R T) (hr : rl4 I J R T) (x : Int32) (hh1 : cx_hok cx_B0 I1 R1 T1) (hm : (rl2 I1 J1 R1 T1 ∧ C3 (ck I1 J1)) ∧ d4 I1 J1 R1 T1) : ev_W X 226 0 (ez_lay [.ref 35, .int x]) [] (ev_hp I1 J1 R1 T1) 0 0 (lw_mid T1 (fun u I2 J2 R2 T2 => rl4 I2 J2 R2 T2)) := r4_m (l3m_switched hX2 hh hr.1 x hh1 hm.1) (fun N => keep_n (N := N) (by decide +kernel)) hh1.2 hm.2
theorem l4x_count (hX2 : X.1 < 2 ^ 31) (hh : cx_hok cx_B0 I R T) (hr : rl4 I J R T) (x y : Int32) : ev_W X 14 0 (ez_lay [.ref 0, .int x, .int y]) [] (ev_hp I J R T) 0 0 (lw_mid T (fun v I1 J1 R1 T1 => ((mi_k ck_14_0.2.1 (kf_count x y) I J v I1 J1 R1 T1 ∧ cp I1 J1 R1 T1) ∧ ∃ K, C3 K ∧ ck I1 J1 = fx_count x y K) ∧ d4 I1 J1 R1 T1)) := r4_q (l3x_count hX2 hh hr.1 x y) (fun N => q4_count (N := N) hh.2 hr.1.1.2) (by rfl) cv_14_0 hX2 hh ao_2 hr.2
theorem l4m_count (hX2 : X.1 < 2 ^ 31) (hh : cx_hok cx_B0 I R T) (hr : rl4 I J R T) (x y : Int32) (hh1 : cx_hok cx_B0 I1 R1 T1) (hm : ((mi_k ck_14_0.2.1 (kf_count x y) I J v I1 J1 R1 T1 ∧ cp I1 J1 R1 T1) ∧ ∃ K, C3 K ∧ ck I1 J1 = fx_count x y K) ∧ d4 I1 J1 R1 T1) : ev_W X 182 0 (ez_lay [.ref 35, .int x, .int y]) [] (ev_hp I1 J1 R1 T1) 0 0 (lw_mid T1 (fun u I2 J2 R2 T2 => rl4 I2 J2 R2 T2)) := r4_m (l3m_count hX2 hh hr.1 x y hh1 hm.1) (fun N => keep_n (N := N) (by decide +kernel)) hh1.2 hm.2
theorem l4x_rim (hX2 : X.1 < 2 ^ 31) (hh : cx_hok cx_B0 I R T) (hr : rl4 I J R T) (x y : Int32) : ev_W X 40 0 (ez_lay [.ref 0, .int x, .int y]) [] (ev_hp I J R T) 0 0 (lw_mid T (fun v I1 J1 R1 T1 => (rl2 I1 J1 R1 T1 ∧ C3 (ck I1 J1)) ∧ d4 I1 J1 R1 T1)) := r4_q (l3x_rim hX2 hh hr.1 x y) (fun N => q4_rim (N := N) hh.2 hr.1.1.2) (by rfl) cv_40_0 hX2 hh ao_2 hr.2
theorem l4m_rim (hX2 : X.1 < 2 ^ 31) (hh : cx_hok cx_B0 I R T) (hr : rl4 I J R T) (x y : Int32) (hh1 : cx_hok cx_B0 I1 R1 T1) (hm : (rl2 I1 J1 R1 T1 ∧ C3 (ck I1 J1)) ∧ d4 I1 J1 R1 T1) : ev_W X 217 0 (ez_lay [.ref 35, .int x, .int y]) [] (ev_hp I1 J1 R1 T1) 0 0 (lw_mid T1 (fun u I2 J2 R2 T2 => rl4 I2 J2 R2 T2)) := r4_m (l3m_rim hX2 hh hr.1 x y hh1 hm.1) (fun N => keep_n (N := N) (by decide +kernel)) hh1.2 hm.2
theorem l4x_fitting (hX2 : X.1 < 2 ^ 31) (hh : cx_hok cx_B0 I R T) (hr : rl4 I J R T) : ev_W X 17 0 (ez_lay [.ref 0]) [] (ev_hp I J R T) 0 0 (lw_mid T (fun v I1 J1 R1 T1 => (rl2 I1 J1 R1 T1 ∧ C3 (ck I1 J1)) ∧ d4 I1 J1 R1 T1)) := r4_q (l3x_fitting hX2 hh hr.1) (fun N => q4_fitting (N := N) hh.2 hr.1.1.2) (by rfl) cv_17_0 hX2 hh ao_0 hr.2
theorem l4m_fitting (hX2 : X.1 < 2 ^ 31) (hh : cx_hok cx_B0 I R T) (hr : rl4 I J R T) (hh1 : cx_hok cx_B0 I1 R1 T1) (hm : (rl2 I1 J1 R1 T1 ∧ C3 (ck I1 J1)) ∧ d4 I1 J1 R1 T1) : ev_W X 191 0 (ez_lay [.ref 35]) [] (ev_hp I1 J1 R1 T1) 0 0 (lw_mid T1 (fun u I2 J2 R2 T2 => rl4 I2 J2 R2 T2)) := r4_m (l3m_fitting hX2 hh hr.1 hh1 hm.1) (fun N => keep_n (N := N) (by decide +kernel)) hh1.2 hm.2
theorem l4x_clues (hX2 : X.1 < 2 ^ 31) (hh : cx_hok cx_B0 I R T) (hr : rl4 I J R T) (x : Int32) : ev_W X 13 0 (ez_lay [.ref 0, .int x]) [] (ev_hp I J R T) 0 0 (lw_mid T (fun v I1 J1 R1 T1 => (rl2 I1 J1 R1 T1 ∧ C3 (ck I1 J1)) ∧ d4 I1 J1 R1 T1)) := r4_q (l3x_clues hX2 hh hr.1 x) (fun N => q4_clues (N := N) hh.2 hr.1.1.2) (by rfl) cv_13_0 hX2 hh ao_1 hr.2
theorem l4m_clues (hX2 : X.1 < 2 ^ 31) (hh : cx_hok cx_B0 I R T) (hr : rl4 I J R T) (x : Int32) (hh1 : cx_hok cx_B0 I1 R1 T1) (hm : (rl2 I1 J1 R1 T1 ∧ C3 (ck I1 J1)) ∧ d4 I1 J1 R1 T1) : ev_W X 181 0 (ez_lay [.ref 35, .int x]) [] (ev_hp I1 J1 R1 T1) 0 0 (lw_mid T1 (fun u I2 J2 R2 T2 => rl4 I2 J2 R2 T2)) := r4_m (l3m_clues hX2 hh hr.1 x hh1 hm.1) (fun N => keep_n (N := N) (by decide +kernel)) hh1.2 hm.2
theorem l4x_many (hX2 : X.1 < 2 ^ 31) (hh : cx_hok cx_B0 I R T) (hr : rl4 I J R T) (x : Int32) : ev_W X 33 0 (ez_lay [.ref 0, .int x]) [] (ev_hp I J R T) 0 0 (lw_mid T (fun v I1 J1 R1 T1 => (rl2 I1 J1 R1 T1 ∧ C3 (ck I1 J1)) ∧ d4 I1 J1 R1 T1)) := r4_q (l3x_many hX2 hh hr.1 x) (fun N => q4_many (N := N) hh.2 hr.1.1.2) (by rfl) cv_33_0 hX2 hh ao_1 hr.2
theorem l4m_many (hX2 : X.1 < 2 ^ 31) (hh : cx_hok cx_B0 I R T) (hr : rl4 I J R T) (x : Int32) (hh1 : cx_hok cx_B0 I1 R1 T1) (hm : (rl2 I1 J1 R1 T1 ∧ C3 (ck I1 J1)) ∧ d4 I1 J1 R1 T1) : ev_W X 210 0 (ez_lay [.ref 35, .int x]) [] (ev_hp I1 J1 R1 T1) 0 0 (lw_mid T1 (fun u I2 J2 R2 T2 => rl4 I2 J2 R2 T2)) := r4_m (l3m_many hX2 hh hr.1 x hh1 hm.1) (fun N => keep_n (N := N) (by decide +kernel)) hh1.2 hm.2
theorem l4_0 (h : rl3 ev_I0 ev_J0 ev_R0 []) : rl4 ev_I0 ev_J0 ev_R0 [] := ⟨h, d4_0⟩
end
end
