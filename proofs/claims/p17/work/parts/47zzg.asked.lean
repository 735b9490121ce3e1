/-! The class: stray, blame, blamed. -/
section
variable {N : Nat} {X : ez_X} {I : Nat → Nat → Int32} {J : Nat → Nat → Int64} {R : Nat → Nat} {T : List ez_C} {Q : pw_Q} {cz kz : Nat}
set_option maxRecDepth 100000 in
theorem iq_r0  : ∀ G : ez_F, fx_up X 3 G 98 0 [.ref 31] [] (ev_hp I J R T) cz kz = G 98 7 [.ref 31] [.int (I 6 3)] (ev_hp I J R T) cz kz := by
  intro G
  rfl
set_option maxRecDepth 100000 in
theorem iq_r1 {a0 : Int32} : ∀ G : ez_F, fx_up X 3 G 98 7 [.ref 31] [.int a0] (ev_hp I J R T) cz kz = bif decide (¬ a0 = (0 : Int32)) then G 98 39 [.ref 31, .int a0] [] (ev_hp I J R T) cz kz else G 98 12 [.ref 31, .int a0] [] (ev_hp I J R T) cz kz := by
  intro G
  rfl
set_option maxRecDepth 100000 in
theorem iq_r2 {a0 : Int32} : ∀ G : ez_F, fx_up X 4 G 98 39 [.ref 31, .int a0] [] (ev_hp I J R T) cz kz = G 98 43 [.ref 31, .int a0, .int (-1 : Int32), .int (0 : Int32)] [] (ev_hp I J R T) cz kz := by
  intro G
  rfl
set_option maxRecDepth 100000 in
theorem iq_r3 {a0 : Int32} : ∀ G : ez_F, fx_up X 3 G 98 12 [.ref 31, .int a0] [] (ev_hp I J R T) cz kz = G 98 19 [.ref 31, .int a0] [.long (J 8 3)] (ev_hp I J R T) cz kz := by
  intro G
  rfl
set_option maxRecDepth 100000 in
theorem iq_r4 {a0 : Int32} {a1 : Int64} : ∀ G : ez_F, fx_up X 3 G 98 19 [.ref 31, .int a0] [.long a1] (ev_hp I J R T) cz kz = bif decide (¬ (lg_cmp a1 (0 : Int64)) = (0 : Int32)) then G 98 28 [.ref 31, .int a0] [] (ev_hp I J R T) cz kz else G 98 24 [.ref 31, .int a0] [] (ev_hp I J R T) cz kz := by
  intro G
  rfl
set_option maxRecDepth 100000 in
theorem iq_r5 {a0 : Int32} : ∀ G : ez_F, fx_up X 3 G 98 28 [.ref 31, .int a0] [] (ev_hp I J R T) cz kz = G 98 35 [.ref 31, .int a0] [.long (J 8 3)] (ev_hp I J R T) cz kz := by
  intro G
  rfl
set_option maxRecDepth 100000 in
theorem iq_r6 {a0 : Int32} {a1 : Int64} : ∀ G : ez_F, fx_up X 1 G 98 35 [.ref 31, .int a0] [.long a1] (ev_hp I J R T) cz kz = ev_C G 97 [.long a1] (ev_hp I J R T) fun r h1 c1 k1 => G 98 38 [.ref 31, .int a0] (r.toList ++ []) h1 (cz + c1) (kz + k1) := by
  intro G
  rfl
set_option maxRecDepth 100000 in
theorem iq_r7 {a0 : Int32} : ∀ G : ez_F, fx_up X 3 G 98 24 [.ref 31, .int a0] [] (ev_hp I J R T) cz kz = some (some (.int (-1 : Int32)), (ev_hp I J R T), cz, kz) := by
  intro G
  rfl
theorem fs_0 
    (H : ((¬ (I 6 3) = (0 : Int32) → pw N X 98 43 [.ref 31, .int (I 6 3), .int (-1 : Int32), .int (0 : Int32)] [] (ev_hp I J R T) Q) ∧ (¬ (¬ (I 6 3) = (0 : Int32)) → ((¬ (lg_cmp (J 8 3) (0 : Int64)) = (0 : Int32) → (∃ Q1 : pw_Q, pe N X 97 [.long (J 8 3)] (ev_hp I J R T) Q1 ∧ ∀ (r : Option Value) (h1 : ez_H), Q1 r h1 → pw N X 98 38 [.ref 31, .int (I 6 3)] (r.toList ++ []) h1 Q)) ∧ (¬ (¬ (lg_cmp (J 8 3) (0 : Int64)) = (0 : Int32)) → Q (some (.int (-1 : Int32))) (ev_hp I J R T)))))) : pw (N + 1) X 98 0 [.ref 31] [] (ev_hp I J R T) Q := by
  refine pw_seg (by decide) (fun _ _ => iq_r0) ?_
  refine pw_p (pw_if (by decide) (fun _ _ => iq_r1) (fun w1 => ?_) (fun w1 => ?_))
  · have h1 := H.1 w1
    refine pw_p (pw_seg (by decide) (fun _ _ => iq_r2) ?_)
    exact h1
  · have h1 := H.2 w1
    refine pw_p (pw_seg (by decide) (fun _ _ => iq_r3) ?_)
    refine pw_p (pw_if (by decide) (fun _ _ => iq_r4) (fun w2 => ?_) (fun w2 => ?_))
    · have h2 := h1.1 w2
      refine pw_p (pw_seg (by decide) (fun _ _ => iq_r5) ?_)
      obtain ⟨Q1, hc, hk⟩ := h2
      exact pw_p (pw_call (by decide) (fun _ _ => iq_r6) hc hk)
    · have h2 := h1.2 w2
      exact pw_p (pw_ret (by decide) (fun _ _ => iq_r7) h2)
set_option maxRecDepth 100000 in
theorem iq_r8 {a0 : Int32} {a1 : Int32} {a2 : Int32} : ∀ G : ez_F, fx_up X 3 G 98 43 [.ref 31, .int a0, .int a1, .int a2] [] (ev_hp I J R T) cz kz = bif decide (a0 ≤ a2) then G 98 83 [.ref 31, .int a0, .int a1, .int a2] [] (ev_hp I J R T) cz kz else G 98 48 [.ref 31, .int a0, .int a1, .int a2] [] (ev_hp I J R T) cz kz := by
  intro G
  rfl
set_option maxRecDepth 100000 in
theorem iq_r9 {a0 : Int32} {a1 : Int32} {a2 : Int32} : ∀ G : ez_F, fx_up X 2 G 98 83 [.ref 31, .int a0, .int a1, .int a2] [] (ev_hp I J R T) cz kz = some (some (.int a1), (ev_hp I J R T), cz, kz) := by
  intro G
  rfl
set_option maxRecDepth 100000 in
theorem iq_r10 {a0 : Int32} {a1 : Int32} {a2 : Int32} : ∀ G : ez_F, fx_up X 4 G 98 48 [.ref 31, .int a0, .int a1, .int a2] [] (ev_hp I J R T) cz kz = ev_C G 113 [.ref 13, .int a2] (ev_hp I J R T) fun r h1 c1 k1 => G 98 56 [.ref 31, .int a0, .int a1, .int a2] (r.toList ++ []) h1 (cz + c1) (kz + k1) := by
  intro G
  rfl
theorem fs_43 {l b k : Int32}
    (H : ((l ≤ k → Q (some (.int b)) (ev_hp I J R T)) ∧ (¬ (l ≤ k) → (∃ Q1 : pw_Q, pe N X 113 [.ref 13, .int k] (ev_hp I J R T) Q1 ∧ ∀ (r : Option Value) (h1 : ez_H), Q1 r h1 → pw N X 98 56 [.ref 31, .int l, .int b, .int k] (r.toList ++ []) h1 Q)))) : pw (N + 1) X 98 43 [.ref 31, .int l, .int b, .int k] [] (ev_hp I J R T) Q := by
  refine pw_if (by decide) (fun _ _ => iq_r8) (fun w1 => ?_) (fun w1 => ?_)
  · have h1 := H.1 w1
    exact pw_p (pw_ret (by decide) (fun _ _ => iq_r9) h1)
  · have h1 := H.2 w1
    obtain ⟨Q1, hc, hk⟩ := h1
    exact pw_p (pw_call (by decide) (fun _ _ => iq_r10) hc hk)
set_option maxRecDepth 100000 in
theorem iq_r11 {a0 : Int32} {a1 : Int32} {a2 : Int32} {a3 : Int64} : ∀ G : ez_F, fx_up X 5 G 98 56 [.ref 31, .int a0, .int a1, .int a2] [.long a3] (ev_hp I J R T) cz kz = bif decide (¬ (lg_cmp a3 (0 : Int64)) = (0 : Int32)) then G 98 67 [.ref 31, .int a0, .int a1, .int a2, .long a3, ez_fill] [] (ev_hp I J R T) cz kz else G 98 65 [.ref 31, .int a0, .int a1, .int a2, .long a3, ez_fill] [] (ev_hp I J R T) cz kz := by
  intro G
  rfl
set_option maxRecDepth 100000 in
theorem iq_r12 {a0 : Int32} {a1 : Int32} {a2 : Int32} {a3 : Int64} : ∀ G : ez_F, fx_up X 3 G 98 67 [.ref 31, .int a0, .int a1, .int a2, .long a3, ez_fill] [] (ev_hp I J R T) cz kz = ev_C G 97 [.long a3] (ev_hp I J R T) fun r h1 c1 k1 => G 98 73 [.ref 31, .int a0, .int a1, .int a2, .long a3, ez_fill] (r.toList ++ [.int a1]) h1 (cz + c1) (kz + k1) := by
  intro G
  rfl
set_option maxRecDepth 100000 in
theorem iq_r13 {a0 : Int32} {a1 : Int32} {a2 : Int32} {a3 : Int64} : ∀ G : ez_F, fx_up X 2 G 98 65 [.ref 31, .int a0, .int a1, .int a2, .long a3, ez_fill] [] (ev_hp I J R T) cz kz = some (some (.int (-1 : Int32)), (ev_hp I J R T), cz, kz) := by
  intro G
  rfl
theorem fs_56 {l b k : Int32} {z : Int64}
    (H : ((¬ (lg_cmp z (0 : Int64)) = (0 : Int32) → (∃ Q1 : pw_Q, pe N X 97 [.long z] (ev_hp I J R T) Q1 ∧ ∀ (r : Option Value) (h1 : ez_H), Q1 r h1 → pw N X 98 73 [.ref 31, .int l, .int b, .int k, .long z, ez_fill] (r.toList ++ [.int b]) h1 Q)) ∧ (¬ (¬ (lg_cmp z (0 : Int64)) = (0 : Int32)) → Q (some (.int (-1 : Int32))) (ev_hp I J R T)))) : pw (N + 1) X 98 56 [.ref 31, .int l, .int b, .int k] [.long z] (ev_hp I J R T) Q := by
  refine pw_if (by decide) (fun _ _ => iq_r11) (fun w1 => ?_) (fun w1 => ?_)
  · have h1 := H.1 w1
    obtain ⟨Q1, hc, hk⟩ := h1
    exact pw_p (pw_call (by decide) (fun _ _ => iq_r12) hc hk)
  · have h1 := H.2 w1
    exact pw_p (pw_ret (by decide) (fun _ _ => iq_r13) h1)
set_option maxRecDepth 100000 in
theorem iq_r14 {a0 : Int32} {a1 : Int32} : ∀ G : ez_F, fx_up X 1 G 98 38 [.ref 31, .int a0] [.int a1] (ev_hp I J R T) cz kz = some (some (.int a1), (ev_hp I J R T), cz, kz) := by
  intro G
  rfl
theorem fs_38 {l v : Int32}
    (H : Q (some (.int v)) (ev_hp I J R T)) : pw (N + 1) X 98 38 [.ref 31, .int l] [.int v] (ev_hp I J R T) Q := by
  exact pw_ret (by decide) (fun _ _ => iq_r14) H
set_option maxRecDepth 100000 in
theorem iq_r15 {a0 : Int32} {a1 : Int32} {a2 : Int32} {a3 : Int64} {a4 : Int32} {a5 : Int32} : ∀ G : ez_F, fx_up X 4 G 98 73 [.ref 31, .int a0, .int a1, .int a2, .long a3, ez_fill] [.int a4, .int a5] (ev_hp I J R T) cz kz = G 98 43 [.ref 31, .int a0, .int (if a5 < a4 then a4 else a5), .int (a2 + (1 : Int32)), .long a3, ez_fill] [] (ev_hp I J R T) cz kz := by
  intro G
  rfl
theorem fs_73 {l b k v : Int32} {z : Int64}
    (H : pw N X 98 43 [.ref 31, .int l, .int (if b < v then v else b), .int (k + (1 : Int32))] [] (ev_hp I J R T) Q) : pw (N + 1) X 98 73 [.ref 31, .int l, .int b, .int k, .long z, ez_fill] [.int v, .int b] (ev_hp I J R T) Q := by
  refine pw_seg (by decide) (fun _ _ => iq_r15) ?_
  refine pw_cutl (by rfl) ?_
  exact H
set_option maxRecDepth 100000 in
theorem iq_r16  : ∀ G : ez_F, fx_up X 3 G 100 0 [.ref 31] [] (ev_hp I J R T) cz kz = G 100 7 [.ref 31] [.int (I 6 3)] (ev_hp I J R T) cz kz := by
  intro G
  rfl
set_option maxRecDepth 100000 in
theorem iq_r17 {a0 : Int32} : ∀ G : ez_F, fx_up X 7 G 100 7 [.ref 31] [.int a0] (ev_hp I J R T) cz kz = G 100 16 [.ref 31, .int a0, .int (-1 : Int32), .int (31 : Int32), .int (0 : Int32)] [] (ev_hp I J R T) cz kz := by
  intro G
  rfl
theorem lw_0 
    (H : pw N X 100 16 [.ref 31, .int (I 6 3), .int (-1 : Int32), .int (31 : Int32), .int (0 : Int32)] [] (ev_hp I J R T) Q) : pw (N + 1) X 100 0 [.ref 31] [] (ev_hp I J R T) Q := by
  refine pw_seg (by decide) (fun _ _ => iq_r16) ?_
  refine pw_p (pw_seg (by decide) (fun _ _ => iq_r17) ?_)
  exact H
set_option maxRecDepth 100000 in
theorem iq_r18 {a0 : Int32} {a1 : Int32} {a2 : Int32} {a3 : Int32} : ∀ G : ez_F, fx_up X 3 G 100 16 [.ref 31, .int a0, .int a1, .int a2, .int a3] [] (ev_hp I J R T) cz kz = bif decide (a0 ≤ a3) then G 100 54 [.ref 31, .int a0, .int a1, .int a2, .int a3] [] (ev_hp I J R T) cz kz else G 100 22 [.ref 31, .int a0, .int a1, .int a2, .int a3] [] (ev_hp I J R T) cz kz := by
  intro G
  rfl
set_option maxRecDepth 100000 in
theorem iq_r19 {a0 : Int32} {a1 : Int32} {a2 : Int32} {a3 : Int32} : ∀ G : ez_F, fx_up X 2 G 100 54 [.ref 31, .int a0, .int a1, .int a2, .int a3] [] (ev_hp I J R T) cz kz = some (some (.int a1), (ev_hp I J R T), cz, kz) := by
  intro G
  rfl
set_option maxRecDepth 100000 in
theorem iq_r20 {a0 : Int32} {a1 : Int32} {a2 : Int32} {a3 : Int32} : ∀ G : ez_F, fx_up X 4 G 100 22 [.ref 31, .int a0, .int a1, .int a2, .int a3] [] (ev_hp I J R T) cz kz = ev_C G 113 [.ref 13, .int a3] (ev_hp I J R T) fun r h1 c1 k1 => G 100 31 [.ref 31, .int a0, .int a1, .int a2, .int a3] (r.toList ++ []) h1 (cz + c1) (kz + k1) := by
  intro G
  rfl
theorem lw_16 {l b f k : Int32}
    (H : ((l ≤ k → Q (some (.int b)) (ev_hp I J R T)) ∧ (¬ (l ≤ k) → (∃ Q1 : pw_Q, pe N X 113 [.ref 13, .int k] (ev_hp I J R T) Q1 ∧ ∀ (r : Option Value) (h1 : ez_H), Q1 r h1 → pw N X 100 31 [.ref 31, .int l, .int b, .int f, .int k] (r.toList ++ []) h1 Q)))) : pw (N + 1) X 100 16 [.ref 31, .int l, .int b, .int f, .int k] [] (ev_hp I J R T) Q := by
  refine pw_if (by decide) (fun _ _ => iq_r18) (fun w1 => ?_) (fun w1 => ?_)
  · have h1 := H.1 w1
    exact pw_p (pw_ret (by decide) (fun _ _ => iq_r19) h1)
  · have h1 := H.2 w1
    obtain ⟨Q1, hc, hk⟩ := h1
    exact pw_p (pw_call (by decide) (fun _ _ => iq_r20) hc hk)
set_option maxRecDepth 100000 in
theorem iq_r21 {a0 : Int32} {a1 : Int32} {a2 : Int32} {a3 : Int32} {a4 : Int64} : ∀ G : ez_F, fx_up X 1 G 100 31 [.ref 31, .int a0, .int a1, .int a2, .int a3] [.long a4] (ev_hp I J R T) cz kz = ev_C G 237 [.long a4] (ev_hp I J R T) fun r h1 c1 k1 => G 100 34 [.ref 31, .int a0, .int a1, .int a2, .int a3] (r.toList ++ []) h1 (cz + c1) (kz + k1) := by
  intro G
  rfl
set_option maxRecDepth 100000 in
theorem iq_r22 {a0 : Int32} {a1 : Int32} {a2 : Int32} {a3 : Int32} {a4 : Int32} : ∀ G : ez_F, fx_up X 4 G 100 34 [.ref 31, .int a0, .int a1, .int a2, .int a3] [.int a4] (ev_hp I J R T) cz kz = bif decide (a2 ≤ a4) then G 100 48 [.ref 31, .int a0, .int a1, .int a2, .int a3, .int a4] [] (ev_hp I J R T) cz kz else G 100 42 [.ref 31, .int a0, .int a1, .int a2, .int a3, .int a4] [] (ev_hp I J R T) cz kz := by
  intro G
  rfl
set_option maxRecDepth 100000 in
theorem iq_r23 {a0 : Int32} {a1 : Int32} {a2 : Int32} {a3 : Int32} {a4 : Int32} : ∀ G : ez_F, fx_up X 2 G 100 48 [.ref 31, .int a0, .int a1, .int a2, .int a3, .int a4] [] (ev_hp I J R T) cz kz = G 100 16 [.ref 31, .int a0, .int a1, .int a2, .int (a3 + (1 : Int32)), .int a4] [] (ev_hp I J R T) cz kz := by
  intro G
  rfl
set_option maxRecDepth 100000 in
theorem iq_r24 {a0 : Int32} {a1 : Int32} {a2 : Int32} {a3 : Int32} {a4 : Int32} : ∀ G : ez_F, fx_up X 6 G 100 42 [.ref 31, .int a0, .int a1, .int a2, .int a3, .int a4] [] (ev_hp I J R T) cz kz = G 100 16 [.ref 31, .int a0, .int a3, .int a4, .int (a3 + (1 : Int32)), .int a4] [] (ev_hp I J R T) cz kz := by
  intro G
  rfl
theorem lw_31 {l b f k : Int32} {z : Int64}
    (H : ((f ≤ (ev_bcJ z) → pw N X 100 16 [.ref 31, .int l, .int b, .int f, .int (k + (1 : Int32))] [] (ev_hp I J R T) Q) ∧ (¬ (f ≤ (ev_bcJ z)) → pw N X 100 16 [.ref 31, .int l, .int k, .int (ev_bcJ z), .int (k + (1 : Int32))] [] (ev_hp I J R T) Q))) : pw (N + 1) X 100 31 [.ref 31, .int l, .int b, .int f, .int k] [.long z] (ev_hp I J R T) Q := by
  refine pw_callp (by decide) (fun _ _ => iq_r21) (pe_is (ec_bcJ _ _ _)) ?_
  refine pw_p (pw_if (by decide) (fun _ _ => iq_r22) (fun w1 => ?_) (fun w1 => ?_))
  · have h1 := H.1 w1
    refine pw_p (pw_seg (by decide) (fun _ _ => iq_r23) ?_)
    refine pw_cutl (by rfl) ?_
    exact h1
  · have h1 := H.2 w1
    refine pw_p (pw_seg (by decide) (fun _ _ => iq_r24) ?_)
    refine pw_cutl (by rfl) ?_
    exact h1
set_option maxRecDepth 100000 in
theorem iq_r25 {a0 : Int32} : ∀ G : ez_F, fx_up X 4 G 103 0 [.ref 31, .int a0] [] (ev_hp I J R T) cz kz = ev_C G 113 [.ref 13, .int a0] (ev_hp I J R T) fun r h1 c1 k1 => G 103 8 [.ref 31, .int a0] (r.toList ++ []) h1 (cz + c1) (kz + k1) := by
  intro G
  rfl
theorem wq_0 {x : Int32}
    (H : (∃ Q1 : pw_Q, pe N X 113 [.ref 13, .int x] (ev_hp I J R T) Q1 ∧ ∀ (r : Option Value) (h1 : ez_H), Q1 r h1 → pw N X 103 8 [.ref 31, .int x] (r.toList ++ []) h1 Q)) : pw (N + 1) X 103 0 [.ref 31, .int x] [] (ev_hp I J R T) Q := by
  obtain ⟨Q1, hc, hk⟩ := H
  exact pw_call (by decide) (fun _ _ => iq_r25) hc hk
set_option maxRecDepth 100000 in
theorem iq_r26 {a0 : Int32} {a1 : Int64} : ∀ G : ez_F, fx_up X 5 G 103 8 [.ref 31, .int a0] [.long a1] (ev_hp I J R T) cz kz = G 103 15 [.ref 31, .int a0, .long a1, ez_fill, .int (0 : Int32), .int (0 : Int32)] [] (ev_hp I J R T) cz kz := by
  intro G
  rfl
theorem wq_8 {x : Int32} {z : Int64}
    (H : pw N X 103 15 [.ref 31, .int x, .long z, ez_fill, .int (0 : Int32), .int (0 : Int32)] [] (ev_hp I J R T) Q) : pw (N + 1) X 103 8 [.ref 31, .int x] [.long z] (ev_hp I J R T) Q := by
  refine pw_seg (by decide) (fun _ _ => iq_r26) ?_
  exact H
set_option maxRecDepth 100000 in
theorem iq_r27 {a0 : Int32} {a1 : Int64} {a2 : Int32} {a3 : Int32} : ∀ G : ez_F, fx_up X 3 G 103 15 [.ref 31, .int a0, .long a1, ez_fill, .int a2, .int a3] [] (ev_hp I J R T) cz kz = bif decide ((30 : Int32) ≤ a3) then G 103 50 [.ref 31, .int a0, .long a1, ez_fill, .int a2, .int a3] [] (ev_hp I J R T) cz kz else G 103 22 [.ref 31, .int a0, .long a1, ez_fill, .int a2, .int a3] [] (ev_hp I J R T) cz kz := by
  intro G
  rfl
set_option maxRecDepth 100000 in
theorem iq_r28 {a0 : Int32} {a1 : Int64} {a2 : Int32} {a3 : Int32} : ∀ G : ez_F, fx_up X 2 G 103 50 [.ref 31, .int a0, .long a1, ez_fill, .int a2, .int a3] [] (ev_hp I J R T) cz kz = some (some (.int a2), (ev_hp I J R T), cz, kz) := by
  intro G
  rfl
set_option maxRecDepth 100000 in
theorem iq_r29 {a0 : Int32} {a1 : Int64} {a2 : Int32} {a3 : Int32} : ∀ G : ez_F, fx_up X 10 G 103 22 [.ref 31, .int a0, .long a1, ez_fill, .int a2, .int a3] [] (ev_hp I J R T) cz kz = bif decide ((lg_cmp ((a1.toUInt64 >>> (((2 : Int32) * a3).toInt64.toUInt64 &&& Int64.toUInt64 63)).toInt64 &&& (1 : Int64)) (0 : Int64)) = (0 : Int32)) then G 103 44 [.ref 31, .int a0, .long a1, ez_fill, .int a2, .int a3] [] (ev_hp I J R T) cz kz else G 103 35 [.ref 31, .int a0, .long a1, ez_fill, .int a2, .int a3] [] (ev_hp I J R T) cz kz := by
  intro G
  rfl
set_option maxRecDepth 100000 in
theorem iq_r30 {a0 : Int32} {a1 : Int64} {a2 : Int32} {a3 : Int32} : ∀ G : ez_F, fx_up X 2 G 103 44 [.ref 31, .int a0, .long a1, ez_fill, .int a2, .int a3] [] (ev_hp I J R T) cz kz = G 103 15 [.ref 31, .int a0, .long a1, ez_fill, .int a2, .int (a3 + (1 : Int32))] [] (ev_hp I J R T) cz kz := by
  intro G
  rfl
set_option maxRecDepth 100000 in
theorem iq_r31 {a0 : Int32} {a1 : Int64} {a2 : Int32} {a3 : Int32} : ∀ G : ez_F, fx_up X 8 G 103 35 [.ref 31, .int a0, .long a1, ez_fill, .int a2, .int a3] [] (ev_hp I J R T) cz kz = G 103 15 [.ref 31, .int a0, .long a1, ez_fill, .int (a2 ||| ((1 : Int32) <<< (a3 &&& (31 : Int32)))), .int (a3 + (1 : Int32))] [] (ev_hp I J R T) cz kz := by
  intro G
  rfl
theorem wq_15 {x s c : Int32} {z : Int64}
    (H : (((30 : Int32) ≤ c → Q (some (.int s)) (ev_hp I J R T)) ∧ (¬ ((30 : Int32) ≤ c) → (((lg_cmp ((z.toUInt64 >>> (((2 : Int32) * c).toInt64.toUInt64 &&& Int64.toUInt64 63)).toInt64 &&& (1 : Int64)) (0 : Int64)) = (0 : Int32) → pw N X 103 15 [.ref 31, .int x, .long z, ez_fill, .int s, .int (c + (1 : Int32))] [] (ev_hp I J R T) Q) ∧ (¬ ((lg_cmp ((z.toUInt64 >>> (((2 : Int32) * c).toInt64.toUInt64 &&& Int64.toUInt64 63)).toInt64 &&& (1 : Int64)) (0 : Int64)) = (0 : Int32)) → pw N X 103 15 [.ref 31, .int x, .long z, ez_fill, .int (s ||| ((1 : Int32) <<< (c &&& (31 : Int32)))), .int (c + (1 : Int32))] [] (ev_hp I J R T) Q))))) : pw (N + 1) X 103 15 [.ref 31, .int x, .long z, ez_fill, .int s, .int c] [] (ev_hp I J R T) Q := by
  refine pw_if (by decide) (fun _ _ => iq_r27) (fun w1 => ?_) (fun w1 => ?_)
  · have h1 := H.1 w1
    exact pw_p (pw_ret (by decide) (fun _ _ => iq_r28) h1)
  · have h1 := H.2 w1
    refine pw_p (pw_if (by decide) (fun _ _ => iq_r29) (fun w2 => ?_) (fun w2 => ?_))
    · have h2 := h1.1 w2
      refine pw_p (pw_seg (by decide) (fun _ _ => iq_r30) ?_)
      exact h2
    · have h2 := h1.2 w2
      refine pw_p (pw_seg (by decide) (fun _ _ => iq_r31) ?_)
      exact h2
set_option maxRecDepth 100000 in
theorem iq_r32  : ∀ G : ez_F, fx_up X 2 G 102 0 [.ref 31] [] (ev_hp I J R T) cz kz = ev_C G 100 [.ref 31] (ev_hp I J R T) fun r h1 c1 k1 => G 102 4 [.ref 31] (r.toList ++ []) h1 (cz + c1) (kz + k1) := by
  intro G
  rfl
theorem sw_0 
    (H : (∃ Q1 : pw_Q, pe N X 100 [.ref 31] (ev_hp I J R T) Q1 ∧ ∀ (r : Option Value) (h1 : ez_H), Q1 r h1 → pw N X 102 4 [.ref 31] (r.toList ++ []) h1 Q)) : pw (N + 1) X 102 0 [.ref 31] [] (ev_hp I J R T) Q := by
  obtain ⟨Q1, hc, hk⟩ := H
  exact pw_call (by decide) (fun _ _ => iq_r32) hc hk
set_option maxRecDepth 100000 in
theorem iq_r33 {a0 : Int32} : ∀ G : ez_F, fx_up X 4 G 102 4 [.ref 31] [.int a0] (ev_hp I J R T) cz kz = bif decide (a0 = (-1 : Int32)) then G 102 27 [.ref 31, .int a0] [] (ev_hp I J R T) cz kz else G 102 10 [.ref 31, .int a0] [] (ev_hp I J R T) cz kz := by
  intro G
  rfl
set_option maxRecDepth 100000 in
theorem iq_r34 {a0 : Int32} : ∀ G : ez_F, fx_up X 1 G 102 27 [.ref 31, .int a0] [] (ev_hp I J R T) cz kz = G 102 28 [.ref 31, .int a0] [.int (0 : Int32)] (ev_hp I J R T) cz kz := by
  intro G
  rfl
set_option maxRecDepth 100000 in
theorem iq_r35 {a0 : Int32} : ∀ G : ez_F, fx_up X 4 G 102 10 [.ref 31, .int a0] [] (ev_hp I J R T) cz kz = ev_C G 113 [.ref 13, .int a0] (ev_hp I J R T) fun r h1 c1 k1 => G 102 18 [.ref 31, .int a0] (r.toList ++ []) h1 (cz + c1) (kz + k1) := by
  intro G
  rfl
theorem sw_4 {v : Int32}
    (H : ((v = (-1 : Int32) → ((0 : Int32) = 0 ∨ (0 : Int32) = 1 → Q (some (.int (0 : Int32))) (ev_hp I J R T))) ∧ (¬ (v = (-1 : Int32)) → (∃ Q1 : pw_Q, pe N X 113 [.ref 13, .int v] (ev_hp I J R T) Q1 ∧ ∀ (r : Option Value) (h1 : ez_H), Q1 r h1 → pw N X 102 18 [.ref 31, .int v] (r.toList ++ []) h1 Q)))) : pw (N + 1) X 102 4 [.ref 31] [.int v] (ev_hp I J R T) Q := by
  refine pw_if (by decide) (fun _ _ => iq_r33) (fun w1 => ?_) (fun w1 => ?_)
  · have h1 := H.1 w1
    refine pw_p (pw_seg (by decide) (fun _ _ => iq_r34) ?_)
    exact pw_p (pw_zret (by rfl) h1)
  · have h1 := H.2 w1
    obtain ⟨Q1, hc, hk⟩ := h1
    exact pw_p (pw_call (by decide) (fun _ _ => iq_r35) hc hk)
set_option maxRecDepth 100000 in
theorem iq_r36 {a0 : Int32} {a1 : Int64} : ∀ G : ez_F, fx_up X 3 G 102 18 [.ref 31, .int a0] [.long a1] (ev_hp I J R T) cz kz = bif decide (¬ (lg_cmp a1 (0 : Int64)) = (0 : Int32)) then G 102 27 [.ref 31, .int a0] [] (ev_hp I J R T) cz kz else G 102 23 [.ref 31, .int a0] [] (ev_hp I J R T) cz kz := by
  intro G
  rfl
set_option maxRecDepth 100000 in
theorem iq_r37 {a0 : Int32} : ∀ G : ez_F, fx_up X 2 G 102 23 [.ref 31, .int a0] [] (ev_hp I J R T) cz kz = G 102 28 [.ref 31, .int a0] [.int (1 : Int32)] (ev_hp I J R T) cz kz := by
  intro G
  rfl
theorem sw_18 {v : Int32} {z : Int64}
    (H : ((¬ (lg_cmp z (0 : Int64)) = (0 : Int32) → ((0 : Int32) = 0 ∨ (0 : Int32) = 1 → Q (some (.int (0 : Int32))) (ev_hp I J R T))) ∧ (¬ (¬ (lg_cmp z (0 : Int64)) = (0 : Int32)) → ((1 : Int32) = 0 ∨ (1 : Int32) = 1 → Q (some (.int (1 : Int32))) (ev_hp I J R T))))) : pw (N + 1) X 102 18 [.ref 31, .int v] [.long z] (ev_hp I J R T) Q := by
  refine pw_if (by decide) (fun _ _ => iq_r36) (fun w1 => ?_) (fun w1 => ?_)
  · have h1 := H.1 w1
    refine pw_p (pw_seg (by decide) (fun _ _ => iq_r34) ?_)
    exact pw_p (pw_zret (by rfl) h1)
  · have h1 := H.2 w1
    refine pw_p (pw_seg (by decide) (fun _ _ => iq_r37) ?_)
    exact pw_p (pw_zret (by rfl) h1)
set_option maxRecDepth 100000 in
theorem iq_r38 {a0 : Int64} : ∀ G : ez_F, fx_up X 2 G 97 0 [.long a0, ez_fill] [] (ev_hp I J R T) cz kz = ev_C G 239 [.long a0] (ev_hp I J R T) fun r h1 c1 k1 => G 97 4 [.long a0, ez_fill] (r.toList ++ []) h1 (cz + c1) (kz + k1) := by
  intro G
  rfl
theorem fq_0 {z : Int64}
    (H : (∃ Q1 : pw_Q, pe N X 239 [.long z] (ev_hp I J R T) Q1 ∧ ∀ (r : Option Value) (h1 : ez_H), Q1 r h1 → pw N X 97 4 [.long z, ez_fill] (r.toList ++ []) h1 Q)) : pw (N + 1) X 97 0 [.long z, ez_fill] [] (ev_hp I J R T) Q := by
  obtain ⟨Q1, hc, hk⟩ := H
  exact pw_call (by decide) (fun _ _ => iq_r38) hc hk
set_option maxRecDepth 100000 in
theorem iq_r39 {a0 : Int64} {a1 : Int32} : ∀ G : ez_F, fx_up X 3 G 97 4 [.long a0, ez_fill] [.int a1] (ev_hp I J R T) cz kz = some (some (.int (a1 >>> ((1 : Int32) &&& (31 : Int32)))), (ev_hp I J R T), cz, kz) := by
  intro G
  rfl
theorem fq_4 {v : Int32} {z : Int64}
    (H : Q (some (.int (v >>> ((1 : Int32) &&& (31 : Int32))))) (ev_hp I J R T)) : pw (N + 1) X 97 4 [.long z, ez_fill] [.int v] (ev_hp I J R T) Q := by
  exact pw_ret (by decide) (fun _ _ => iq_r39) H
set_option maxRecDepth 100000 in
theorem iq_r40 {a0 : Int32} : ∀ G : ez_F, fx_up X 1 G 47 4 [.ref 0] [.int a0] (ev_hp I J R T) cz kz = bif decide (a0 = (0 : Int32)) then G 47 10 [.ref 0] [] (ev_hp I J R T) cz kz else G 47 7 [.ref 0] [] (ev_hp I J R T) cz kz := by
  intro G
  rfl
set_option maxRecDepth 100000 in
theorem iq_r41  : ∀ G : ez_F, fx_up X 3 G 47 10 [.ref 0] [] (ev_hp I J R T) cz kz = ev_C G 112 [.ref 13] (ev_hp I J R T) fun r h1 c1 k1 => G 47 17 [.ref 0] (r.toList ++ []) h1 (cz + c1) (kz + k1) := by
  intro G
  rfl
set_option maxRecDepth 100000 in
theorem iq_r42  : ∀ G : ez_F, fx_up X 2 G 47 7 [.ref 0] [] (ev_hp I J R T) cz kz = some (some (.int (-6 : Int32)), (ev_hp I J R T), cz, kz) := by
  intro G
  rfl
theorem st_4 {v : Int32}
    (H : ((v = (0 : Int32) → (∃ Q1 : pw_Q, pe N X 112 [.ref 13] (ev_hp I J R T) Q1 ∧ ∀ (r : Option Value) (h1 : ez_H), Q1 r h1 → pw N X 47 17 [.ref 0] (r.toList ++ []) h1 Q)) ∧ (¬ (v = (0 : Int32)) → Q (some (.int (-6 : Int32))) (ev_hp I J R T)))) : pw (N + 1) X 47 4 [.ref 0] [.int v] (ev_hp I J R T) Q := by
  refine pw_if (by decide) (fun _ _ => iq_r40) (fun w1 => ?_) (fun w1 => ?_)
  · have h1 := H.1 w1
    obtain ⟨Q1, hc, hk⟩ := h1
    exact pw_p (pw_call (by decide) (fun _ _ => iq_r41) hc hk)
  · have h1 := H.2 w1
    exact pw_p (pw_ret (by decide) (fun _ _ => iq_r42) h1)
set_option maxRecDepth 100000 in
theorem iq_r43  : ∀ G : ez_F, fx_up X 3 G 47 17 [.ref 0] [] (ev_hp I J R T) cz kz = ev_C G 98 [.ref 31] (ev_hp I J R T) fun r h1 c1 k1 => G 47 24 [.ref 0] (r.toList ++ []) h1 (cz + c1) (kz + k1) := by
  intro G
  rfl
theorem st_17 
    (H : (∃ Q1 : pw_Q, pe N X 98 [.ref 31] (ev_hp I J R T) Q1 ∧ ∀ (r : Option Value) (h1 : ez_H), Q1 r h1 → pw N X 47 24 [.ref 0] (r.toList ++ []) h1 Q)) : pw (N + 1) X 47 17 [.ref 0] [] (ev_hp I J R T) Q := by
  obtain ⟨Q1, hc, hk⟩ := H
  exact pw_call (by decide) (fun _ _ => iq_r43) hc hk
set_option maxRecDepth 100000 in
theorem iq_r44 {a0 : Int32} : ∀ G : ez_F, fx_up X 1 G 47 24 [.ref 0] [.int a0] (ev_hp I J R T) cz kz = some (some (.int a0), (ev_hp I J R T), cz, kz) := by
  intro G
  rfl
theorem st_24 {v : Int32}
    (H : Q (some (.int v)) (ev_hp I J R T)) : pw (N + 1) X 47 24 [.ref 0] [.int v] (ev_hp I J R T) Q := by
  exact pw_ret (by decide) (fun _ _ => iq_r44) H
set_option maxRecDepth 100000 in
theorem iq_r45 {a0 : Int32} : ∀ G : ez_F, fx_up X 1 G 8 4 [.ref 0] [.int a0] (ev_hp I J R T) cz kz = bif decide (a0 = (0 : Int32)) then G 8 10 [.ref 0] [] (ev_hp I J R T) cz kz else G 8 7 [.ref 0] [] (ev_hp I J R T) cz kz := by
  intro G
  rfl
set_option maxRecDepth 100000 in
theorem iq_r46  : ∀ G : ez_F, fx_up X 3 G 8 10 [.ref 0] [] (ev_hp I J R T) cz kz = ev_C G 112 [.ref 13] (ev_hp I J R T) fun r h1 c1 k1 => G 8 17 [.ref 0] (r.toList ++ []) h1 (cz + c1) (kz + k1) := by
  intro G
  rfl
set_option maxRecDepth 100000 in
theorem iq_r47  : ∀ G : ez_F, fx_up X 2 G 8 7 [.ref 0] [] (ev_hp I J R T) cz kz = some (some (.int (-6 : Int32)), (ev_hp I J R T), cz, kz) := by
  intro G
  rfl
theorem bl_4 {v : Int32}
    (H : ((v = (0 : Int32) → (∃ Q1 : pw_Q, pe N X 112 [.ref 13] (ev_hp I J R T) Q1 ∧ ∀ (r : Option Value) (h1 : ez_H), Q1 r h1 → pw N X 8 17 [.ref 0] (r.toList ++ []) h1 Q)) ∧ (¬ (v = (0 : Int32)) → Q (some (.int (-6 : Int32))) (ev_hp I J R T)))) : pw (N + 1) X 8 4 [.ref 0] [.int v] (ev_hp I J R T) Q := by
  refine pw_if (by decide) (fun _ _ => iq_r45) (fun w1 => ?_) (fun w1 => ?_)
  · have h1 := H.1 w1
    obtain ⟨Q1, hc, hk⟩ := h1
    exact pw_p (pw_call (by decide) (fun _ _ => iq_r46) hc hk)
  · have h1 := H.2 w1
    exact pw_p (pw_ret (by decide) (fun _ _ => iq_r47) h1)
set_option maxRecDepth 100000 in
theorem iq_r48  : ∀ G : ez_F, fx_up X 3 G 8 17 [.ref 0] [] (ev_hp I J R T) cz kz = ev_C G 100 [.ref 31] (ev_hp I J R T) fun r h1 c1 k1 => G 8 24 [.ref 0] (r.toList ++ []) h1 (cz + c1) (kz + k1) := by
  intro G
  rfl
theorem bl_17 
    (H : (∃ Q1 : pw_Q, pe N X 100 [.ref 31] (ev_hp I J R T) Q1 ∧ ∀ (r : Option Value) (h1 : ez_H), Q1 r h1 → pw N X 8 24 [.ref 0] (r.toList ++ []) h1 Q)) : pw (N + 1) X 8 17 [.ref 0] [] (ev_hp I J R T) Q := by
  obtain ⟨Q1, hc, hk⟩ := H
  exact pw_call (by decide) (fun _ _ => iq_r48) hc hk
set_option maxRecDepth 100000 in
theorem iq_r49 {a0 : Int32} : ∀ G : ez_F, fx_up X 4 G 8 24 [.ref 0] [.int a0] (ev_hp I J R T) cz kz = bif decide (¬ a0 = (-1 : Int32)) then G 8 34 [.ref 0, .int a0] [] (ev_hp I J R T) cz kz else G 8 30 [.ref 0, .int a0] [] (ev_hp I J R T) cz kz := by
  intro G
  rfl
set_option maxRecDepth 100000 in
theorem iq_r50 {a0 : Int32} : ∀ G : ez_F, fx_up X 4 G 8 34 [.ref 0, .int a0] [] (ev_hp I J R T) cz kz = ev_C G 113 [.ref 13, .int a0] (ev_hp I J R T) fun r h1 c1 k1 => G 8 42 [.ref 0, .int a0] (r.toList ++ []) h1 (cz + c1) (kz + k1) := by
  intro G
  rfl
set_option maxRecDepth 100000 in
theorem iq_r51 {a0 : Int32} : ∀ G : ez_F, fx_up X 3 G 8 30 [.ref 0, .int a0] [] (ev_hp I J R T) cz kz = some (some (.int (-1 : Int32)), (ev_hp I J R T), cz, kz) := by
  intro G
  rfl
theorem bl_24 {v : Int32}
    (H : ((¬ v = (-1 : Int32) → (∃ Q1 : pw_Q, pe N X 113 [.ref 13, .int v] (ev_hp I J R T) Q1 ∧ ∀ (r : Option Value) (h1 : ez_H), Q1 r h1 → pw N X 8 42 [.ref 0, .int v] (r.toList ++ []) h1 Q)) ∧ (¬ (¬ v = (-1 : Int32)) → Q (some (.int (-1 : Int32))) (ev_hp I J R T)))) : pw (N + 1) X 8 24 [.ref 0] [.int v] (ev_hp I J R T) Q := by
  refine pw_if (by decide) (fun _ _ => iq_r49) (fun w1 => ?_) (fun w1 => ?_)
  · have h1 := H.1 w1
    obtain ⟨Q1, hc, hk⟩ := h1
    exact pw_p (pw_call (by decide) (fun _ _ => iq_r50) hc hk)
  · have h1 := H.2 w1
    exact pw_p (pw_ret (by decide) (fun _ _ => iq_r51) h1)
set_option maxRecDepth 100000 in
theorem iq_r52 {a0 : Int32} {a1 : Int64} : ∀ G : ez_F, fx_up X 1 G 8 42 [.ref 0, .int a0] [.long a1] (ev_hp I J R T) cz kz = ev_C G 237 [.long a1] (ev_hp I J R T) fun r h1 c1 k1 => G 8 45 [.ref 0, .int a0] (r.toList ++ []) h1 (cz + c1) (kz + k1) := by
  intro G
  rfl
set_option maxRecDepth 100000 in
theorem iq_r53 {a0 : Int32} {a1 : Int32} : ∀ G : ez_F, fx_up X 1 G 8 45 [.ref 0, .int a0] [.int a1] (ev_hp I J R T) cz kz = some (some (.int a1), (ev_hp I J R T), cz, kz) := by
  intro G
  rfl
theorem bl_42 {v : Int32} {z : Int64}
    (H : Q (some (.int (ev_bcJ z))) (ev_hp I J R T)) : pw (N + 1) X 8 42 [.ref 0, .int v] [.long z] (ev_hp I J R T) Q := by
  refine pw_callp (by decide) (fun _ _ => iq_r52) (pe_is (ec_bcJ _ _ _)) ?_
  exact pw_p (pw_ret (by decide) (fun _ _ => iq_r53) H)
set_option maxRecDepth 100000 in
theorem iq_r54 {a0 : Int32} : ∀ G : ez_F, fx_up X 1 G 9 4 [.ref 0] [.int a0] (ev_hp I J R T) cz kz = bif decide (a0 = (0 : Int32)) then G 9 10 [.ref 0] [] (ev_hp I J R T) cz kz else G 9 7 [.ref 0] [] (ev_hp I J R T) cz kz := by
  intro G
  rfl
set_option maxRecDepth 100000 in
theorem iq_r55  : ∀ G : ez_F, fx_up X 3 G 9 10 [.ref 0] [] (ev_hp I J R T) cz kz = ev_C G 112 [.ref 13] (ev_hp I J R T) fun r h1 c1 k1 => G 9 17 [.ref 0] (r.toList ++ []) h1 (cz + c1) (kz + k1) := by
  intro G
  rfl
set_option maxRecDepth 100000 in
theorem iq_r56  : ∀ G : ez_F, fx_up X 2 G 9 7 [.ref 0] [] (ev_hp I J R T) cz kz = some (some (.int (-6 : Int32)), (ev_hp I J R T), cz, kz) := by
  intro G
  rfl
theorem bd_4 {v : Int32}
    (H : ((v = (0 : Int32) → (∃ Q1 : pw_Q, pe N X 112 [.ref 13] (ev_hp I J R T) Q1 ∧ ∀ (r : Option Value) (h1 : ez_H), Q1 r h1 → pw N X 9 17 [.ref 0] (r.toList ++ []) h1 Q)) ∧ (¬ (v = (0 : Int32)) → Q (some (.int (-6 : Int32))) (ev_hp I J R T)))) : pw (N + 1) X 9 4 [.ref 0] [.int v] (ev_hp I J R T) Q := by
  refine pw_if (by decide) (fun _ _ => iq_r54) (fun w1 => ?_) (fun w1 => ?_)
  · have h1 := H.1 w1
    obtain ⟨Q1, hc, hk⟩ := h1
    exact pw_p (pw_call (by decide) (fun _ _ => iq_r55) hc hk)
  · have h1 := H.2 w1
    exact pw_p (pw_ret (by decide) (fun _ _ => iq_r56) h1)
set_option maxRecDepth 100000 in
theorem iq_r57  : ∀ G : ez_F, fx_up X 3 G 9 17 [.ref 0] [] (ev_hp I J R T) cz kz = ev_C G 100 [.ref 31] (ev_hp I J R T) fun r h1 c1 k1 => G 9 24 [.ref 0] (r.toList ++ []) h1 (cz + c1) (kz + k1) := by
  intro G
  rfl
theorem bd_17 
    (H : (∃ Q1 : pw_Q, pe N X 100 [.ref 31] (ev_hp I J R T) Q1 ∧ ∀ (r : Option Value) (h1 : ez_H), Q1 r h1 → pw N X 9 24 [.ref 0] (r.toList ++ []) h1 Q)) : pw (N + 1) X 9 17 [.ref 0] [] (ev_hp I J R T) Q := by
  obtain ⟨Q1, hc, hk⟩ := H
  exact pw_call (by decide) (fun _ _ => iq_r57) hc hk
set_option maxRecDepth 100000 in
theorem iq_r58 {a0 : Int32} : ∀ G : ez_F, fx_up X 4 G 9 24 [.ref 0] [.int a0] (ev_hp I J R T) cz kz = bif decide (¬ a0 = (-1 : Int32)) then G 9 34 [.ref 0, .int a0] [] (ev_hp I J R T) cz kz else G 9 30 [.ref 0, .int a0] [] (ev_hp I J R T) cz kz := by
  intro G
  rfl
set_option maxRecDepth 100000 in
theorem iq_r59 {a0 : Int32} : ∀ G : ez_F, fx_up X 4 G 9 34 [.ref 0, .int a0] [] (ev_hp I J R T) cz kz = ev_C G 103 [.ref 31, .int a0] (ev_hp I J R T) fun r h1 c1 k1 => G 9 42 [.ref 0, .int a0] (r.toList ++ []) h1 (cz + c1) (kz + k1) := by
  intro G
  rfl
set_option maxRecDepth 100000 in
theorem iq_r60 {a0 : Int32} : ∀ G : ez_F, fx_up X 3 G 9 30 [.ref 0, .int a0] [] (ev_hp I J R T) cz kz = some (some (.int (0 : Int32)), (ev_hp I J R T), cz, kz) := by
  intro G
  rfl
theorem bd_24 {v : Int32}
    (H : ((¬ v = (-1 : Int32) → (∃ Q1 : pw_Q, pe N X 103 [.ref 31, .int v] (ev_hp I J R T) Q1 ∧ ∀ (r : Option Value) (h1 : ez_H), Q1 r h1 → pw N X 9 42 [.ref 0, .int v] (r.toList ++ []) h1 Q)) ∧ (¬ (¬ v = (-1 : Int32)) → Q (some (.int (0 : Int32))) (ev_hp I J R T)))) : pw (N + 1) X 9 24 [.ref 0] [.int v] (ev_hp I J R T) Q := by
  refine pw_if (by decide) (fun _ _ => iq_r58) (fun w1 => ?_) (fun w1 => ?_)
  · have h1 := H.1 w1
    obtain ⟨Q1, hc, hk⟩ := h1
    exact pw_p (pw_call (by decide) (fun _ _ => iq_r59) hc hk)
  · have h1 := H.2 w1
    exact pw_p (pw_ret (by decide) (fun _ _ => iq_r60) h1)
set_option maxRecDepth 100000 in
theorem iq_r61 {a0 : Int32} {a1 : Int32} : ∀ G : ez_F, fx_up X 1 G 9 42 [.ref 0, .int a0] [.int a1] (ev_hp I J R T) cz kz = some (some (.int a1), (ev_hp I J R T), cz, kz) := by
  intro G
  rfl
theorem bd_42 {u v : Int32}
    (H : Q (some (.int u)) (ev_hp I J R T)) : pw (N + 1) X 9 42 [.ref 0, .int v] [.int u] (ev_hp I J R T) Q := by
  exact pw_ret (by decide) (fun _ _ => iq_r61) H
end
/-! the fewest, and the first of them -/
def lwF (p : Nat → Nat) : Nat → Nat
  | 0 => 31
  | k + 1 => if p k < lwF p k then p k else lwF p k
def lwI (p : Nat → Nat) : Nat → Nat
  | 0 => 0
  | k + 1 => if p k < lwF p k then k else lwI p k
def lwV (p : Nat → Nat) (k : Nat) : Int32 := if k = 0 then -1 else Int32.ofNat (lwI p k)
theorem lwF_le (p : Nat → Nat) : ∀ k, lwF p k ≤ 31 ∧ ∀ j, j < k → lwF p k ≤ p j := by
  intro k
  induction k with
  | zero => exact ⟨Nat.le_refl _, fun j hj => absurd hj (by omega)⟩
  | succ k ih =>
    unfold lwF
    refine ⟨?_, fun j hj => ?_⟩
    · split
      · have := ih.1
        omega
      · exact ih.1
    · by_cases e : j = k
      · subst e
        split <;> omega
      · have := ih.2 j (by omega)
        split <;> omega
theorem lwI_is {p : Nat → Nat} : ∀ k, 0 < k → (∀ j, j < k → p j ≤ 30) → lwI p k < k ∧ p (lwI p k) = lwF p k ∧ ∀ j, j < lwI p k → lwF p k < p j := by
  intro k
  induction k with
  | zero => intro h; omega
  | succ k ih =>
    intro _ hp
    have hF : lwF p (k + 1) = if p k < lwF p k then p k else lwF p k := rfl
    have hI : lwI p (k + 1) = if p k < lwF p k then k else lwI p k := rfl
    rw [hF, hI]
    by_cases hk : k = 0
    · subst hk
      have : p 0 < lwF p 0 := by
        have := hp 0 (by omega)
        show p 0 < 31
        omega
      rw [if_pos this, if_pos this]
      exact ⟨by omega, rfl, fun j hj => absurd hj (by omega)⟩
    · obtain ⟨h1, h2, h3⟩ := ih (by omega) fun j hj => hp j (by omega)
      have h4 := (lwF_le p k).2
      by_cases h : p k < lwF p k
      · rw [if_pos h, if_pos h]
        refine ⟨by omega, rfl, fun j hj => ?_⟩
        have := h4 j hj
        omega
      · rw [if_neg h, if_neg h]
        exact ⟨by omega, h2, h3⟩
def wqF (w : Nat → Bool) : Nat → Int32
  | 0 => 0
  | c + 1 => if w c = true then wqF w c ||| ((1 : Int32) <<< (Int32.ofNat c &&& (31 : Int32))) else wqF w c
/-- the first of them; n where there is none -/
def ff (p : Nat → Bool) : Nat → Nat
  | 0 => 0
  | c + 1 => if ff p c < c then ff p c else if p c = true then c else c + 1
theorem ff_is (p : Nat → Bool) : ∀ n, ff p n ≤ n ∧ (∀ c, c < ff p n → p c = false) ∧ (ff p n < n → p (ff p n) = true) := by
  intro n
  induction n with
  | zero => exact ⟨Nat.le_refl _, fun c hc => absurd hc (Nat.not_lt_zero c), fun h => absurd h (Nat.lt_irrefl 0)⟩
  | succ n ih =>
    obtain ⟨h1, h2, h3⟩ := ih
    unfold ff
    by_cases h : ff p n < n
    · rw [if_pos h]
      exact ⟨by omega, h2, fun _ => h3 h⟩
    · have e : ff p n = n := by omega
      rw [if_neg h]
      rw [e] at h2
      cases hp : p n
      · rw [if_neg (by decide)]
        refine ⟨Nat.le_refl _, fun c hc => ?_, fun z => absurd z (Nat.lt_irrefl _)⟩
        by_cases ec : c = n
        · rw [ec]
          exact hp
        · exact h2 c (by omega)
      · rw [if_pos rfl]
        exact ⟨by omega, h2, fun _ => hp⟩
/-- the furthest of the first -/
def mxF (f : Nat → Nat) : Nat → Nat
  | 0 => 0
  | k + 1 => if mxF f k < f k then f k else mxF f k
theorem mxF_is (f : Nat → Nat) : ∀ k, (∀ j, j < k → f j ≤ mxF f k) ∧ (∀ m, (∀ j, j < k → f j ≤ m) → mxF f k ≤ m) := by
  intro k
  induction k with
  | zero => exact ⟨fun j hj => absurd hj (by omega), fun m _ => Nat.zero_le m⟩
  | succ k ih =>
    unfold mxF
    refine ⟨fun j hj => ?_, fun m hm => ?_⟩
    · by_cases e : j = k
      · subst e
        split <;> omega
      · have := ih.1 j (by omega)
        split <;> omega
    · have h1 := ih.2 m fun j hj => hm j (by omega)
      have h2 := hm k (by omega)
      split <;> omega
section
variable {N : Nat} {X : ez_X} {I : Nat → Nat → Int32} {J : Nat → Nat → Int64} {R : Nat → Nat} {T : List ez_C} {x : Int32} {g : Nat → Int64} {n l : Nat}
theorem pe_leastWrong {p : Nat → Nat} (r1 : rowJ (R 1) T n g) (hl : l ≤ n) (hn : n ≤ 10000) (e63 : I 6 3 = Int32.ofNat l) (hp : ∀ k, k < l → pcJ (wrB (J 8 2) (J 8 3) (g k)) = p k) (hp30 : ∀ k, k < l → p k ≤ 30) : pe N X 100 [.ref 31] (ev_hp I J R T) (fun r h => r = some (.int (lwV p l)) ∧ h = ev_hp I J R T) := by
  have loop : ∀ (d k : Nat), k + d = l → ∀ N, pw N X 100 16 [.ref 31, .int (Int32.ofNat l), .int (lwV p k), .int (Int32.ofNat (lwF p k)), .int (Int32.ofNat k)] [] (ev_hp I J R T) (fun r h => r = some (.int (lwV p l)) ∧ h = ev_hp I J R T) := by
    intro d
    induction d with
    | zero =>
      intro k hk N
      obtain rfl : k = l := by omega
      exact pw_p (lw_16 ⟨fun _ => ⟨rfl, rfl⟩, fun g => absurd (Int32.le_refl _) g⟩)
    | succ d ih =>
      intro k hkd N
      have hk : k < l := by omega
      have h5 := ih (k + 1) (by omega) N
      have hF : lwF p (k + 1) = if p k < lwF p k then p k else lwF p k := rfl
      have hI : lwI p (k + 1) = if p k < lwF p k then k else lwI p k := rfl
      have h31 := (lwF_le p k).1
      have h30 := hp30 k hk
      refine pw_p (lw_16 ⟨fun g => ?_, fun _ => ⟨_, pe_wrongs r1 hn (by omega) rfl, ?_⟩⟩)
      · rw [io_le (by omega) (by omega)] at g
        omega
      rintro r h ⟨rfl, rfl⟩
      refine pw_p (lw_31 ?_)
      rw [pcJ_bc, hp k hk, io_1, io_le (by omega) (by omega)]
      refine ⟨fun g => ?_, fun g => ?_⟩
      · have hk0 : ¬ k = 0 := fun z => by
          subst z
          have : lwF p 0 = 31 := rfl
          omega
        unfold lwV at h5 ⊢
        rw [if_neg (by omega), hF, hI, if_neg (by omega), if_neg (by omega)] at h5
        rw [if_neg hk0]
        exact h5
      · unfold lwV at h5
        rw [if_neg (by omega), hF, hI, if_pos (by omega), if_pos (by omega)] at h5
        exact h5
  refine pe_of (pw_p (lw_0 ?_))
  rw [e63]
  exact loop l 0 (by omega) N
theorem pe_wrongCalls {k : Nat} (r1 : rowJ (R 1) T n g) (hn : n ≤ 10000) (hk : k < n) (hx : x = Int32.ofNat k) : pe N X 103 [.ref 31, .int x] (ev_hp I J R T) (fun r h => r = some (.int (wqF (fun c => kb (wrB (J 8 2) (J 8 3) (g k)) (2 * c)) 30)) ∧ h = ev_hp I J R T) := by
  have loop : ∀ (d c : Nat), c + d = 30 → ∀ N, pw N X 103 15 [.ref 31, .int x, .long (wrB (J 8 2) (J 8 3) (g k)), ez_fill, .int (wqF (fun c => kb (wrB (J 8 2) (J 8 3) (g k)) (2 * c)) c), .int (Int32.ofNat c)] [] (ev_hp I J R T) (fun r h => r = some (.int (wqF (fun c => kb (wrB (J 8 2) (J 8 3) (g k)) (2 * c)) 30)) ∧ h = ev_hp I J R T) := by
    intro d
    induction d with
    | zero =>
      intro c hc N
      obtain rfl : c = 30 := by omega
      exact pw_p (wq_15 ⟨fun _ => ⟨rfl, rfl⟩, fun g => absurd (by decide) g⟩)
    | succ d ih =>
      intro c hcd N
      have e : wqF (fun c => kb (wrB (J 8 2) (J 8 3) (g k)) (2 * c)) (c + 1) = if kb (wrB (J 8 2) (J 8 3) (g k)) (2 * c) = true then wqF (fun c => kb (wrB (J 8 2) (J 8 3) (g k)) (2 * c)) c ||| ((1 : Int32) <<< (Int32.ofNat c &&& (31 : Int32))) else wqF (fun c => kb (wrB (J 8 2) (J 8 3) (g k)) (2 * c)) c := rfl
      have h5 := ih (c + 1) (by omega) N
      rw [e] at h5
      have hkn := td_known (wrB (J 8 2) (J 8 3) (g k)) (c := c) (by omega)
      refine pw_p (wq_15 ?_)
      rw [io_1]
      refine ⟨fun g => ?_, fun _ => ⟨fun g2 => ?_, fun g2 => ?_⟩⟩
      · rw [show (30 : Int32) = Int32.ofNat 30 from rfl, io_le (by omega) (by omega)] at g
        omega
      · have hf := hkn.mp g2
        rw [if_neg (by rw [hf]; decide)] at h5
        exact h5
      · have hf : kb (wrB (J 8 2) (J 8 3) (g k)) (2 * c) = true := by
          cases hb : kb (wrB (J 8 2) (J 8 3) (g k)) (2 * c)
          · exact absurd (hkn.mpr hb) g2
          · rfl
        rw [if_pos hf] at h5
        exact h5
  refine pe_of (pw_p (wq_0 ⟨_, pe_wrongs r1 hn hk hx, ?_⟩))
  rintro r h ⟨rfl, rfl⟩
  exact pw_p (wq_8 (loop 30 0 (by omega) _))
theorem pe_someIsTrue {p : Nat → Nat} (r1 : rowJ (R 1) T n g) (hl : l ≤ n) (hn : n ≤ 10000) (e63 : I 6 3 = Int32.ofNat l) (hp : ∀ k, k < l → pcJ (wrB (J 8 2) (J 8 3) (g k)) = p k) (hp30 : ∀ k, k < l → p k ≤ 30) : pe N X 102 [.ref 31] (ev_hp I J R T) (fun r h => (r = some (.int 0) ∨ r = some (.int 1)) ∧ h = ev_hp I J R T) := by
  refine pe_of (pw_p (sw_0 ⟨_, pe_leastWrong r1 hl hn e63 hp hp30, ?_⟩))
  rintro r h ⟨rfl, rfl⟩
  refine pw_p (sw_4 ⟨fun _ _ => ⟨Or.inl rfl, rfl⟩, fun g => ?_⟩)
  by_cases hl0 : l = 0
  · exact absurd (show lwV p l = -1 by unfold lwV; rw [if_pos hl0]) g
  · have hi := lwI_is (p := p) l (by omega) hp30
    refine ⟨_, pe_wrongs (k := lwI p l) r1 hn (by omega) (by unfold lwV; rw [if_neg hl0]), ?_⟩
    rintro r h ⟨rfl, rfl⟩
    exact pw_p (sw_18 ⟨fun _ _ => ⟨Or.inl rfl, rfl⟩, fun _ _ => ⟨Or.inr rfl, rfl⟩⟩)
/-- the first call of a set of bits -/
theorem pe_firstCall {z : Int64} {c : Nat} (hj : kb z (2 * c) = true) (h0 : ∀ i, i < 2 * c → kb z i = false) (hc : c < 32) : pe N X 97 [.long z] (ev_hp I J R T) (fun r h => r = some (.int (Int32.ofNat c)) ∧ h = ev_hp I J R T) := by
  refine pe_of (pw_p (fq_0 ⟨_, pe_ntz hj h0 (by omega), ?_⟩))
  rintro r h ⟨rfl, rfl⟩
  refine pw_p (fq_4 ⟨?_, rfl⟩)
  have key : ∀ c, c < 32 → (Int32.ofNat (2 * c)) >>> ((1 : Int32) &&& (31 : Int32)) = Int32.ofNat c := by decide
  rw [key c hc]
end
