/-! The switch: what its search leaves alone. -/
section
variable {N : Nat} {X : ez_X} {I : Nat → Nat → Int32} {J : Nat → Nat → Int64} {R : Nat → Nat} {T : List ez_C} {Q : pw_Q} {cz kz : Nat}
set_option maxRecDepth 100000 in
theorem sy_r0 {a0 : Int64} : ∀ G : ez_F, fx_up X 3 G 99 0 [.long a0, ez_fill] [] (ev_hp I J R T) cz kz = ev_C G 238 [.long a0] (ev_hp I J R T) fun r h1 c1 k1 => G 99 6 [.long a0, ez_fill] (r.toList ++ [.int (63 : Int32)]) h1 (cz + c1) (kz + k1) := by
  intro G
  rfl
theorem lc_0 {z : Int64}
    (H : (∃ Q1 : pw_Q, pe N X 238 [.long z] (ev_hp I J R T) Q1 ∧ ∀ (r : Option Value) (h1 : ez_H), Q1 r h1 → pw N X 99 6 [.long z, ez_fill] (r.toList ++ [.int (63 : Int32)]) h1 Q)) : pw (N + 1) X 99 0 [.long z, ez_fill] [] (ev_hp I J R T) Q := by
  obtain ⟨Q1, hc, hk⟩ := H
  exact pw_call (by decide) (fun _ _ => sy_r0) hc hk
set_option maxRecDepth 100000 in
theorem sy_r1 {a0 : Int64} {a1 : Int32} {a2 : Int32} : ∀ G : ez_F, fx_up X 4 G 99 6 [.long a0, ez_fill] [.int a1, .int a2] (ev_hp I J R T) cz kz = some (some (.int ((a2 - a1) >>> ((1 : Int32) &&& (31 : Int32)))), (ev_hp I J R T), cz, kz) := by
  intro G
  rfl
theorem lc_6 {v : Int32} {z : Int64}
    (H : Q (some (.int (((63 : Int32) - v) >>> ((1 : Int32) &&& (31 : Int32))))) (ev_hp I J R T)) : pw (N + 1) X 99 6 [.long z, ez_fill] [.int v, .int (63 : Int32)] (ev_hp I J R T) Q := by
  exact pw_ret (by decide) (fun _ _ => sy_r1) H
set_option maxRecDepth 100000 in
theorem sy_r2 {a0 : Int32} {a1 : Int32} {a2 : Int32} {a3 : Int32} : ∀ G : ez_F, fx_up X 12 G 96 0 [.ref 31, .int a0, .int a1, .int a2, .int a3] [] (ev_hp I J R T) cz kz = ev_C G 138 [.ref 6, .int a0] (ev_hp I J R T) fun r h1 c1 k1 => G 96 20 [.ref 31, .int a0, .int a1, .int a2, .int a3, .int ((511 : Int32) <<< (((9 : Int32) * ((2 : Int32) - a1)) &&& (31 : Int32)))] (r.toList ++ []) h1 (cz + c1) (kz + k1) := by
  intro G
  rfl
theorem cy_0 {a s c l : Int32}
    (H : (∃ Q1 : pw_Q, pe N X 138 [.ref 6, .int a] (ev_hp I J R T) Q1 ∧ ∀ (r : Option Value) (h1 : ez_H), Q1 r h1 → pw N X 96 20 [.ref 31, .int a, .int s, .int c, .int l, .int ((511 : Int32) <<< (((9 : Int32) * ((2 : Int32) - s)) &&& (31 : Int32)))] (r.toList ++ []) h1 Q)) : pw (N + 1) X 96 0 [.ref 31, .int a, .int s, .int c, .int l] [] (ev_hp I J R T) Q := by
  obtain ⟨Q1, hc, hk⟩ := H
  exact pw_call (by decide) (fun _ _ => sy_r2) hc hk
set_option maxRecDepth 100000 in
theorem sy_r3 {a0 : Int32} {a1 : Int32} {a2 : Int32} {a3 : Int32} {a4 : Int32} {a5 : Int32} : ∀ G : ez_F, fx_up X 3 G 96 20 [.ref 31, .int a0, .int a1, .int a2, .int a3, .int a4] [.int a5] (ev_hp I J R T) cz kz = G 96 25 [.ref 31, .int a0, .int a1, .int a2, .int a3, .int a4, .int a5, .int (0 : Int32)] [] (ev_hp I J R T) cz kz := by
  intro G
  rfl
theorem cy_20 {a s c l p v : Int32}
    (H : pw N X 96 25 [.ref 31, .int a, .int s, .int c, .int l, .int p, .int v, .int (0 : Int32)] [] (ev_hp I J R T) Q) : pw (N + 1) X 96 20 [.ref 31, .int a, .int s, .int c, .int l, .int p] [.int v] (ev_hp I J R T) Q := by
  refine pw_seg (by decide) (fun _ _ => sy_r3) ?_
  exact H
set_option maxRecDepth 100000 in
theorem sy_r4 {a0 : Int32} {a1 : Int32} {a2 : Int32} {a3 : Int32} {a4 : Int32} {a5 : Int32} {a6 : Int32} : ∀ G : ez_F, fx_up X 3 G 96 25 [.ref 31, .int a0, .int a1, .int a2, .int a3, .int a4, .int a5, .int a6] [] (ev_hp I J R T) cz kz = bif decide (a3 ≤ a6) then G 96 97 [.ref 31, .int a0, .int a1, .int a2, .int a3, .int a4, .int a5, .int a6] [] (ev_hp I J R T) cz kz else G 96 32 [.ref 31, .int a0, .int a1, .int a2, .int a3, .int a4, .int a5, .int a6] [] (ev_hp I J R T) cz kz := by
  intro G
  rfl
set_option maxRecDepth 100000 in
theorem sy_r5 {a0 : Int32} {a1 : Int32} {a2 : Int32} {a3 : Int32} {a4 : Int32} {a5 : Int32} {a6 : Int32} : ∀ G : ez_F, fx_up X 1 G 96 97 [.ref 31, .int a0, .int a1, .int a2, .int a3, .int a4, .int a5, .int a6] [] (ev_hp I J R T) cz kz = G 96 98 [.ref 31, .int a0, .int a1, .int a2, .int a3, .int a4, .int a5, .int a6] [.int (0 : Int32)] (ev_hp I J R T) cz kz := by
  intro G
  rfl
set_option maxRecDepth 100000 in
theorem sy_r6 {a0 : Int32} {a1 : Int32} {a2 : Int32} {a3 : Int32} {a4 : Int32} {a5 : Int32} {a6 : Int32} : ∀ G : ez_F, fx_up X 5 G 96 32 [.ref 31, .int a0, .int a1, .int a2, .int a3, .int a4, .int a5, .int a6] [] (ev_hp I J R T) cz kz = ev_C G 138 [.ref 6, .int a6] (ev_hp I J R T) fun r h1 c1 k1 => G 96 43 [.ref 31, .int a0, .int a1, .int a2, .int a3, .int a4, .int a5, .int a6] (r.toList ++ [.int a5]) h1 (cz + c1) (kz + k1) := by
  intro G
  rfl
theorem cy_25 {a s c l p q j : Int32}
    (H : ((l ≤ j → ((0 : Int32) = 0 ∨ (0 : Int32) = 1 → Q (some (.int (0 : Int32))) (ev_hp I J R T))) ∧ (¬ (l ≤ j) → (∃ Q1 : pw_Q, pe N X 138 [.ref 6, .int j] (ev_hp I J R T) Q1 ∧ ∀ (r : Option Value) (h1 : ez_H), Q1 r h1 → pw N X 96 43 [.ref 31, .int a, .int s, .int c, .int l, .int p, .int q, .int j] (r.toList ++ [.int q]) h1 Q)))) : pw (N + 1) X 96 25 [.ref 31, .int a, .int s, .int c, .int l, .int p, .int q, .int j] [] (ev_hp I J R T) Q := by
  refine pw_if (by decide) (fun _ _ => sy_r4) (fun w1 => ?_) (fun w1 => ?_)
  · have h1 := H.1 w1
    refine pw_p (pw_seg (by decide) (fun _ _ => sy_r5) ?_)
    exact pw_p (pw_zret (by rfl) h1)
  · have h1 := H.2 w1
    obtain ⟨Q1, hc, hk⟩ := h1
    exact pw_p (pw_call (by decide) (fun _ _ => sy_r6) hc hk)
set_option maxRecDepth 100000 in
theorem sy_r7 {a0 : Int32} {a1 : Int32} {a2 : Int32} {a3 : Int32} {a4 : Int32} {a5 : Int32} {a6 : Int32} {a7 : Int32} {a8 : Int32} : ∀ G : ez_F, fx_up X 4 G 96 43 [.ref 31, .int a0, .int a1, .int a2, .int a3, .int a4, .int a5, .int a6] [.int a7, .int a8] (ev_hp I J R T) cz kz = bif decide ((a8 ^^^ a7) = (0 : Int32)) then G 96 65 [.ref 31, .int a0, .int a1, .int a2, .int a3, .int a4, .int a5, .int a6, .int (a8 ^^^ a7)] [] (ev_hp I J R T) cz kz else G 96 51 [.ref 31, .int a0, .int a1, .int a2, .int a3, .int a4, .int a5, .int a6, .int (a8 ^^^ a7)] [] (ev_hp I J R T) cz kz := by
  intro G
  rfl
set_option maxRecDepth 100000 in
theorem sy_r8 {a0 : Int32} {a1 : Int32} {a2 : Int32} {a3 : Int32} {a4 : Int32} {a5 : Int32} {a6 : Int32} {a7 : Int32} : ∀ G : ez_F, fx_up X 4 G 96 65 [.ref 31, .int a0, .int a1, .int a2, .int a3, .int a4, .int a5, .int a6, .int a7] [] (ev_hp I J R T) cz kz = bif decide ((0 : Int32) = (0 : Int32)) then G 96 91 [.ref 31, .int a0, .int a1, .int a2, .int a3, .int a4, .int a5, .int a6, .int a7, .int (0 : Int32)] [] (ev_hp I J R T) cz kz else G 96 73 [.ref 31, .int a0, .int a1, .int a2, .int a3, .int a4, .int a5, .int a6, .int a7, .int (0 : Int32)] [] (ev_hp I J R T) cz kz := by
  intro G
  rfl
set_option maxRecDepth 100000 in
theorem sy_r9 {a0 : Int32} {a1 : Int32} {a2 : Int32} {a3 : Int32} {a4 : Int32} {a5 : Int32} {a6 : Int32} {a7 : Int32} {a8 : Int32} : ∀ G : ez_F, fx_up X 2 G 96 91 [.ref 31, .int a0, .int a1, .int a2, .int a3, .int a4, .int a5, .int a6, .int a7, .int a8] [] (ev_hp I J R T) cz kz = G 96 25 [.ref 31, .int a0, .int a1, .int a2, .int a3, .int a4, .int a5, .int (a6 + (1 : Int32)), .int a7, .int a8] [] (ev_hp I J R T) cz kz := by
  intro G
  rfl
set_option maxRecDepth 100000 in
theorem sy_r10 {a0 : Int32} {a1 : Int32} {a2 : Int32} {a3 : Int32} {a4 : Int32} {a5 : Int32} {a6 : Int32} {a7 : Int32} : ∀ G : ez_F, fx_up X 6 G 96 51 [.ref 31, .int a0, .int a1, .int a2, .int a3, .int a4, .int a5, .int a6, .int a7] [] (ev_hp I J R T) cz kz = bif decide (¬ (a7 &&& (a4 ^^^ (-1 : Int32))) = (0 : Int32)) then G 96 65 [.ref 31, .int a0, .int a1, .int a2, .int a3, .int a4, .int a5, .int a6, .int a7] [] (ev_hp I J R T) cz kz else G 96 61 [.ref 31, .int a0, .int a1, .int a2, .int a3, .int a4, .int a5, .int a6, .int a7] [] (ev_hp I J R T) cz kz := by
  intro G
  rfl
set_option maxRecDepth 100000 in
theorem sy_r11 {a0 : Int32} {a1 : Int32} {a2 : Int32} {a3 : Int32} {a4 : Int32} {a5 : Int32} {a6 : Int32} {a7 : Int32} : ∀ G : ez_F, fx_up X 5 G 96 61 [.ref 31, .int a0, .int a1, .int a2, .int a3, .int a4, .int a5, .int a6, .int a7] [] (ev_hp I J R T) cz kz = bif decide ((1 : Int32) = (0 : Int32)) then G 96 91 [.ref 31, .int a0, .int a1, .int a2, .int a3, .int a4, .int a5, .int a6, .int a7, .int (1 : Int32)] [] (ev_hp I J R T) cz kz else G 96 73 [.ref 31, .int a0, .int a1, .int a2, .int a3, .int a4, .int a5, .int a6, .int a7, .int (1 : Int32)] [] (ev_hp I J R T) cz kz := by
  intro G
  rfl
set_option maxRecDepth 100000 in
theorem sy_r12 {a0 : Int32} {a1 : Int32} {a2 : Int32} {a3 : Int32} {a4 : Int32} {a5 : Int32} {a6 : Int32} {a7 : Int32} {a8 : Int32} : ∀ G : ez_F, fx_up X 4 G 96 73 [.ref 31, .int a0, .int a1, .int a2, .int a3, .int a4, .int a5, .int a6, .int a7, .int a8] [] (ev_hp I J R T) cz kz = ev_C G 113 [.ref 13, .int a6] (ev_hp I J R T) fun r h1 c1 k1 => G 96 82 [.ref 31, .int a0, .int a1, .int a2, .int a3, .int a4, .int a5, .int a6, .int a7, .int a8] (r.toList ++ []) h1 (cz + c1) (kz + k1) := by
  intro G
  rfl
theorem cy_43 {a s c l p q j v : Int32}
    (H : (((q ^^^ v) = (0 : Int32) → pw N X 96 25 [.ref 31, .int a, .int s, .int c, .int l, .int p, .int q, .int (j + (1 : Int32))] [] (ev_hp I J R T) Q) ∧ (¬ ((q ^^^ v) = (0 : Int32)) → ((¬ ((q ^^^ v) &&& (p ^^^ (-1 : Int32))) = (0 : Int32) → pw N X 96 25 [.ref 31, .int a, .int s, .int c, .int l, .int p, .int q, .int (j + (1 : Int32))] [] (ev_hp I J R T) Q) ∧ (¬ (¬ ((q ^^^ v) &&& (p ^^^ (-1 : Int32))) = (0 : Int32)) → (∃ Q1 : pw_Q, pe N X 113 [.ref 13, .int j] (ev_hp I J R T) Q1 ∧ ∀ (r : Option Value) (h1 : ez_H), Q1 r h1 → pw N X 96 82 [.ref 31, .int a, .int s, .int c, .int l, .int p, .int q, .int j, .int (q ^^^ v), .int (1 : Int32)] (r.toList ++ []) h1 Q)))))) : pw (N + 1) X 96 43 [.ref 31, .int a, .int s, .int c, .int l, .int p, .int q, .int j] [.int v, .int q] (ev_hp I J R T) Q := by
  refine pw_if (by decide) (fun _ _ => sy_r7) (fun w1 => ?_) (fun w1 => ?_)
  · have h1 := H.1 w1
    refine pw_p (pw_if (by decide) (fun _ _ => sy_r8) (fun w2 => ?_) (fun w2 => ?_))
    rotate_left
    · exact absurd (by decide) w2
    refine pw_p (pw_seg (by decide) (fun _ _ => sy_r9) ?_)
    refine pw_cutl (by rfl) ?_
    exact h1
  · have h1 := H.2 w1
    refine pw_p (pw_if (by decide) (fun _ _ => sy_r10) (fun w2 => ?_) (fun w2 => ?_))
    · have h2 := h1.1 w2
      refine pw_p (pw_if (by decide) (fun _ _ => sy_r8) (fun w3 => ?_) (fun w3 => ?_))
      rotate_left
      · exact absurd (by decide) w3
      refine pw_p (pw_seg (by decide) (fun _ _ => sy_r9) ?_)
      refine pw_cutl (by rfl) ?_
      exact h2
    · have h2 := h1.2 w2
      refine pw_p (pw_if (by decide) (fun _ _ => sy_r11) (fun w3 => ?_) (fun w3 => ?_))
      · exact absurd w3 (by decide)
      obtain ⟨Q1, hc, hk⟩ := h2
      exact pw_p (pw_call (by decide) (fun _ _ => sy_r12) hc hk)
set_option maxRecDepth 100000 in
theorem sy_r13 {a0 : Int32} {a1 : Int32} {a2 : Int32} {a3 : Int32} {a4 : Int32} {a5 : Int32} {a6 : Int32} {a7 : Int32} {a8 : Int32} {a9 : Int64} : ∀ G : ez_F, fx_up X 1 G 96 82 [.ref 31, .int a0, .int a1, .int a2, .int a3, .int a4, .int a5, .int a6, .int a7, .int a8] [.long a9] (ev_hp I J R T) cz kz = ev_C G 97 [.long a9] (ev_hp I J R T) fun r h1 c1 k1 => G 96 85 [.ref 31, .int a0, .int a1, .int a2, .int a3, .int a4, .int a5, .int a6, .int a7, .int a8] (r.toList ++ []) h1 (cz + c1) (kz + k1) := by
  intro G
  rfl
theorem cy_82 {a s c l p q j u e : Int32} {z : Int64}
    (H : (∃ Q1 : pw_Q, pe N X 97 [.long z] (ev_hp I J R T) Q1 ∧ ∀ (r : Option Value) (h1 : ez_H), Q1 r h1 → pw N X 96 85 [.ref 31, .int a, .int s, .int c, .int l, .int p, .int q, .int j, .int u, .int e] (r.toList ++ []) h1 Q)) : pw (N + 1) X 96 82 [.ref 31, .int a, .int s, .int c, .int l, .int p, .int q, .int j, .int u, .int e] [.long z] (ev_hp I J R T) Q := by
  obtain ⟨Q1, hc, hk⟩ := H
  exact pw_call (by decide) (fun _ _ => sy_r13) hc hk
set_option maxRecDepth 100000 in
theorem sy_r14  : ∀ G : ez_F, fx_up X 3 G 101 0 [.ref 31] [] (ev_hp I J R T) cz kz = G 101 7 [.ref 31] [.int (I 6 3)] (ev_hp I J R T) cz kz := by
  intro G
  rfl
set_option maxRecDepth 100000 in
theorem sy_r15 {a0 : Int32} : ∀ G : ez_F, fx_up X 4 G 101 7 [.ref 31] [.int a0] (ev_hp I J R T) cz kz = G 101 13 [.ref 31, .int a0] [] (ev_hp (ev_sI I 31 (upd (I 31) 4 (-1 : Int32))) J R T) cz kz := by
  intro G
  rfl
set_option maxRecDepth 100000 in
theorem sy_r16 {a0 : Int32} : ∀ G : ez_F, fx_up X 3 G 101 13 [.ref 31, .int a0] [] (ev_hp I J R T) cz kz = G 101 18 [.ref 31, .int a0] [] (ev_hp (ev_sI I 31 (upd (I 31) 5 (-1 : Int32))) J R T) cz kz := by
  intro G
  rfl
set_option maxRecDepth 100000 in
theorem sy_r17 {a0 : Int32} : ∀ G : ez_F, fx_up X 2 G 101 18 [.ref 31, .int a0] [] (ev_hp I J R T) cz kz = G 101 20 [.ref 31, .int a0, .int (0 : Int32)] [] (ev_hp I J R T) cz kz := by
  intro G
  rfl
theorem sj_0 
    (H : pw N X 101 20 [.ref 31, .int (I 6 3), .int (0 : Int32)] [] (ev_hp (ev_sI (ev_sI I 31 (upd (I 31) 4 (-1 : Int32))) 31 (upd (upd (I 31) 4 (-1 : Int32)) 5 (-1 : Int32))) J R T) Q) : pw (N + 1) X 101 0 [.ref 31] [] (ev_hp I J R T) Q := by
  refine pw_seg (by decide) (fun _ _ => sy_r14) ?_
  refine pw_p (pw_seg (by decide) (fun _ _ => sy_r15) ?_)
  refine pw_p (pw_seg (by decide) (fun _ _ => sy_r16) ?_)
  refine pw_p (pw_seg (by decide) (fun _ _ => sy_r17) ?_)
  exact H
set_option maxRecDepth 100000 in
theorem sy_r18 {a0 : Int32} {a1 : Int32} : ∀ G : ez_F, fx_up X 4 G 101 20 [.ref 31, .int a0, .int a1] [] (ev_hp I J R T) cz kz = G 101 28 [.ref 31, .int a0, .int a1] [.int (I 3 3), .int a1] (ev_hp I J R T) cz kz := by
  intro G
  rfl
set_option maxRecDepth 100000 in
theorem sy_r19 {a0 : Int32} {a1 : Int32} {a2 : Int32} {a3 : Int32} : ∀ G : ez_F, fx_up X 1 G 101 28 [.ref 31, .int a0, .int a1] [.int a2, .int a3] (ev_hp I J R T) cz kz = bif decide (a2 ≤ a3) then G 101 117 [.ref 31, .int a0, .int a1] [] (ev_hp I J R T) cz kz else G 101 31 [.ref 31, .int a0, .int a1] [] (ev_hp I J R T) cz kz := by
  intro G
  rfl
set_option maxRecDepth 100000 in
theorem sy_r20 {a0 : Int32} {a1 : Int32} : ∀ G : ez_F, fx_up X 1 G 101 117 [.ref 31, .int a0, .int a1] [] (ev_hp I J R T) cz kz = some (none, (ev_hp I J R T), cz, kz) := by
  intro G
  rfl
set_option maxRecDepth 100000 in
theorem sy_r21 {a0 : Int32} {a1 : Int32} : ∀ G : ez_F, fx_up X 2 G 101 31 [.ref 31, .int a0, .int a1] [] (ev_hp I J R T) cz kz = G 101 33 [.ref 31, .int a0, .int a1, .int (0 : Int32)] [] (ev_hp I J R T) cz kz := by
  intro G
  rfl
theorem sj_20 {l s : Int32}
    (H : (((I 3 3) ≤ s → Q none (ev_hp I J R T)) ∧ (¬ ((I 3 3) ≤ s) → pw N X 101 33 [.ref 31, .int l, .int s, .int (0 : Int32)] [] (ev_hp I J R T) Q))) : pw (N + 1) X 101 20 [.ref 31, .int l, .int s] [] (ev_hp I J R T) Q := by
  refine pw_seg (by decide) (fun _ _ => sy_r18) ?_
  refine pw_p (pw_if (by decide) (fun _ _ => sy_r19) (fun w1 => ?_) (fun w1 => ?_))
  · have h1 := H.1 w1
    exact pw_p (pw_ret (by decide) (fun _ _ => sy_r20) h1)
  · have h1 := H.2 w1
    refine pw_p (pw_seg (by decide) (fun _ _ => sy_r21) ?_)
    exact h1
set_option maxRecDepth 100000 in
theorem sy_r22 {a0 : Int32} {a1 : Int32} {a2 : Int32} : ∀ G : ez_F, fx_up X 3 G 101 33 [.ref 31, .int a0, .int a1, .int a2] [] (ev_hp I J R T) cz kz = bif decide (a0 ≤ a2) then G 101 111 [.ref 31, .int a0, .int a1, .int a2] [] (ev_hp I J R T) cz kz else G 101 38 [.ref 31, .int a0, .int a1, .int a2] [] (ev_hp I J R T) cz kz := by
  intro G
  rfl
set_option maxRecDepth 100000 in
theorem sy_r23 {a0 : Int32} {a1 : Int32} {a2 : Int32} : ∀ G : ez_F, fx_up X 2 G 101 111 [.ref 31, .int a0, .int a1, .int a2] [] (ev_hp I J R T) cz kz = G 101 20 [.ref 31, .int a0, .int (a1 + (1 : Int32)), .int a2] [] (ev_hp I J R T) cz kz := by
  intro G
  rfl
set_option maxRecDepth 100000 in
theorem sy_r24 {a0 : Int32} {a1 : Int32} {a2 : Int32} : ∀ G : ez_F, fx_up X 4 G 101 38 [.ref 31, .int a0, .int a1, .int a2] [] (ev_hp I J R T) cz kz = ev_C G 113 [.ref 13, .int a2] (ev_hp I J R T) fun r h1 c1 k1 => G 101 46 [.ref 31, .int a0, .int a1, .int a2] (r.toList ++ []) h1 (cz + c1) (kz + k1) := by
  intro G
  rfl
theorem sj_33 {l s k : Int32}
    (H : ((l ≤ k → pw N X 101 20 [.ref 31, .int l, .int (s + (1 : Int32))] [] (ev_hp I J R T) Q) ∧ (¬ (l ≤ k) → (∃ Q1 : pw_Q, pe N X 113 [.ref 13, .int k] (ev_hp I J R T) Q1 ∧ ∀ (r : Option Value) (h1 : ez_H), Q1 r h1 → pw N X 101 46 [.ref 31, .int l, .int s, .int k] (r.toList ++ []) h1 Q)))) : pw (N + 1) X 101 33 [.ref 31, .int l, .int s, .int k] [] (ev_hp I J R T) Q := by
  refine pw_if (by decide) (fun _ _ => sy_r22) (fun w1 => ?_) (fun w1 => ?_)
  · have h1 := H.1 w1
    refine pw_p (pw_seg (by decide) (fun _ _ => sy_r23) ?_)
    refine pw_cutl (by rfl) ?_
    exact h1
  · have h1 := H.2 w1
    obtain ⟨Q1, hc, hk⟩ := h1
    exact pw_p (pw_call (by decide) (fun _ _ => sy_r24) hc hk)
set_option maxRecDepth 100000 in
theorem sy_r25 {a0 : Int32} {a1 : Int32} {a2 : Int32} {a3 : Int64} : ∀ G : ez_F, fx_up X 1 G 101 46 [.ref 31, .int a0, .int a1, .int a2] [.long a3] (ev_hp I J R T) cz kz = ev_C G 99 [.long a3] (ev_hp I J R T) fun r h1 c1 k1 => G 101 49 [.ref 31, .int a0, .int a1, .int a2] (r.toList ++ []) h1 (cz + c1) (kz + k1) := by
  intro G
  rfl
theorem sj_46 {l s k : Int32} {z : Int64}
    (H : (∃ Q1 : pw_Q, pe N X 99 [.long z] (ev_hp I J R T) Q1 ∧ ∀ (r : Option Value) (h1 : ez_H), Q1 r h1 → pw N X 101 49 [.ref 31, .int l, .int s, .int k] (r.toList ++ []) h1 Q)) : pw (N + 1) X 101 46 [.ref 31, .int l, .int s, .int k] [.long z] (ev_hp I J R T) Q := by
  obtain ⟨Q1, hc, hk⟩ := H
  exact pw_call (by decide) (fun _ _ => sy_r25) hc hk
set_option maxRecDepth 100000 in
theorem sy_r26 {a0 : Int32} {a1 : Int32} {a2 : Int32} {a3 : Int32} : ∀ G : ez_F, fx_up X 5 G 101 49 [.ref 31, .int a0, .int a1, .int a2] [.int a3] (ev_hp I J R T) cz kz = G 101 57 [.ref 31, .int a0, .int a1, .int a2, .int (a3 + (1 : Int32))] [.int (I 31 4)] (ev_hp I J R T) cz kz := by
  intro G
  rfl
set_option maxRecDepth 100000 in
theorem sy_r27 {a0 : Int32} {a1 : Int32} {a2 : Int32} {a3 : Int32} {a4 : Int32} : ∀ G : ez_F, fx_up X 2 G 101 57 [.ref 31, .int a0, .int a1, .int a2, .int a3] [.int a4] (ev_hp I J R T) cz kz = bif decide (a4 = (-1 : Int32)) then G 101 70 [.ref 31, .int a0, .int a1, .int a2, .int a3] [] (ev_hp I J R T) cz kz else G 101 61 [.ref 31, .int a0, .int a1, .int a2, .int a3] [] (ev_hp I J R T) cz kz := by
  intro G
  rfl
set_option maxRecDepth 100000 in
theorem sy_r28 {a0 : Int32} {a1 : Int32} {a2 : Int32} {a3 : Int32} : ∀ G : ez_F, fx_up X 5 G 101 70 [.ref 31, .int a0, .int a1, .int a2, .int a3] [] (ev_hp I J R T) cz kz = bif decide ((1 : Int32) = (0 : Int32)) then G 101 105 [.ref 31, .int a0, .int a1, .int a2, .int a3, .int (1 : Int32)] [] (ev_hp I J R T) cz kz else G 101 82 [.ref 31, .int a0, .int a1, .int a2, .int a3, .int (1 : Int32)] [] (ev_hp I J R T) cz kz := by
  intro G
  rfl
set_option maxRecDepth 100000 in
theorem sy_r29 {a0 : Int32} {a1 : Int32} {a2 : Int32} {a3 : Int32} {a4 : Int32} : ∀ G : ez_F, fx_up X 6 G 101 82 [.ref 31, .int a0, .int a1, .int a2, .int a3, .int a4] [] (ev_hp I J R T) cz kz = ev_C G 96 [.ref 31, .int a2, .int a1, .int a3, .int a0] (ev_hp I J R T) fun r h1 c1 k1 => G 101 91 [.ref 31, .int a0, .int a1, .int a2, .int a3, .int a4] (r.toList ++ []) h1 (cz + c1) (kz + k1) := by
  intro G
  rfl
set_option maxRecDepth 100000 in
theorem sy_r30 {a0 : Int32} {a1 : Int32} {a2 : Int32} {a3 : Int32} : ∀ G : ez_F, fx_up X 3 G 101 61 [.ref 31, .int a0, .int a1, .int a2, .int a3] [] (ev_hp I J R T) cz kz = G 101 67 [.ref 31, .int a0, .int a1, .int a2, .int a3] [.int (I 31 4), .int a3] (ev_hp I J R T) cz kz := by
  intro G
  rfl
set_option maxRecDepth 100000 in
theorem sy_r31 {a0 : Int32} {a1 : Int32} {a2 : Int32} {a3 : Int32} {a4 : Int32} {a5 : Int32} : ∀ G : ez_F, fx_up X 1 G 101 67 [.ref 31, .int a0, .int a1, .int a2, .int a3] [.int a4, .int a5] (ev_hp I J R T) cz kz = bif decide (a4 ≤ a5) then G 101 74 [.ref 31, .int a0, .int a1, .int a2, .int a3] [] (ev_hp I J R T) cz kz else G 101 70 [.ref 31, .int a0, .int a1, .int a2, .int a3] [] (ev_hp I J R T) cz kz := by
  intro G
  rfl
set_option maxRecDepth 100000 in
theorem sy_r32 {a0 : Int32} {a1 : Int32} {a2 : Int32} {a3 : Int32} : ∀ G : ez_F, fx_up X 4 G 101 74 [.ref 31, .int a0, .int a1, .int a2, .int a3] [] (ev_hp I J R T) cz kz = bif decide ((0 : Int32) = (0 : Int32)) then G 101 105 [.ref 31, .int a0, .int a1, .int a2, .int a3, .int (0 : Int32)] [] (ev_hp I J R T) cz kz else G 101 82 [.ref 31, .int a0, .int a1, .int a2, .int a3, .int (0 : Int32)] [] (ev_hp I J R T) cz kz := by
  intro G
  rfl
set_option maxRecDepth 100000 in
theorem sy_r33 {a0 : Int32} {a1 : Int32} {a2 : Int32} {a3 : Int32} {a4 : Int32} : ∀ G : ez_F, fx_up X 2 G 101 105 [.ref 31, .int a0, .int a1, .int a2, .int a3, .int a4] [] (ev_hp I J R T) cz kz = G 101 33 [.ref 31, .int a0, .int a1, .int (a2 + (1 : Int32)), .int a3, .int a4] [] (ev_hp I J R T) cz kz := by
  intro G
  rfl
theorem sj_49 {l s k v : Int32}
    (H : (((I 31 4) = (-1 : Int32) → (∃ Q1 : pw_Q, pe N X 96 [.ref 31, .int k, .int s, .int (v + (1 : Int32)), .int l] (ev_hp I J R T) Q1 ∧ ∀ (r : Option Value) (h1 : ez_H), Q1 r h1 → pw N X 101 91 [.ref 31, .int l, .int s, .int k, .int (v + (1 : Int32)), .int (1 : Int32)] (r.toList ++ []) h1 Q)) ∧ (¬ ((I 31 4) = (-1 : Int32)) → (((I 31 4) ≤ (v + (1 : Int32)) → pw N X 101 33 [.ref 31, .int l, .int s, .int (k + (1 : Int32))] [] (ev_hp I J R T) Q) ∧ (¬ ((I 31 4) ≤ (v + (1 : Int32))) → (∃ Q1 : pw_Q, pe N X 96 [.ref 31, .int k, .int s, .int (v + (1 : Int32)), .int l] (ev_hp I J R T) Q1 ∧ ∀ (r : Option Value) (h1 : ez_H), Q1 r h1 → pw N X 101 91 [.ref 31, .int l, .int s, .int k, .int (v + (1 : Int32)), .int (1 : Int32)] (r.toList ++ []) h1 Q)))))) : pw (N + 1) X 101 49 [.ref 31, .int l, .int s, .int k] [.int v] (ev_hp I J R T) Q := by
  refine pw_seg (by decide) (fun _ _ => sy_r26) ?_
  refine pw_p (pw_if (by decide) (fun _ _ => sy_r27) (fun w1 => ?_) (fun w1 => ?_))
  · have h1 := H.1 w1
    refine pw_p (pw_if (by decide) (fun _ _ => sy_r28) (fun w2 => ?_) (fun w2 => ?_))
    · exact absurd w2 (by decide)
    obtain ⟨Q1, hc, hk⟩ := h1
    exact pw_p (pw_call (by decide) (fun _ _ => sy_r29) hc hk)
  · have h1 := H.2 w1
    refine pw_p (pw_seg (by decide) (fun _ _ => sy_r30) ?_)
    refine pw_p (pw_if (by decide) (fun _ _ => sy_r31) (fun w2 => ?_) (fun w2 => ?_))
    · have h2 := h1.1 w2
      refine pw_p (pw_if (by decide) (fun _ _ => sy_r32) (fun w3 => ?_) (fun w3 => ?_))
      rotate_left
      · exact absurd (by decide) w3
      refine pw_p (pw_seg (by decide) (fun _ _ => sy_r33) ?_)
      refine pw_cutl (by rfl) ?_
      exact h2
    · have h2 := h1.2 w2
      refine pw_p (pw_if (by decide) (fun _ _ => sy_r28) (fun w3 => ?_) (fun w3 => ?_))
      · exact absurd w3 (by decide)
      obtain ⟨Q1, hc, hk⟩ := h2
      exact pw_p (pw_call (by decide) (fun _ _ => sy_r29) hc hk)
set_option maxRecDepth 100000 in
theorem sy_r34 {a0 : Int32} {a1 : Int32} : ∀ G : ez_F, fx_up X 1 G 50 16 [.ref 0, .int a0] [.int a1] (ev_hp I J R T) cz kz = bif decide (a1 = (0 : Int32)) then G 50 22 [.ref 0, .int a0] [] (ev_hp I J R T) cz kz else G 50 19 [.ref 0, .int a0] [] (ev_hp I J R T) cz kz := by
  intro G
  rfl
set_option maxRecDepth 100000 in
theorem sy_r35 {a0 : Int32} : ∀ G : ez_F, fx_up X 3 G 50 22 [.ref 0, .int a0] [] (ev_hp I J R T) cz kz = ev_C G 112 [.ref 13] (ev_hp I J R T) fun r h1 c1 k1 => G 50 29 [.ref 0, .int a0] (r.toList ++ []) h1 (cz + c1) (kz + k1) := by
  intro G
  rfl
set_option maxRecDepth 100000 in
theorem sy_r36 {a0 : Int32} : ∀ G : ez_F, fx_up X 2 G 50 19 [.ref 0, .int a0] [] (ev_hp I J R T) cz kz = some (some (.int (-6 : Int32)), (ev_hp I J R T), cz, kz) := by
  intro G
  rfl
theorem sv_16 {v x : Int32}
    (H : ((v = (0 : Int32) → (∃ Q1 : pw_Q, pe N X 112 [.ref 13] (ev_hp I J R T) Q1 ∧ ∀ (r : Option Value) (h1 : ez_H), Q1 r h1 → pw N X 50 29 [.ref 0, .int x] (r.toList ++ []) h1 Q)) ∧ (¬ (v = (0 : Int32)) → Q (some (.int (-6 : Int32))) (ev_hp I J R T)))) : pw (N + 1) X 50 16 [.ref 0, .int x] [.int v] (ev_hp I J R T) Q := by
  refine pw_if (by decide) (fun _ _ => sy_r34) (fun w1 => ?_) (fun w1 => ?_)
  · have h1 := H.1 w1
    obtain ⟨Q1, hc, hk⟩ := h1
    exact pw_p (pw_call (by decide) (fun _ _ => sy_r35) hc hk)
  · have h1 := H.2 w1
    exact pw_p (pw_ret (by decide) (fun _ _ => sy_r36) h1)
set_option maxRecDepth 100000 in
theorem sy_r37 {a0 : Int32} : ∀ G : ez_F, fx_up X 3 G 50 29 [.ref 0, .int a0] [] (ev_hp I J R T) cz kz = ev_C G 102 [.ref 31] (ev_hp I J R T) fun r h1 c1 k1 => G 50 36 [.ref 0, .int a0] (r.toList ++ []) h1 (cz + c1) (kz + k1) := by
  intro G
  rfl
theorem sv_29 {x : Int32}
    (H : (∃ Q1 : pw_Q, pe N X 102 [.ref 31] (ev_hp I J R T) Q1 ∧ ∀ (r : Option Value) (h1 : ez_H), Q1 r h1 → pw N X 50 36 [.ref 0, .int x] (r.toList ++ []) h1 Q)) : pw (N + 1) X 50 29 [.ref 0, .int x] [] (ev_hp I J R T) Q := by
  obtain ⟨Q1, hc, hk⟩ := H
  exact pw_call (by decide) (fun _ _ => sy_r37) hc hk
set_option maxRecDepth 100000 in
theorem sy_r38 {a0 : Int32} {a1 : Int32} : ∀ G : ez_F, fx_up X 1 G 50 36 [.ref 0, .int a0] [.int a1] (ev_hp I J R T) cz kz = bif decide (a1 = (0 : Int32)) then G 50 42 [.ref 0, .int a0] [] (ev_hp I J R T) cz kz else G 50 39 [.ref 0, .int a0] [] (ev_hp I J R T) cz kz := by
  intro G
  rfl
set_option maxRecDepth 100000 in
theorem sy_r39 {a0 : Int32} : ∀ G : ez_F, fx_up X 3 G 50 42 [.ref 0, .int a0] [] (ev_hp I J R T) cz kz = ev_C G 101 [.ref 31] (ev_hp I J R T) fun r h1 c1 k1 => G 50 49 [.ref 0, .int a0] (r.toList ++ []) h1 (cz + c1) (kz + k1) := by
  intro G
  rfl
set_option maxRecDepth 100000 in
theorem sy_r40 {a0 : Int32} : ∀ G : ez_F, fx_up X 2 G 50 39 [.ref 0, .int a0] [] (ev_hp I J R T) cz kz = some (some (.int (-4 : Int32)), (ev_hp I J R T), cz, kz) := by
  intro G
  rfl
theorem sv_36 {v x : Int32}
    (H : ((v = (0 : Int32) → (∃ Q1 : pw_Q, pe N X 101 [.ref 31] (ev_hp I J R T) Q1 ∧ ∀ (r : Option Value) (h1 : ez_H), Q1 r h1 → pw N X 50 49 [.ref 0, .int x] (r.toList ++ []) h1 Q)) ∧ (¬ (v = (0 : Int32)) → Q (some (.int (-4 : Int32))) (ev_hp I J R T)))) : pw (N + 1) X 50 36 [.ref 0, .int x] [.int v] (ev_hp I J R T) Q := by
  refine pw_if (by decide) (fun _ _ => sy_r38) (fun w1 => ?_) (fun w1 => ?_)
  · have h1 := H.1 w1
    obtain ⟨Q1, hc, hk⟩ := h1
    exact pw_p (pw_call (by decide) (fun _ _ => sy_r39) hc hk)
  · have h1 := H.2 w1
    exact pw_p (pw_ret (by decide) (fun _ _ => sy_r40) h1)
set_option maxRecDepth 100000 in
theorem sy_r41 {a0 : Int32} : ∀ G : ez_F, fx_up X 2 G 50 49 [.ref 0, .int a0] [] (ev_hp I J R T) cz kz = bif decide (¬ a0 = (0 : Int32)) then G 50 63 [.ref 0, .int a0] [] (ev_hp I J R T) cz kz else G 50 53 [.ref 0, .int a0] [] (ev_hp I J R T) cz kz := by
  intro G
  rfl
set_option maxRecDepth 100000 in
theorem sy_r42 {a0 : Int32} : ∀ G : ez_F, fx_up X 3 G 50 63 [.ref 0, .int a0] [] (ev_hp I J R T) cz kz = G 50 70 [.ref 0, .int a0] [.int (I 31 5)] (ev_hp I J R T) cz kz := by
  intro G
  rfl
set_option maxRecDepth 100000 in
theorem sy_r43 {a0 : Int32} {a1 : Int32} : ∀ G : ez_F, fx_up X 1 G 50 70 [.ref 0, .int a0] [.int a1] (ev_hp I J R T) cz kz = some (some (.int a1), (ev_hp I J R T), cz, kz) := by
  intro G
  rfl
set_option maxRecDepth 100000 in
theorem sy_r44 {a0 : Int32} : ∀ G : ez_F, fx_up X 3 G 50 53 [.ref 0, .int a0] [] (ev_hp I J R T) cz kz = G 50 60 [.ref 0, .int a0] [.int (I 31 4)] (ev_hp I J R T) cz kz := by
  intro G
  rfl
set_option maxRecDepth 100000 in
theorem sy_r45 {a0 : Int32} {a1 : Int32} : ∀ G : ez_F, fx_up X 2 G 50 60 [.ref 0, .int a0] [.int a1] (ev_hp I J R T) cz kz = some (some (.int a1), (ev_hp I J R T), cz, kz) := by
  intro G
  rfl
theorem sv_49 {x : Int32}
    (H : ((¬ x = (0 : Int32) → Q (some (.int (I 31 5))) (ev_hp I J R T)) ∧ (¬ (¬ x = (0 : Int32)) → Q (some (.int (I 31 4))) (ev_hp I J R T)))) : pw (N + 1) X 50 49 [.ref 0, .int x] [] (ev_hp I J R T) Q := by
  refine pw_if (by decide) (fun _ _ => sy_r41) (fun w1 => ?_) (fun w1 => ?_)
  · have h1 := H.1 w1
    refine pw_p (pw_seg (by decide) (fun _ _ => sy_r42) ?_)
    exact pw_p (pw_ret (by decide) (fun _ _ => sy_r43) h1)
  · have h1 := H.2 w1
    refine pw_p (pw_seg (by decide) (fun _ _ => sy_r44) ?_)
    exact pw_p (pw_ret (by decide) (fun _ _ => sy_r45) h1)
set_option maxRecDepth 100000 in
theorem sy_r46 {a0 : Int32} {a1 : Int32} {a2 : Int32} {a3 : Int32} {a4 : Int32} {a5 : Int32} {a6 : Int32} {a7 : Int32} {a8 : Int32} {a9 : Int32} : ∀ G : ez_F, fx_up X 2 G 96 85 [.ref 31, .int a0, .int a1, .int a2, .int a3, .int a4, .int a5, .int a6, .int a7, .int a8] [.int a9] (ev_hp I J R T) cz kz = bif decide (a9 < a2) then G 96 91 [.ref 31, .int a0, .int a1, .int a2, .int a3, .int a4, .int a5, .int a6, .int a7, .int a8] [] (ev_hp I J R T) cz kz else G 96 89 [.ref 31, .int a0, .int a1, .int a2, .int a3, .int a4, .int a5, .int a6, .int a7, .int a8] [] (ev_hp I J R T) cz kz := by
  intro G
  rfl
set_option maxRecDepth 100000 in
theorem sy_r47 {a0 : Int32} {a1 : Int32} {a2 : Int32} {a3 : Int32} {a4 : Int32} {a5 : Int32} {a6 : Int32} {a7 : Int32} {a8 : Int32} : ∀ G : ez_F, fx_up X 1 G 96 89 [.ref 31, .int a0, .int a1, .int a2, .int a3, .int a4, .int a5, .int a6, .int a7, .int a8] [] (ev_hp I J R T) cz kz = G 96 90 [.ref 31, .int a0, .int a1, .int a2, .int a3, .int a4, .int a5, .int a6, .int a7, .int a8] [.int (1 : Int32)] (ev_hp I J R T) cz kz := by
  intro G
  rfl
theorem cy_85 {a s c l p q j u e v : Int32}
    (H : ((v < c → pw N X 96 25 [.ref 31, .int a, .int s, .int c, .int l, .int p, .int q, .int (j + (1 : Int32))] [] (ev_hp I J R T) Q) ∧ (¬ (v < c) → ((1 : Int32) = 0 ∨ (1 : Int32) = 1 → Q (some (.int (1 : Int32))) (ev_hp I J R T))))) : pw (N + 1) X 96 85 [.ref 31, .int a, .int s, .int c, .int l, .int p, .int q, .int j, .int u, .int e] [.int v] (ev_hp I J R T) Q := by
  refine pw_if (by decide) (fun _ _ => sy_r46) (fun w1 => ?_) (fun w1 => ?_)
  · have h1 := H.1 w1
    refine pw_p (pw_seg (by decide) (fun _ _ => sy_r9) ?_)
    refine pw_cutl (by rfl) ?_
    exact h1
  · have h1 := H.2 w1
    refine pw_p (pw_seg (by decide) (fun _ _ => sy_r47) ?_)
    exact pw_p (pw_zret (by rfl) h1)
set_option maxRecDepth 100000 in
theorem sy_r48 {a0 : Int32} {a1 : Int32} {a2 : Int32} {a3 : Int32} {a4 : Int32} {a5 : Int32} : ∀ G : ez_F, fx_up X 1 G 101 91 [.ref 31, .int a0, .int a1, .int a2, .int a3, .int a4] [.int a5] (ev_hp I J R T) cz kz = bif decide (a5 = (0 : Int32)) then G 101 105 [.ref 31, .int a0, .int a1, .int a2, .int a3, .int a4] [] (ev_hp I J R T) cz kz else G 101 94 [.ref 31, .int a0, .int a1, .int a2, .int a3, .int a4] [] (ev_hp I J R T) cz kz := by
  intro G
  rfl
set_option maxRecDepth 100000 in
theorem sy_r49 {a0 : Int32} {a1 : Int32} {a2 : Int32} {a3 : Int32} {a4 : Int32} : ∀ G : ez_F, fx_up X 3 G 101 94 [.ref 31, .int a0, .int a1, .int a2, .int a3, .int a4] [] (ev_hp I J R T) cz kz = G 101 100 [.ref 31, .int a0, .int a1, .int a2, .int a3, .int a4] [] (ev_hp (ev_sI I 31 (upd (I 31) 4 a3)) J R T) cz kz := by
  intro G
  rfl
set_option maxRecDepth 100000 in
theorem sy_r50 {a0 : Int32} {a1 : Int32} {a2 : Int32} {a3 : Int32} {a4 : Int32} : ∀ G : ez_F, fx_up X 3 G 101 100 [.ref 31, .int a0, .int a1, .int a2, .int a3, .int a4] [] (ev_hp I J R T) cz kz = G 101 105 [.ref 31, .int a0, .int a1, .int a2, .int a3, .int a4] [] (ev_hp (ev_sI I 31 (upd (I 31) 5 a1)) J R T) cz kz := by
  intro G
  rfl
theorem sj_91 {l s k v w b : Int32}
    (H : ((v = (0 : Int32) → pw N X 101 33 [.ref 31, .int l, .int s, .int (k + (1 : Int32))] [] (ev_hp I J R T) Q) ∧ (¬ (v = (0 : Int32)) → pw N X 101 33 [.ref 31, .int l, .int s, .int (k + (1 : Int32))] [] (ev_hp (ev_sI (ev_sI I 31 (upd (I 31) 4 w)) 31 (upd (upd (I 31) 4 w) 5 s)) J R T) Q))) : pw (N + 1) X 101 91 [.ref 31, .int l, .int s, .int k, .int w, .int b] [.int v] (ev_hp I J R T) Q := by
  refine pw_if (by decide) (fun _ _ => sy_r48) (fun w1 => ?_) (fun w1 => ?_)
  · have h1 := H.1 w1
    refine pw_p (pw_seg (by decide) (fun _ _ => sy_r33) ?_)
    refine pw_cutl (by rfl) ?_
    exact h1
  · have h1 := H.2 w1
    refine pw_p (pw_seg (by decide) (fun _ _ => sy_r49) ?_)
    refine pw_p (pw_seg (by decide) (fun _ _ => sy_r50) ?_)
    refine pw_p (pw_seg (by decide) (fun _ _ => sy_r33) ?_)
    refine pw_cutl (by rfl) ?_
    exact h1
set_option maxRecDepth 100000 in
theorem sy_r51 {a0 : Int32} : ∀ G : ez_F, fx_up X 2 G 235 0 [.int a0] [] (ev_hp I J R T) cz kz = bif decide ((0 : Int32) < a0) then G 235 15 [.int a0] [] (ev_hp I J R T) cz kz else G 235 4 [.int a0] [] (ev_hp I J R T) cz kz := by
  intro G
  rfl
set_option maxRecDepth 100000 in
theorem sy_r52 {a0 : Int32} : ∀ G : ez_F, fx_up X 2 G 235 15 [.int a0] [] (ev_hp I J R T) cz kz = G 235 18 [.int a0, .int (31 : Int32)] [] (ev_hp I J R T) cz kz := by
  intro G
  rfl
set_option maxRecDepth 100000 in
theorem sy_r53 {a0 : Int32} : ∀ G : ez_F, fx_up X 2 G 235 4 [.int a0] [] (ev_hp I J R T) cz kz = bif decide (¬ a0 = (0 : Int32)) then G 235 13 [.int a0] [] (ev_hp I J R T) cz kz else G 235 8 [.int a0] [] (ev_hp I J R T) cz kz := by
  intro G
  rfl
set_option maxRecDepth 100000 in
theorem sy_r54 {a0 : Int32} : ∀ G : ez_F, fx_up X 2 G 235 13 [.int a0] [] (ev_hp I J R T) cz kz = some (some (.int (0 : Int32)), (ev_hp I J R T), cz, kz) := by
  intro G
  rfl
set_option maxRecDepth 100000 in
theorem sy_r55 {a0 : Int32} : ∀ G : ez_F, fx_up X 3 G 235 8 [.int a0] [] (ev_hp I J R T) cz kz = some (some (.int (32 : Int32)), (ev_hp I J R T), cz, kz) := by
  intro G
  rfl
theorem nh_0 {x : Int32}
    (H : (((0 : Int32) < x → pw N X 235 18 [.int x, .int (31 : Int32)] [] (ev_hp I J R T) Q) ∧ (¬ ((0 : Int32) < x) → ((¬ x = (0 : Int32) → Q (some (.int (0 : Int32))) (ev_hp I J R T)) ∧ (¬ (¬ x = (0 : Int32)) → Q (some (.int (32 : Int32))) (ev_hp I J R T)))))) : pw (N + 1) X 235 0 [.int x] [] (ev_hp I J R T) Q := by
  refine pw_if (by decide) (fun _ _ => sy_r51) (fun w1 => ?_) (fun w1 => ?_)
  · have h1 := H.1 w1
    refine pw_p (pw_seg (by decide) (fun _ _ => sy_r52) ?_)
    exact h1
  · have h1 := H.2 w1
    refine pw_p (pw_if (by decide) (fun _ _ => sy_r53) (fun w2 => ?_) (fun w2 => ?_))
    · have h2 := h1.1 w2
      exact pw_p (pw_ret (by decide) (fun _ _ => sy_r54) h2)
    · have h2 := h1.2 w2
      exact pw_p (pw_ret (by decide) (fun _ _ => sy_r55) h2)
set_option maxRecDepth 100000 in
theorem sy_r56 {a0 : Int32} {a1 : Int32} : ∀ G : ez_F, fx_up X 3 G 235 18 [.int a0, .int a1] [] (ev_hp I J R T) cz kz = bif decide (a0 < (65536 : Int32)) then G 235 33 [.int a0, .int a1] [] (ev_hp I J R T) cz kz else G 235 25 [.int a0, .int a1] [] (ev_hp I J R T) cz kz := by
  intro G
  rfl
set_option maxRecDepth 100000 in
theorem sy_r57 {a0 : Int32} {a1 : Int32} : ∀ G : ez_F, fx_up X 5 G 235 25 [.int a0, .int a1] [] (ev_hp I J R T) cz kz = G 235 33 [.int (a0.toUInt32 >>> ((16 : Int32).toUInt32 &&& Int32.toUInt32 31)).toInt32, .int (a1 + (-16 : Int32))] [] (ev_hp I J R T) cz kz := by
  intro G
  rfl
theorem nh_18 {x n : Int32}
    (H : ((x < (65536 : Int32) → pw N X 235 33 [.int x, .int n] [] (ev_hp I J R T) Q) ∧ (¬ (x < (65536 : Int32)) → pw N X 235 33 [.int (x.toUInt32 >>> ((16 : Int32).toUInt32 &&& Int32.toUInt32 31)).toInt32, .int (n + (-16 : Int32))] [] (ev_hp I J R T) Q))) : pw (N + 1) X 235 18 [.int x, .int n] [] (ev_hp I J R T) Q := by
  refine pw_if (by decide) (fun _ _ => sy_r56) (fun w1 => ?_) (fun w1 => ?_)
  · have h1 := H.1 w1
    exact h1
  · have h1 := H.2 w1
    refine pw_p (pw_seg (by decide) (fun _ _ => sy_r57) ?_)
    exact h1
set_option maxRecDepth 100000 in
theorem sy_r58 {a0 : Int32} {a1 : Int32} : ∀ G : ez_F, fx_up X 3 G 235 33 [.int a0, .int a1] [] (ev_hp I J R T) cz kz = bif decide (a0 < (256 : Int32)) then G 235 48 [.int a0, .int a1] [] (ev_hp I J R T) cz kz else G 235 40 [.int a0, .int a1] [] (ev_hp I J R T) cz kz := by
  intro G
  rfl
set_option maxRecDepth 100000 in
theorem sy_r59 {a0 : Int32} {a1 : Int32} : ∀ G : ez_F, fx_up X 5 G 235 40 [.int a0, .int a1] [] (ev_hp I J R T) cz kz = G 235 48 [.int (a0.toUInt32 >>> ((8 : Int32).toUInt32 &&& Int32.toUInt32 31)).toInt32, .int (a1 + (-8 : Int32))] [] (ev_hp I J R T) cz kz := by
  intro G
  rfl
theorem nh_33 {x n : Int32}
    (H : ((x < (256 : Int32) → pw N X 235 48 [.int x, .int n] [] (ev_hp I J R T) Q) ∧ (¬ (x < (256 : Int32)) → pw N X 235 48 [.int (x.toUInt32 >>> ((8 : Int32).toUInt32 &&& Int32.toUInt32 31)).toInt32, .int (n + (-8 : Int32))] [] (ev_hp I J R T) Q))) : pw (N + 1) X 235 33 [.int x, .int n] [] (ev_hp I J R T) Q := by
  refine pw_if (by decide) (fun _ _ => sy_r58) (fun w1 => ?_) (fun w1 => ?_)
  · have h1 := H.1 w1
    exact h1
  · have h1 := H.2 w1
    refine pw_p (pw_seg (by decide) (fun _ _ => sy_r59) ?_)
    exact h1
set_option maxRecDepth 100000 in
theorem sy_r60 {a0 : Int32} {a1 : Int32} : ∀ G : ez_F, fx_up X 3 G 235 48 [.int a0, .int a1] [] (ev_hp I J R T) cz kz = bif decide (a0 < (16 : Int32)) then G 235 61 [.int a0, .int a1] [] (ev_hp I J R T) cz kz else G 235 54 [.int a0, .int a1] [] (ev_hp I J R T) cz kz := by
  intro G
  rfl
set_option maxRecDepth 100000 in
theorem sy_r61 {a0 : Int32} {a1 : Int32} : ∀ G : ez_F, fx_up X 5 G 235 54 [.int a0, .int a1] [] (ev_hp I J R T) cz kz = G 235 61 [.int (a0.toUInt32 >>> ((4 : Int32).toUInt32 &&& Int32.toUInt32 31)).toInt32, .int (a1 + (-4 : Int32))] [] (ev_hp I J R T) cz kz := by
  intro G
  rfl
theorem nh_48 {x n : Int32}
    (H : ((x < (16 : Int32) → pw N X 235 61 [.int x, .int n] [] (ev_hp I J R T) Q) ∧ (¬ (x < (16 : Int32)) → pw N X 235 61 [.int (x.toUInt32 >>> ((4 : Int32).toUInt32 &&& Int32.toUInt32 31)).toInt32, .int (n + (-4 : Int32))] [] (ev_hp I J R T) Q))) : pw (N + 1) X 235 48 [.int x, .int n] [] (ev_hp I J R T) Q := by
  refine pw_if (by decide) (fun _ _ => sy_r60) (fun w1 => ?_) (fun w1 => ?_)
  · have h1 := H.1 w1
    exact h1
  · have h1 := H.2 w1
    refine pw_p (pw_seg (by decide) (fun _ _ => sy_r61) ?_)
    exact h1
set_option maxRecDepth 100000 in
theorem sy_r62 {a0 : Int32} {a1 : Int32} : ∀ G : ez_F, fx_up X 3 G 235 61 [.int a0, .int a1] [] (ev_hp I J R T) cz kz = bif decide (a0 < (4 : Int32)) then G 235 73 [.int a0, .int a1] [] (ev_hp I J R T) cz kz else G 235 66 [.int a0, .int a1] [] (ev_hp I J R T) cz kz := by
  intro G
  rfl
set_option maxRecDepth 100000 in
theorem sy_r63 {a0 : Int32} {a1 : Int32} : ∀ G : ez_F, fx_up X 5 G 235 66 [.int a0, .int a1] [] (ev_hp I J R T) cz kz = G 235 73 [.int (a0.toUInt32 >>> ((2 : Int32).toUInt32 &&& Int32.toUInt32 31)).toInt32, .int (a1 + (-2 : Int32))] [] (ev_hp I J R T) cz kz := by
  intro G
  rfl
theorem nh_61 {x n : Int32}
    (H : ((x < (4 : Int32) → pw N X 235 73 [.int x, .int n] [] (ev_hp I J R T) Q) ∧ (¬ (x < (4 : Int32)) → pw N X 235 73 [.int (x.toUInt32 >>> ((2 : Int32).toUInt32 &&& Int32.toUInt32 31)).toInt32, .int (n + (-2 : Int32))] [] (ev_hp I J R T) Q))) : pw (N + 1) X 235 61 [.int x, .int n] [] (ev_hp I J R T) Q := by
  refine pw_if (by decide) (fun _ _ => sy_r62) (fun w1 => ?_) (fun w1 => ?_)
  · have h1 := H.1 w1
    exact h1
  · have h1 := H.2 w1
    refine pw_p (pw_seg (by decide) (fun _ _ => sy_r63) ?_)
    exact h1
set_option maxRecDepth 100000 in
theorem sy_r64 {a0 : Int32} {a1 : Int32} : ∀ G : ez_F, fx_up X 6 G 235 73 [.int a0, .int a1] [] (ev_hp I J R T) cz kz = some (some (.int (a1 - (a0.toUInt32 >>> ((1 : Int32).toUInt32 &&& Int32.toUInt32 31)).toInt32)), (ev_hp I J R T), cz, kz) := by
  intro G
  rfl
theorem nh_73 {x n : Int32}
    (H : Q (some (.int (n - (x.toUInt32 >>> ((1 : Int32).toUInt32 &&& Int32.toUInt32 31)).toInt32))) (ev_hp I J R T)) : pw (N + 1) X 235 73 [.int x, .int n] [] (ev_hp I J R T) Q := by
  exact pw_ret (by decide) (fun _ _ => sy_r64) H
set_option maxRecDepth 100000 in
theorem sy_r65 {a0 : Int64} : ∀ G : ez_F, fx_up X 7 G 238 0 [.long a0, ez_fill] [] (ev_hp I J R T) cz kz = bif decide (¬ ((a0.toUInt64 >>> ((32 : Int32).toInt64.toUInt64 &&& Int64.toUInt64 63)).toInt64).toInt32 = (0 : Int32)) then G 238 21 [.long a0, ez_fill, .int ((a0.toUInt64 >>> ((32 : Int32).toInt64.toUInt64 &&& Int64.toUInt64 63)).toInt64).toInt32] [] (ev_hp I J R T) cz kz else G 238 10 [.long a0, ez_fill, .int ((a0.toUInt64 >>> ((32 : Int32).toInt64.toUInt64 &&& Int64.toUInt64 63)).toInt64).toInt32] [] (ev_hp I J R T) cz kz := by
  intro G
  rfl
set_option maxRecDepth 100000 in
theorem sy_r66 {a0 : Int64} {a1 : Int32} : ∀ G : ez_F, fx_up X 2 G 238 21 [.long a0, ez_fill, .int a1] [] (ev_hp I J R T) cz kz = ev_C G 235 [.int a1] (ev_hp I J R T) fun r h1 c1 k1 => G 238 25 [.long a0, ez_fill, .int a1] (r.toList ++ []) h1 (cz + c1) (kz + k1) := by
  intro G
  rfl
set_option maxRecDepth 100000 in
theorem sy_r67 {a0 : Int64} {a1 : Int32} : ∀ G : ez_F, fx_up X 4 G 238 10 [.long a0, ez_fill, .int a1] [] (ev_hp I J R T) cz kz = ev_C G 235 [.int a0.toInt32] (ev_hp I J R T) fun r h1 c1 k1 => G 238 17 [.long a0, ez_fill, .int a1] (r.toList ++ [.int (32 : Int32)]) h1 (cz + c1) (kz + k1) := by
  intro G
  rfl
theorem ni_0 {z : Int64}
    (H : ((¬ ((z.toUInt64 >>> ((32 : Int32).toInt64.toUInt64 &&& Int64.toUInt64 63)).toInt64).toInt32 = (0 : Int32) → (∃ Q1 : pw_Q, pe N X 235 [.int ((z.toUInt64 >>> ((32 : Int32).toInt64.toUInt64 &&& Int64.toUInt64 63)).toInt64).toInt32] (ev_hp I J R T) Q1 ∧ ∀ (r : Option Value) (h1 : ez_H), Q1 r h1 → pw N X 238 25 [.long z, ez_fill, .int ((z.toUInt64 >>> ((32 : Int32).toInt64.toUInt64 &&& Int64.toUInt64 63)).toInt64).toInt32] (r.toList ++ []) h1 Q)) ∧ (¬ (¬ ((z.toUInt64 >>> ((32 : Int32).toInt64.toUInt64 &&& Int64.toUInt64 63)).toInt64).toInt32 = (0 : Int32)) → (∃ Q1 : pw_Q, pe N X 235 [.int z.toInt32] (ev_hp I J R T) Q1 ∧ ∀ (r : Option Value) (h1 : ez_H), Q1 r h1 → pw N X 238 17 [.long z, ez_fill, .int ((z.toUInt64 >>> ((32 : Int32).toInt64.toUInt64 &&& Int64.toUInt64 63)).toInt64).toInt32] (r.toList ++ [.int (32 : Int32)]) h1 Q)))) : pw (N + 1) X 238 0 [.long z, ez_fill] [] (ev_hp I J R T) Q := by
  refine pw_if (by decide) (fun _ _ => sy_r65) (fun w1 => ?_) (fun w1 => ?_)
  · have h1 := H.1 w1
    obtain ⟨Q1, hc, hk⟩ := h1
    exact pw_p (pw_call (by decide) (fun _ _ => sy_r66) hc hk)
  · have h1 := H.2 w1
    obtain ⟨Q1, hc, hk⟩ := h1
    exact pw_p (pw_call (by decide) (fun _ _ => sy_r67) hc hk)
set_option maxRecDepth 100000 in
theorem sy_r68 {a0 : Int64} {a1 : Int32} {a2 : Int32} {a3 : Int32} : ∀ G : ez_F, fx_up X 3 G 238 17 [.long a0, ez_fill, .int a1] [.int a2, .int a3] (ev_hp I J R T) cz kz = some (some (.int (a3 + a2)), (ev_hp I J R T), cz, kz) := by
  intro G
  rfl
theorem ni_17 {z : Int64} {x v w : Int32}
    (H : Q (some (.int (w + v))) (ev_hp I J R T)) : pw (N + 1) X 238 17 [.long z, ez_fill, .int x] [.int v, .int w] (ev_hp I J R T) Q := by
  exact pw_ret (by decide) (fun _ _ => sy_r68) H
set_option maxRecDepth 100000 in
theorem sy_r69 {a0 : Int64} {a1 : Int32} {a2 : Int32} : ∀ G : ez_F, fx_up X 1 G 238 25 [.long a0, ez_fill, .int a1] [.int a2] (ev_hp I J R T) cz kz = some (some (.int a2), (ev_hp I J R T), cz, kz) := by
  intro G
  rfl
theorem ni_25 {z : Int64} {x v : Int32}
    (H : Q (some (.int v)) (ev_hp I J R T)) : pw (N + 1) X 238 25 [.long z, ez_fill, .int x] [.int v] (ev_hp I J R T) Q := by
  exact pw_ret (by decide) (fun _ _ => sy_r69) H
end
section
variable {N : Nat} {X : ez_X} {I A : Nat → Nat → Int32} {J : Nat → Nat → Int64} {R : Nat → Nat} {T : List ez_C} {x : Int32} {z : Int64} {n l : Nat} {g1 : Nat → Int64} {f : Nat → Int32}
/-- some int, and nothing else -/
def si_Q (h0 : ez_H) : pw_Q := fun r h => (∃ v, r = some (.int v)) ∧ h = h0
theorem pe_lz32 : pe N X 235 [.int x] (ev_hp I J R T) (si_Q (ev_hp I J R T)) := by
  have t73 : ∀ (x n : Int32) N, pw N X 235 73 [.int x, .int n] [] (ev_hp I J R T) (si_Q (ev_hp I J R T)) := fun x n N => pw_p (nh_73 ⟨⟨_, rfl⟩, rfl⟩)
  have t61 : ∀ (x n : Int32) N, pw N X 235 61 [.int x, .int n] [] (ev_hp I J R T) (si_Q (ev_hp I J R T)) := fun x n N => pw_p (nh_61 ⟨fun _ => t73 _ _ _, fun _ => t73 _ _ _⟩)
  have t48 : ∀ (x n : Int32) N, pw N X 235 48 [.int x, .int n] [] (ev_hp I J R T) (si_Q (ev_hp I J R T)) := fun x n N => pw_p (nh_48 ⟨fun _ => t61 _ _ _, fun _ => t61 _ _ _⟩)
  have t33 : ∀ (x n : Int32) N, pw N X 235 33 [.int x, .int n] [] (ev_hp I J R T) (si_Q (ev_hp I J R T)) := fun x n N => pw_p (nh_33 ⟨fun _ => t48 _ _ _, fun _ => t48 _ _ _⟩)
  have t18 : ∀ (x n : Int32) N, pw N X 235 18 [.int x, .int n] [] (ev_hp I J R T) (si_Q (ev_hp I J R T)) := fun x n N => pw_p (nh_18 ⟨fun _ => t33 _ _ _, fun _ => t33 _ _ _⟩)
  exact pe_of (pw_p (nh_0 ⟨fun _ => t18 _ _ _, fun _ => ⟨fun _ => ⟨⟨_, rfl⟩, rfl⟩, fun _ => ⟨⟨_, rfl⟩, rfl⟩⟩⟩))
theorem pe_lz : pe N X 238 [.long z] (ev_hp I J R T) (si_Q (ev_hp I J R T)) := by
  refine pe_of (pw_p (ni_0 ⟨fun _ => ⟨_, pe_lz32, ?_⟩, fun _ => ⟨_, pe_lz32, ?_⟩⟩))
  · rintro r h ⟨⟨v, rfl⟩, rfl⟩
    exact pw_p (ni_25 ⟨⟨_, rfl⟩, rfl⟩)
  · rintro r h ⟨⟨v, rfl⟩, rfl⟩
    exact pw_p (ni_17 ⟨⟨_, rfl⟩, rfl⟩)
theorem pe_lastCallS : pe N X 99 [.long z] (ev_hp I J R T) (si_Q (ev_hp I J R T)) := by
  refine pe_of (pw_p (lc_0 ⟨_, pe_lz, ?_⟩))
  rintro r h ⟨⟨v, rfl⟩, rfl⟩
  exact pw_p (lc_6 ⟨⟨_, rfl⟩, rfl⟩)
theorem pe_ntzS : pe N X 239 [.long z] (ev_hp I J R T) (si_Q (ev_hp I J R T)) := by
  refine pe_of (pw_p (nl_0 ⟨fun _ => ⟨_, pe_ntz32, ?_⟩, fun _ => ⟨_, pe_ntz32, ?_⟩⟩))
  · rintro r h ⟨rfl, rfl⟩
    exact pw_p (nl_25 ⟨⟨_, rfl⟩, rfl⟩)
  · rintro r h ⟨rfl, rfl⟩
    exact pw_p (nl_17 ⟨⟨_, rfl⟩, rfl⟩)
theorem pe_firstCallS : pe N X 97 [.long z] (ev_hp I J R T) (si_Q (ev_hp I J R T)) := by
  refine pe_of (pw_p (fq_0 ⟨_, pe_ntzS, ?_⟩))
  rintro r h ⟨⟨v, rfl⟩, rfl⟩
  exact pw_p (fq_4 ⟨⟨_, rfl⟩, rfl⟩)
theorem pe_comesFromS {a s c : Int32} (r0 : rowT (R 0) T n f) (hn : n ≤ 10000) {m : Nat} (r1 : rowJ (R 1) T m g1) (hl : l ≤ m) (hm : m ≤ 10000) : pe N X 96 [.ref 31, .int a, .int s, .int c, .int (Int32.ofNat l)] (ev_hp I J R T) (si_Q (ev_hp I J R T)) := by
  have loop : ∀ (p q : Int32) (d j : Nat), j + d = l → ∀ N, pw N X 96 25 [.ref 31, .int a, .int s, .int c, .int (Int32.ofNat l), .int p, .int q, .int (Int32.ofNat j)] [] (ev_hp I J R T) (si_Q (ev_hp I J R T)) := by
    intro p q d
    induction d with
    | zero =>
      intro j hj N
      obtain rfl : j = l := by omega
      exact pw_p (cy_25 ⟨fun _ _ => ⟨⟨_, rfl⟩, rfl⟩, fun g => absurd (Int32.le_refl _) g⟩)
    | succ d ih =>
      intro j hjd N
      have nxt : ∀ N, pw N X 96 25 [.ref 31, .int a, .int s, .int c, .int (Int32.ofNat l), .int p, .int q, .int (Int32.ofNat j + (1 : Int32))] [] (ev_hp I J R T) (si_Q (ev_hp I J R T)) := fun N => by
        rw [io_1]
        exact ih (j + 1) (by omega) N
      refine pw_p (cy_25 ⟨fun _ _ => ⟨⟨_, rfl⟩, rfl⟩, fun _ => ⟨_, pe_code r0 hn, ?_⟩⟩)
      rintro r h ⟨rfl, rfl⟩
      refine pw_p (cy_43 ⟨fun _ => nxt _, fun _ => ⟨fun _ => nxt _, fun _ => ⟨_, pe_wrongs (k := j) r1 hm (by omega) rfl, ?_⟩⟩⟩)
      rintro r h ⟨rfl, rfl⟩
      refine pw_p (cy_82 ⟨_, pe_firstCallS, ?_⟩)
      rintro r h ⟨⟨v, rfl⟩, rfl⟩
      exact pw_p (cy_85 ⟨fun _ => nxt _, fun _ _ => ⟨⟨_, rfl⟩, rfl⟩⟩)
  refine pe_of (pw_p (cy_0 ⟨_, pe_code r0 hn, ?_⟩))
  rintro r h ⟨rfl, rfl⟩
  exact pw_p (cy_20 (loop _ _ l 0 (by omega) _))
/-- but for the switch -/
def os (I A : Nat → Nat → Int32) : Prop := ∀ a, a ≠ 31 → A a = I a
def os_Q (I : Nat → Nat → Int32) (J : Nat → Nat → Int64) (R : Nat → Nat) (T : List ez_C) : pw_Q := fun r h => r = none ∧ ∃ A, h = ev_hp A J R T ∧ os I A
theorem os_31 (h : os I A) (f : Nat → Int32) : os I (ev_sI A 31 f) := fun a h0 => by
  rw [cx_sI_n _ _ h0]
  exact h a h0
theorem pe_switch {ns : Nat} (e3 : I 3 3 = Int32.ofNat ns) (hns : ns ≤ 3) (e63 : I 6 3 = Int32.ofNat l) (r0 : rowT (R 0) T n f) (hn : n ≤ 10000) {m : Nat} (r1 : rowJ (R 1) T m g1) (hl : l ≤ m) (hm : m ≤ 10000) : pe N X 101 [.ref 31] (ev_hp I J R T) (os_Q I J R T) := by
  have inner : ∀ (s : Int32) (go : ∀ A, os I A → ∀ N, pw N X 101 20 [.ref 31, .int (Int32.ofNat l), .int (s + (1 : Int32))] [] (ev_hp A J R T) (os_Q I J R T)) (d k : Nat), k + d = l → ∀ A, os I A → ∀ N, pw N X 101 33 [.ref 31, .int (Int32.ofNat l), .int s, .int (Int32.ofNat k)] [] (ev_hp A J R T) (os_Q I J R T) := by
    intro s go d
    induction d with
    | zero =>
      intro k hk A hA N
      obtain rfl : k = l := by omega
      exact pw_p (sj_33 ⟨fun _ => go A hA _, fun g => absurd (Int32.le_refl _) g⟩)
    | succ d ih =>
      intro k hkd A hA N
      have nxt : ∀ A, os I A → ∀ N, pw N X 101 33 [.ref 31, .int (Int32.ofNat l), .int s, .int (Int32.ofNat k + (1 : Int32))] [] (ev_hp A J R T) (os_Q I J R T) := fun A hA N => by
        rw [io_1]
        exact ih (k + 1) (by omega) A hA N
      refine pw_p (sj_33 ⟨fun _ => go A hA _, fun _ => ⟨_, pe_wrongs (k := k) r1 hm (by omega) rfl, ?_⟩⟩)
      rintro r h ⟨rfl, rfl⟩
      refine pw_p (sj_46 ⟨_, pe_lastCallS, ?_⟩)
      rintro r h ⟨⟨v, rfl⟩, rfl⟩
      have came : ∀ w b : Int32, ∀ N, ∃ Q1 : pw_Q, pe N X 96 [.ref 31, .int (Int32.ofNat k), .int s, .int w, .int (Int32.ofNat l)] (ev_hp A J R T) Q1 ∧ ∀ (r : Option Value) (h1 : ez_H), Q1 r h1 → pw N X 101 91 [.ref 31, .int (Int32.ofNat l), .int s, .int (Int32.ofNat k), .int w, .int b] (r.toList ++ []) h1 (os_Q I J R T) := fun w b N => by
        refine ⟨_, pe_comesFromS r0 hn r1 hl hm, ?_⟩
        rintro r h ⟨⟨u, rfl⟩, rfl⟩
        exact pw_p (sj_91 ⟨fun _ => nxt A hA _, fun _ => nxt _ (os_31 (os_31 hA _) _) _⟩)
      exact pw_p (sj_49 ⟨fun _ => came _ _ _, fun _ => ⟨fun _ => nxt A hA _, fun _ => came _ _ _⟩⟩)
  have outer : ∀ (d s : Nat), s + d = ns → ∀ A, os I A → ∀ N, pw N X 101 20 [.ref 31, .int (Int32.ofNat l), .int (Int32.ofNat s)] [] (ev_hp A J R T) (os_Q I J R T) := by
    intro d
    induction d with
    | zero =>
      intro s hs A hA N
      obtain rfl : s = ns := by omega
      refine pw_p (sj_20 ⟨fun _ => ⟨rfl, A, rfl, hA⟩, fun g => ?_⟩)
      rw [hA 3 (by decide), e3] at g
      exact absurd (Int32.le_refl _) g
    | succ d ih =>
      intro s hsd A hA N
      refine pw_p (sj_20 ⟨fun _ => ⟨rfl, A, rfl, hA⟩, fun _ => inner (Int32.ofNat s) (fun A hA N => ?_) l 0 (by omega) A hA _⟩)
      rw [io_1]
      exact ih (s + 1) (by omega) A hA N
  refine pe_of (pw_p (sj_0 ?_))
  rw [e63]
  exact outer ns 0 (by omega) _ (os_31 (os_31 (fun _ _ => rfl) _) _) _
theorem os_d4 (h : os I A) (hd : d4 I J R T) : d4 A J R T := by
  have e : b4 A J = b4 I J := by
    unfold b4
    rw [h 8 (by decide), h 3 (by decide), h 5 (by decide), h 2 (by decide), h 1 (by decide)]
  exact d4_b e (by rw [h 2 (by decide)]) rfl rfl (by rw [h 13 (by decide)]) (by rw [h 13 (by decide)]) (by rw [h 14 (by decide)]) (h 15 (by decide)) (h 16 (by decide)) ⟨rfl, rfl, rfl⟩ (fun _ _ _ _ q => q) hd
theorem F4_se {h0 : ez_H} (hd : d4 I J R T) (hh : cx_hok cx_B0 I R T) (hs : se_Q I J R T (ls I J) h0) : F4 h0 := by
  obtain ⟨f6, R6, T6, rfl, f64, -, k1, k2, k3, k4⟩ := hs
  obtain ⟨m0, fm, r0, -⟩ := rows_0 hh.2
  have mv : ∀ p n g, rowJ p T n g → rowJ p T6 n g := fun p n g hp => by
    rcases hp with hp | ⟨h1, h2⟩
    · exact Or.inl hp
    · have hne := row_ne r0 (Or.inr ⟨h1, h2⟩ : rowJ p T n g)
      exact Or.inr ⟨h1, by rw [k4 (p - 65) (List.getElem?_eq_some_iff.mp h2).1 (by omega)]; exact h2⟩
  have e : b4 (ev_sI I 6 f6) J = b4 I J := by
    unfold b4
    rw [cx_sI_n _ _ (show (8 : Nat) ≠ 6 by decide), cx_sI_n _ _ (show (3 : Nat) ≠ 6 by decide), cx_sI_n _ _ (show (5 : Nat) ≠ 6 by decide), cx_sI_n _ _ (show (2 : Nat) ≠ 6 by decide), cx_sI_n _ _ (show (1 : Nat) ≠ 6 by decide)]
  exact ⟨ev_sI I 6 f6, J, R6, T6, rfl, d4_b e (by rw [cx_sI_n _ _ (show (2 : Nat) ≠ 6 by decide)]) rfl rfl (by rw [cx_sI_n _ _ (show (13 : Nat) ≠ 6 by decide)]) (by rw [cx_sI_n _ _ (show (13 : Nat) ≠ 6 by decide)]) (by rw [cx_sI_n _ _ (show (14 : Nat) ≠ 6 by decide)]) (cx_sI_n _ _ (by decide)) (cx_sI_n _ _ (by decide)) ⟨k1 1 (by decide), k1 2 (by decide), k1 3 (by decide)⟩ (fun p n g _ hp => mv p n g hp) hd⟩
theorem pe_xswitched (h : rl3 I J R T) (hd : d4 I J R T) (hh : cx_hok cx_B0 I R T) : pe N X 50 [.ref 0, .int x] (ev_hp I J R T) (fun _ h => F4 h) := by
  refine pe_of (pw_p (xo_switched ⟨fun hx => ⟨_, pe_crowded h.1.1 hh h.1.2, ?_⟩, fun hx => F4_tm hd⟩))
  rintro r h' (⟨h1, rfl, rfl⟩ | ⟨h1, rfl, h2⟩)
  · exact pw_p (sv_16 ⟨fun z => absurd z (by decide), fun _ => F4_tm hd⟩)
  · have hl := fun N => pe_rep (X := X) h hd hh h2 N
    have hse := h2
    obtain ⟨f6, R6, T6, rfl, f64, ⟨s2, n0, fr, s3, s4, s5, s6⟩, k1, k2, k3, k4⟩ := h2
    refine pw_p (sv_16 ⟨fun _ => ⟨_, hl _, ?_⟩, fun _ => ?_⟩)
    · rintro r h' ⟨rfl, A, B, R', T', rfl, hq, q9, q14, q15, q16⟩
      have hd4 := rq_d4 hq fun z => tal_b rfl rfl rfl rfl (by rw [q14]) q15 q16 (hd.2.2 (q9.symm.trans z))
      have hF := F4_rep hd hq q9 q14 q15 q16
      have hq0 := hq
      obtain ⟨a1, a2, a3, a4, ⟨nn, ff0, t1, t2, t3, t4⟩, a6, n1, g1, g2, g3, r1, r2, r3, r4, r5, r6⟩ := hq0
      have e8 : B 8 = J 8 := a4 8 (by decide) (by decide)
      have e33 : A 3 3 = Int32.ofNat (I 3 3).toInt.toNat := by
        rw [a1 3 (by decide) (by decide) (by decide) (by decide) (by decide)]
        exact io_nat (b_sh hh.1).1.1
      have hs3 := (b_sh hh.1).1.2
      have hp30 : ∀ k, k < (ls I J).length → wP I J k ≤ 30 := fun k _ => wP_30 (nca_30 h) k
      refine pw_p (sv_29 ⟨_, pe_someIsTrue (p := wP I J) r1 r4 r5 a2 (fun k hk => (rq_w (A := A) h hh.1 e8 hk (r6 k hk).1).2.2.1) hp30, ?_⟩)
      rintro r h' ⟨hv, rfl⟩
      have sw : ∀ v : Int32, ∀ N, pw N X 50 36 [.ref 0, .int x] [.int v] (ev_hp A B R' T') (fun _ h => F4 h) := fun v N => by
        refine pw_p (sv_36 ⟨fun _ => ⟨_, pe_switch e33 (by omega) a2 t1 t3 r1 r4 r5, ?_⟩, fun _ => hF⟩)
        rintro r h' ⟨rfl, A', rfl, hA'⟩
        have hF2 : F4 (ev_hp A' B R' T') := ⟨A', B, R', T', rfl, os_d4 hA' hd4⟩
        exact pw_p (sv_49 ⟨fun _ => hF2, fun _ => hF2⟩)
      rcases hv with rfl | rfl
      · exact sw _ _
      · exact sw _ _
    · exact F4_se hd hh hse
end
