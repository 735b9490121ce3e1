/-! The pairs: what their search leaves alone. -/
section
variable {N : Nat} {X : ez_X} {I : Nat → Nat → Int32} {J : Nat → Nat → Int64} {R : Nat → Nat} {T : List ez_C} {Q : pw_Q} {cz kz : Nat}
set_option maxRecDepth 100000 in
theorem pr_r0 {a0 : Int64} : ∀ G : ez_F, fx_up X 4 G 116 0 [.ref 20, .long a0, ez_fill] [] (ev_hp I J R T) cz kz = G 116 5 [.ref 20, .long a0, ez_fill, .long a0, ez_fill, .int (0 : Int32)] [] (ev_hp I J R T) cz kz := by
  intro G
  rfl
theorem pi_0 {z : Int64}
    (H : pw N X 116 5 [.ref 20, .long z, ez_fill, .long z, ez_fill, .int (0 : Int32)] [] (ev_hp I J R T) Q) : pw (N + 1) X 116 0 [.ref 20, .long z, ez_fill] [] (ev_hp I J R T) Q := by
  refine pw_seg (by decide) (fun _ _ => pr_r0) ?_
  exact H
set_option maxRecDepth 100000 in
theorem pr_r1 {a0 : Int64} {a1 : Int64} {a2 : Int32} : ∀ G : ez_F, fx_up X 3 G 116 5 [.ref 20, .long a0, ez_fill, .long a1, ez_fill, .int a2] [] (ev_hp I J R T) cz kz = bif decide ((36 : Int32) ≤ a2) then G 116 104 [.ref 20, .long a0, ez_fill, .long a1, ez_fill, .int a2] [] (ev_hp I J R T) cz kz else G 116 12 [.ref 20, .long a0, ez_fill, .long a1, ez_fill, .int a2] [] (ev_hp I J R T) cz kz := by
  intro G
  rfl
set_option maxRecDepth 100000 in
theorem pr_r2 {a0 : Int64} {a1 : Int64} {a2 : Int32} : ∀ G : ez_F, fx_up X 1 G 116 104 [.ref 20, .long a0, ez_fill, .long a1, ez_fill, .int a2] [] (ev_hp I J R T) cz kz = some (none, (ev_hp I J R T), cz, kz) := by
  intro G
  rfl
set_option maxRecDepth 100000 in
theorem pr_r3 {a0 : Int64} {a1 : Int64} {a2 : Int32} : ∀ G : ez_F, fx_up X 4 G 116 12 [.ref 20, .long a0, ez_fill, .long a1, ez_fill, .int a2] [] (ev_hp I J R T) cz kz = bif decide ((lg_cmp a1 (0 : Int64)) = (0 : Int32)) then G 116 104 [.ref 20, .long a0, ez_fill, .long a1, ez_fill, .int a2] [] (ev_hp I J R T) cz kz else G 116 18 [.ref 20, .long a0, ez_fill, .long a1, ez_fill, .int a2] [] (ev_hp I J R T) cz kz := by
  intro G
  rfl
set_option maxRecDepth 100000 in
theorem pr_r4 {a0 : Int64} {a1 : Int64} {a2 : Int32} : ∀ G : ez_F, fx_up X 2 G 116 18 [.ref 20, .long a0, ez_fill, .long a1, ez_fill, .int a2] [] (ev_hp I J R T) cz kz = ev_C G 239 [.long a1] (ev_hp I J R T) fun r h1 c1 k1 => G 116 22 [.ref 20, .long a0, ez_fill, .long a1, ez_fill, .int a2] (r.toList ++ []) h1 (cz + c1) (kz + k1) := by
  intro G
  rfl
theorem pi_5 {n : Int32} {z u : Int64}
    (H : (((36 : Int32) ≤ n → Q none (ev_hp I J R T)) ∧ (¬ ((36 : Int32) ≤ n) → (((lg_cmp u (0 : Int64)) = (0 : Int32) → Q none (ev_hp I J R T)) ∧ (¬ ((lg_cmp u (0 : Int64)) = (0 : Int32)) → (∃ Q1 : pw_Q, pe N X 239 [.long u] (ev_hp I J R T) Q1 ∧ ∀ (r : Option Value) (h1 : ez_H), Q1 r h1 → pw N X 116 22 [.ref 20, .long z, ez_fill, .long u, ez_fill, .int n] (r.toList ++ []) h1 Q)))))) : pw (N + 1) X 116 5 [.ref 20, .long z, ez_fill, .long u, ez_fill, .int n] [] (ev_hp I J R T) Q := by
  refine pw_if (by decide) (fun _ _ => pr_r1) (fun w1 => ?_) (fun w1 => ?_)
  · have h1 := H.1 w1
    exact pw_p (pw_ret (by decide) (fun _ _ => pr_r2) h1)
  · have h1 := H.2 w1
    refine pw_p (pw_if (by decide) (fun _ _ => pr_r3) (fun w2 => ?_) (fun w2 => ?_))
    · have h2 := h1.1 w2
      exact pw_p (pw_ret (by decide) (fun _ _ => pr_r2) h2)
    · have h2 := h1.2 w2
      obtain ⟨Q1, hc, hk⟩ := h2
      exact pw_p (pw_call (by decide) (fun _ _ => pr_r4) hc hk)
set_option maxRecDepth 100000 in
theorem pr_r5 {a0 : Int64} {a1 : Int64} {a2 : Int32} {a3 : Int32} : ∀ G : ez_F, fx_up X 11 G 116 22 [.ref 20, .long a0, ez_fill, .long a1, ez_fill, .int a2] [.int a3] (ev_hp I J R T) cz kz = G 116 36 [.ref 20, .long a0, ez_fill, .long (a1 &&& (a1 - (1 : Int64))), ez_fill, .int a2, .int a3, .long (a1 &&& (a1 - (1 : Int64))), ez_fill, .int (0 : Int32)] [] (ev_hp I J R T) cz kz := by
  intro G
  rfl
theorem pi_22 {n a : Int32} {z u : Int64}
    (H : pw N X 116 36 [.ref 20, .long z, ez_fill, .long (u &&& (u - (1 : Int64))), ez_fill, .int n, .int a, .long (u &&& (u - (1 : Int64))), ez_fill, .int (0 : Int32)] [] (ev_hp I J R T) Q) : pw (N + 1) X 116 22 [.ref 20, .long z, ez_fill, .long u, ez_fill, .int n] [.int a] (ev_hp I J R T) Q := by
  refine pw_seg (by decide) (fun _ _ => pr_r5) ?_
  exact H
set_option maxRecDepth 100000 in
theorem pr_r6 {a0 : Int64} {a1 : Int64} {a2 : Int32} {a3 : Int32} {a4 : Int64} {a5 : Int32} : ∀ G : ez_F, fx_up X 3 G 116 36 [.ref 20, .long a0, ez_fill, .long a1, ez_fill, .int a2, .int a3, .long a4, ez_fill, .int a5] [] (ev_hp I J R T) cz kz = bif decide ((36 : Int32) ≤ a5) then G 116 98 [.ref 20, .long a0, ez_fill, .long a1, ez_fill, .int a2, .int a3, .long a4, ez_fill, .int a5] [] (ev_hp I J R T) cz kz else G 116 43 [.ref 20, .long a0, ez_fill, .long a1, ez_fill, .int a2, .int a3, .long a4, ez_fill, .int a5] [] (ev_hp I J R T) cz kz := by
  intro G
  rfl
set_option maxRecDepth 100000 in
theorem pr_r7 {a0 : Int64} {a1 : Int64} {a2 : Int32} {a3 : Int32} {a4 : Int64} {a5 : Int32} : ∀ G : ez_F, fx_up X 2 G 116 98 [.ref 20, .long a0, ez_fill, .long a1, ez_fill, .int a2, .int a3, .long a4, ez_fill, .int a5] [] (ev_hp I J R T) cz kz = G 116 5 [.ref 20, .long a0, ez_fill, .long a1, ez_fill, .int (a2 + (1 : Int32)), .int a3, .long a4, ez_fill, .int a5] [] (ev_hp I J R T) cz kz := by
  intro G
  rfl
set_option maxRecDepth 100000 in
theorem pr_r8 {a0 : Int64} {a1 : Int64} {a2 : Int32} {a3 : Int32} {a4 : Int64} {a5 : Int32} : ∀ G : ez_F, fx_up X 4 G 116 43 [.ref 20, .long a0, ez_fill, .long a1, ez_fill, .int a2, .int a3, .long a4, ez_fill, .int a5] [] (ev_hp I J R T) cz kz = bif decide ((lg_cmp a4 (0 : Int64)) = (0 : Int32)) then G 116 98 [.ref 20, .long a0, ez_fill, .long a1, ez_fill, .int a2, .int a3, .long a4, ez_fill, .int a5] [] (ev_hp I J R T) cz kz else G 116 50 [.ref 20, .long a0, ez_fill, .long a1, ez_fill, .int a2, .int a3, .long a4, ez_fill, .int a5] [] (ev_hp I J R T) cz kz := by
  intro G
  rfl
set_option maxRecDepth 100000 in
theorem pr_r9 {a0 : Int64} {a1 : Int64} {a2 : Int32} {a3 : Int32} {a4 : Int64} {a5 : Int32} : ∀ G : ez_F, fx_up X 5 G 116 50 [.ref 20, .long a0, ez_fill, .long a1, ez_fill, .int a2, .int a3, .long a4, ez_fill, .int a5] [] (ev_hp I J R T) cz kz = ev_C G 239 [.long a4] (ev_hp I J R T) fun r h1 c1 k1 => G 116 60 [.ref 20, .long a0, ez_fill, .long a1, ez_fill, .int a2, .int a3, .long a4, ez_fill, .int a5] (r.toList ++ [.int ((36 : Int32) * a3)]) h1 (cz + c1) (kz + k1) := by
  intro G
  rfl
theorem pi_36 {n a m : Int32} {z u w : Int64}
    (H : (((36 : Int32) ≤ m → pw N X 116 5 [.ref 20, .long z, ez_fill, .long u, ez_fill, .int (n + (1 : Int32))] [] (ev_hp I J R T) Q) ∧ (¬ ((36 : Int32) ≤ m) → (((lg_cmp w (0 : Int64)) = (0 : Int32) → pw N X 116 5 [.ref 20, .long z, ez_fill, .long u, ez_fill, .int (n + (1 : Int32))] [] (ev_hp I J R T) Q) ∧ (¬ ((lg_cmp w (0 : Int64)) = (0 : Int32)) → (∃ Q1 : pw_Q, pe N X 239 [.long w] (ev_hp I J R T) Q1 ∧ ∀ (r : Option Value) (h1 : ez_H), Q1 r h1 → pw N X 116 60 [.ref 20, .long z, ez_fill, .long u, ez_fill, .int n, .int a, .long w, ez_fill, .int m] (r.toList ++ [.int ((36 : Int32) * a)]) h1 Q)))))) : pw (N + 1) X 116 36 [.ref 20, .long z, ez_fill, .long u, ez_fill, .int n, .int a, .long w, ez_fill, .int m] [] (ev_hp I J R T) Q := by
  refine pw_if (by decide) (fun _ _ => pr_r6) (fun w1 => ?_) (fun w1 => ?_)
  · have h1 := H.1 w1
    refine pw_p (pw_seg (by decide) (fun _ _ => pr_r7) ?_)
    refine pw_cutl (by rfl) ?_
    exact h1
  · have h1 := H.2 w1
    refine pw_p (pw_if (by decide) (fun _ _ => pr_r8) (fun w2 => ?_) (fun w2 => ?_))
    · have h2 := h1.1 w2
      refine pw_p (pw_seg (by decide) (fun _ _ => pr_r7) ?_)
      refine pw_cutl (by rfl) ?_
      exact h2
    · have h2 := h1.2 w2
      obtain ⟨Q1, hc, hk⟩ := h2
      exact pw_p (pw_call (by decide) (fun _ _ => pr_r9) hc hk)
set_option maxRecDepth 100000 in
theorem pr_r10 {a0 : Int64} {a1 : Int64} {a2 : Int32} {a3 : Int32} {a4 : Int64} {a5 : Int32} {a6 : Int32} {a7 : Int32} : ∀ G : ez_F, fx_up X 9 G 116 60 [.ref 20, .long a0, ez_fill, .long a1, ez_fill, .int a2, .int a3, .long a4, ez_fill, .int a5] [.int a6, .int a7] (ev_hp I J R T) cz kz = ev_C G 3 [.ref 21, .int (a7 + a6)] (ev_hp I J R T) fun r h1 c1 k1 => G 116 78 [.ref 20, .long a0, ez_fill, .long a1, ez_fill, .int a2, .int a3, .long a4, ez_fill, .int a5, .int (a7 + a6)] (r.toList ++ [.int (a7 + a6), .ref 21]) h1 (cz + c1) (kz + k1) := by
  intro G
  rfl
set_option maxRecDepth 100000 in
theorem pr_r11 {a0 : Int64} {a1 : Int64} {a2 : Int32} {a3 : Int32} {a4 : Int64} {a5 : Int32} {a6 : Int32} {a7 : Int32} {a8 : Int32} : ∀ G : ez_F, fx_up X 3 G 116 78 [.ref 20, .long a0, ez_fill, .long a1, ez_fill, .int a2, .int a3, .long a4, ez_fill, .int a5, .int a6] [.int a7, .int a8, .ref 21] (ev_hp I J R T) cz kz = ev_C G 38 [.ref 21, .int a8, .int (a7 + (1 : Int32))] (ev_hp I J R T) fun r h1 c1 k1 => G 116 83 [.ref 20, .long a0, ez_fill, .long a1, ez_fill, .int a2, .int a3, .long a4, ez_fill, .int a5, .int a6] (r.toList ++ []) h1 (cz + c1) (kz + k1) := by
  intro G
  rfl
set_option maxRecDepth 100000 in
theorem pr_r12 {a0 : Int64} {a1 : Int64} {a2 : Int32} {a3 : Int32} {a4 : Int64} {a5 : Int32} {a6 : Int32} : ∀ G : ez_F, fx_up X 8 G 116 83 [.ref 20, .long a0, ez_fill, .long a1, ez_fill, .int a2, .int a3, .long a4, ez_fill, .int a5, .int a6] [] (ev_hp I J R T) cz kz = G 116 36 [.ref 20, .long a0, ez_fill, .long a1, ez_fill, .int a2, .int a3, .long (a4 &&& (a4 - (1 : Int64))), ez_fill, .int (a5 + (1 : Int32)), .int a6] [] (ev_hp I J R T) cz kz := by
  intro G
  rfl
theorem pi_60 {n a m v b : Int32} {z u w : Int64}
    (H : pw N X 116 36 [.ref 20, .long z, ez_fill, .long u, ez_fill, .int n, .int a, .long (w &&& (w - (1 : Int64))), ez_fill, .int (m + (1 : Int32))] [] (ev_hp (ev_sI I 21 (ev_put 1296 (I 21) (b + v) ((ev_at 1296 (I 21) (b + v)) + (1 : Int32)))) J R T) Q) : pw (N + 1) X 116 60 [.ref 20, .long z, ez_fill, .long u, ez_fill, .int n, .int a, .long w, ez_fill, .int m] [.int v, .int b] (ev_hp I J R T) Q := by
  refine pw_callp (by decide) (fun _ _ => pr_r10) (pe_at (show cx_Ds[21]? = some (0, 1296, []) from rfl) (by decide)) ?_
  refine pw_p (pw_callp (by decide) (fun _ _ => pr_r11) (pe_put (show cx_Ds[21]? = some (0, 1296, []) from rfl) (by decide)) ?_)
  refine pw_p (pw_seg (by decide) (fun _ _ => pr_r12) ?_)
  refine pw_cutl (by rfl) ?_
  exact H
set_option maxRecDepth 100000 in
theorem pr_r13  : ∀ G : ez_F, fx_up X 2 G 115 0 [.ref 20] [] (ev_hp I J R T) cz kz = G 115 2 [.ref 20, .int (0 : Int32)] [] (ev_hp I J R T) cz kz := by
  intro G
  rfl
theorem pu_0 
    (H : pw N X 115 2 [.ref 20, .int (0 : Int32)] [] (ev_hp I J R T) Q) : pw (N + 1) X 115 0 [.ref 20] [] (ev_hp I J R T) Q := by
  refine pw_seg (by decide) (fun _ _ => pr_r13) ?_
  exact H
set_option maxRecDepth 100000 in
theorem pr_r14 {a0 : Int32} : ∀ G : ez_F, fx_up X 3 G 115 2 [.ref 20, .int a0] [] (ev_hp I J R T) cz kz = G 115 7 [.ref 20, .int a0] [.ref 21, .int a0] (ev_hp I J R T) cz kz := by
  intro G
  rfl
set_option maxRecDepth 100000 in
theorem pr_r15 {a0 : Int32} {a1 : Int32} {a2 : Int32} : ∀ G : ez_F, fx_up X 1 G 115 8 [.ref 20, .int a0] [.int a1, .int a2] (ev_hp I J R T) cz kz = bif decide (a1 ≤ a2) then G 115 24 [.ref 20, .int a0] [] (ev_hp I J R T) cz kz else G 115 11 [.ref 20, .int a0] [] (ev_hp I J R T) cz kz := by
  intro G
  rfl
set_option maxRecDepth 100000 in
theorem pr_r16 {a0 : Int32} : ∀ G : ez_F, fx_up X 2 G 115 24 [.ref 20, .int a0] [] (ev_hp I J R T) cz kz = G 115 26 [.ref 20, .int (0 : Int32)] [] (ev_hp I J R T) cz kz := by
  intro G
  rfl
set_option maxRecDepth 100000 in
theorem pr_r17 {a0 : Int32} : ∀ G : ez_F, fx_up X 4 G 115 11 [.ref 20, .int a0] [] (ev_hp I J R T) cz kz = G 115 17 [.ref 20, .int a0] [.int (0 : Int32), .int a0, .ref 21] (ev_hp I J R T) cz kz := by
  intro G
  rfl
set_option maxRecDepth 100000 in
theorem pr_r18 {a0 : Int32} : ∀ G : ez_F, fx_up X 2 G 115 18 [.ref 20, .int a0] [] (ev_hp I J R T) cz kz = G 115 2 [.ref 20, .int (a0 + (1 : Int32))] [] (ev_hp I J R T) cz kz := by
  intro G
  rfl
theorem pu_2 {i : Int32}
    (H : (((Int32.ofNat 1296) ≤ i → pw N X 115 26 [.ref 20, .int (0 : Int32)] [] (ev_hp I J R T) Q) ∧ (¬ ((Int32.ofNat 1296) ≤ i) → (ev_ix i 1296 → pw N X 115 2 [.ref 20, .int (i + (1 : Int32))] [] (ev_hp (ev_sI I 21 (upd (I 21) i.toNatClampNeg (0 : Int32))) J R T) Q)))) : pw (N + 1) X 115 2 [.ref 20, .int i] [] (ev_hp I J R T) Q := by
  refine pw_seg (by decide) (fun _ _ => pr_r14) ?_
  refine pw_p (pw_alenI (by rfl) (cx_getI (show cx_Ds[21]? = some (0, 1296, []) from rfl)) ?_)
  refine pw_p (pw_if (by decide) (fun _ _ => pr_r15) (fun w1 => ?_) (fun w1 => ?_))
  · have h1 := H.1 w1
    refine pw_p (pw_seg (by decide) (fun _ _ => pr_r16) ?_)
    exact h1
  · have h1 := H.2 w1
    refine pw_p (pw_seg (by decide) (fun _ _ => pr_r17) ?_)
    refine pw_p (pw_iast (by rfl) (cx_getI (show cx_Ds[21]? = some (0, 1296, []) from rfl)) (cx_setI (show cx_Ds[21]? = some (0, 1296, []) from rfl) _) (fun w2 => ?_))
    have h2 := h1 w2
    refine pw_p (pw_seg (by decide) (fun _ _ => pr_r18) ?_)
    exact h2
set_option maxRecDepth 100000 in
theorem pr_r19 {a0 : Int32} : ∀ G : ez_F, fx_up X 4 G 115 26 [.ref 20, .int a0] [] (ev_hp I J R T) cz kz = G 115 34 [.ref 20, .int a0] [.int (I 6 3), .int a0] (ev_hp I J R T) cz kz := by
  intro G
  rfl
set_option maxRecDepth 100000 in
theorem pr_r20 {a0 : Int32} {a1 : Int32} {a2 : Int32} : ∀ G : ez_F, fx_up X 1 G 115 34 [.ref 20, .int a0] [.int a1, .int a2] (ev_hp I J R T) cz kz = bif decide (a1 ≤ a2) then G 115 66 [.ref 20, .int a0] [] (ev_hp I J R T) cz kz else G 115 37 [.ref 20, .int a0] [] (ev_hp I J R T) cz kz := by
  intro G
  rfl
set_option maxRecDepth 100000 in
theorem pr_r21 {a0 : Int32} : ∀ G : ez_F, fx_up X 1 G 115 66 [.ref 20, .int a0] [] (ev_hp I J R T) cz kz = some (none, (ev_hp I J R T), cz, kz) := by
  intro G
  rfl
set_option maxRecDepth 100000 in
theorem pr_r22 {a0 : Int32} : ∀ G : ez_F, fx_up X 4 G 115 37 [.ref 20, .int a0] [] (ev_hp I J R T) cz kz = ev_C G 109 [.ref 13, .int a0] (ev_hp I J R T) fun r h1 c1 k1 => G 115 45 [.ref 20, .int a0] (r.toList ++ []) h1 (cz + c1) (kz + k1) := by
  intro G
  rfl
theorem pu_26 {k : Int32}
    (H : (((I 6 3) ≤ k → Q none (ev_hp I J R T)) ∧ (¬ ((I 6 3) ≤ k) → (∃ Q1 : pw_Q, pe N X 109 [.ref 13, .int k] (ev_hp I J R T) Q1 ∧ ∀ (r : Option Value) (h1 : ez_H), Q1 r h1 → pw N X 115 45 [.ref 20, .int k] (r.toList ++ []) h1 Q)))) : pw (N + 1) X 115 26 [.ref 20, .int k] [] (ev_hp I J R T) Q := by
  refine pw_seg (by decide) (fun _ _ => pr_r19) ?_
  refine pw_p (pw_if (by decide) (fun _ _ => pr_r20) (fun w1 => ?_) (fun w1 => ?_))
  · have h1 := H.1 w1
    exact pw_p (pw_ret (by decide) (fun _ _ => pr_r21) h1)
  · have h1 := H.2 w1
    obtain ⟨Q1, hc, hk⟩ := h1
    exact pw_p (pw_call (by decide) (fun _ _ => pr_r22) hc hk)
set_option maxRecDepth 100000 in
theorem pr_r23 {a0 : Int32} {a1 : Int32} : ∀ G : ez_F, fx_up X 1 G 115 45 [.ref 20, .int a0] [.int a1] (ev_hp I J R T) cz kz = bif decide (a1 = (0 : Int32)) then G 115 60 [.ref 20, .int a0] [] (ev_hp I J R T) cz kz else G 115 48 [.ref 20, .int a0] [] (ev_hp I J R T) cz kz := by
  intro G
  rfl
set_option maxRecDepth 100000 in
theorem pr_r24 {a0 : Int32} : ∀ G : ez_F, fx_up X 2 G 115 60 [.ref 20, .int a0] [] (ev_hp I J R T) cz kz = G 115 26 [.ref 20, .int (a0 + (1 : Int32))] [] (ev_hp I J R T) cz kz := by
  intro G
  rfl
set_option maxRecDepth 100000 in
theorem pr_r25 {a0 : Int32} : ∀ G : ez_F, fx_up X 5 G 115 48 [.ref 20, .int a0] [] (ev_hp I J R T) cz kz = ev_C G 111 [.ref 13, .int a0] (ev_hp I J R T) fun r h1 c1 k1 => G 115 57 [.ref 20, .int a0] (r.toList ++ [.ref 20]) h1 (cz + c1) (kz + k1) := by
  intro G
  rfl
theorem pu_45 {k v : Int32}
    (H : ((v = (0 : Int32) → pw N X 115 26 [.ref 20, .int (k + (1 : Int32))] [] (ev_hp I J R T) Q) ∧ (¬ (v = (0 : Int32)) → (∃ Q1 : pw_Q, pe N X 111 [.ref 13, .int k] (ev_hp I J R T) Q1 ∧ ∀ (r : Option Value) (h1 : ez_H), Q1 r h1 → pw N X 115 57 [.ref 20, .int k] (r.toList ++ [.ref 20]) h1 Q)))) : pw (N + 1) X 115 45 [.ref 20, .int k] [.int v] (ev_hp I J R T) Q := by
  refine pw_if (by decide) (fun _ _ => pr_r23) (fun w1 => ?_) (fun w1 => ?_)
  · have h1 := H.1 w1
    refine pw_p (pw_seg (by decide) (fun _ _ => pr_r24) ?_)
    exact h1
  · have h1 := H.2 w1
    obtain ⟨Q1, hc, hk⟩ := h1
    exact pw_p (pw_call (by decide) (fun _ _ => pr_r25) hc hk)
set_option maxRecDepth 100000 in
theorem pr_r26 {a0 : Int32} {a1 : Int64} : ∀ G : ez_F, fx_up X 1 G 115 57 [.ref 20, .int a0] [.long a1, .ref 20] (ev_hp I J R T) cz kz = ev_C G 116 [.ref 20, .long a1] (ev_hp I J R T) fun r h1 c1 k1 => G 115 60 [.ref 20, .int a0] (r.toList ++ []) h1 (cz + c1) (kz + k1) := by
  intro G
  rfl
theorem pu_57 {k : Int32} {z : Int64}
    (H : (∃ Q1 : pw_Q, pe N X 116 [.ref 20, .long z] (ev_hp I J R T) Q1 ∧ ∀ (r : Option Value) (h1 : ez_H), Q1 r h1 → pw N X 115 60 [.ref 20, .int k] (r.toList ++ []) h1 Q)) : pw (N + 1) X 115 57 [.ref 20, .int k] [.long z, .ref 20] (ev_hp I J R T) Q := by
  obtain ⟨Q1, hc, hk⟩ := H
  exact pw_call (by decide) (fun _ _ => pr_r26) hc hk
theorem pu_60 {k : Int32}
    (H : pw N X 115 26 [.ref 20, .int (k + (1 : Int32))] [] (ev_hp I J R T) Q) : pw (N + 1) X 115 60 [.ref 20, .int k] [] (ev_hp I J R T) Q := by
  refine pw_seg (by decide) (fun _ _ => pr_r24) ?_
  exact H
set_option maxRecDepth 100000 in
theorem pr_r27 {a0 : Int32} {a1 : Int32} : ∀ G : ez_F, fx_up X 8 G 118 0 [.ref 20, .ref 14, .int a0, .int a1] [] (ev_hp I J R T) cz kz = ev_C G 3 [.ref 21, .int (((36 : Int32) * a0) + a1)] (ev_hp I J R T) fun r h1 c1 k1 => G 118 13 [.ref 20, .ref 14, .int a0, .int a1] (r.toList ++ []) h1 (cz + c1) (kz + k1) := by
  intro G
  rfl
set_option maxRecDepth 100000 in
theorem pr_r28 {a0 : Int32} {a1 : Int32} {a2 : Int32} : ∀ G : ez_F, fx_up X 4 G 118 13 [.ref 20, .ref 14, .int a0, .int a1] [.int a2] (ev_hp I J R T) cz kz = ev_C G 163 [.ref 14, .int a0] (ev_hp I J R T) fun r h1 c1 k1 => G 118 20 [.ref 20, .ref 14, .int a0, .int a1, .int a2] (r.toList ++ []) h1 (cz + c1) (kz + k1) := by
  intro G
  rfl
set_option maxRecDepth 100000 in
theorem pr_r29 {a0 : Int32} {a1 : Int32} {a2 : Int32} {a3 : Int32} : ∀ G : ez_F, fx_up X 3 G 118 20 [.ref 20, .ref 14, .int a0, .int a1, .int a2] [.int a3] (ev_hp I J R T) cz kz = ev_C G 163 [.ref 14, .int a1] (ev_hp I J R T) fun r h1 c1 k1 => G 118 25 [.ref 20, .ref 14, .int a0, .int a1, .int a2] (r.toList ++ [.int a3]) h1 (cz + c1) (kz + k1) := by
  intro G
  rfl
set_option maxRecDepth 100000 in
theorem pr_r30 {a0 : Int32} {a1 : Int32} {a2 : Int32} {a3 : Int32} {a4 : Int32} : ∀ G : ez_F, fx_up X 10 G 118 25 [.ref 20, .ref 14, .int a0, .int a1, .int a2] [.int a3, .int a4] (ev_hp I J R T) cz kz = G 118 41 [.ref 20, .ref 14, .int a0, .int a1, .int a2, .int (a4 + a3)] [.int (I 14 2), .int ((a4 + a3) - ((2 : Int32) * a2)), .int a2] (ev_hp I J R T) cz kz := by
  intro G
  rfl
set_option maxRecDepth 100000 in
theorem pr_r31 {a0 : Int32} {a1 : Int32} {a2 : Int32} {a3 : Int32} {a4 : Int32} {a5 : Int32} {a6 : Int32} : ∀ G : ez_F, fx_up X 7 G 118 41 [.ref 20, .ref 14, .int a0, .int a1, .int a2, .int a3] [.int a4, .int a5, .int a6] (ev_hp I J R T) cz kz = some (some (.int (if a6 < (if a5 < ((a4 - a3) + a2) then ((a4 - a3) + a2) else a5) then (if a5 < ((a4 - a3) + a2) then ((a4 - a3) + a2) else a5) else a6)), (ev_hp I J R T), cz, kz) := by
  intro G
  rfl
theorem pg_0 {a b : Int32}
    (H : Q (some (.int (if (ev_at 1296 (I 21) (((36 : Int32) * a) + b)) < (if (((ev_at 36 (I 15) a) + (ev_at 36 (I 15) b)) - ((2 : Int32) * (ev_at 1296 (I 21) (((36 : Int32) * a) + b)))) < (((I 14 2) - ((ev_at 36 (I 15) a) + (ev_at 36 (I 15) b))) + (ev_at 1296 (I 21) (((36 : Int32) * a) + b))) then (((I 14 2) - ((ev_at 36 (I 15) a) + (ev_at 36 (I 15) b))) + (ev_at 1296 (I 21) (((36 : Int32) * a) + b))) else (((ev_at 36 (I 15) a) + (ev_at 36 (I 15) b)) - ((2 : Int32) * (ev_at 1296 (I 21) (((36 : Int32) * a) + b))))) then (if (((ev_at 36 (I 15) a) + (ev_at 36 (I 15) b)) - ((2 : Int32) * (ev_at 1296 (I 21) (((36 : Int32) * a) + b)))) < (((I 14 2) - ((ev_at 36 (I 15) a) + (ev_at 36 (I 15) b))) + (ev_at 1296 (I 21) (((36 : Int32) * a) + b))) then (((I 14 2) - ((ev_at 36 (I 15) a) + (ev_at 36 (I 15) b))) + (ev_at 1296 (I 21) (((36 : Int32) * a) + b))) else (((ev_at 36 (I 15) a) + (ev_at 36 (I 15) b)) - ((2 : Int32) * (ev_at 1296 (I 21) (((36 : Int32) * a) + b))))) else (ev_at 1296 (I 21) (((36 : Int32) * a) + b))))) (ev_hp I J R T)) : pw (N + 1) X 118 0 [.ref 20, .ref 14, .int a, .int b] [] (ev_hp I J R T) Q := by
  refine pw_callp (by decide) (fun _ _ => pr_r27) (pe_at (show cx_Ds[21]? = some (0, 1296, []) from rfl) (by decide)) ?_
  refine pw_p (pw_callp (by decide) (fun _ _ => pr_r28) (pe_shipsAt) ?_)
  refine pw_p (pw_callp (by decide) (fun _ _ => pr_r29) (pe_shipsAt) ?_)
  refine pw_p (pw_seg (by decide) (fun _ _ => pr_r30) ?_)
  exact pw_p (pw_ret (by decide) (fun _ _ => pr_r31) H)
set_option maxRecDepth 100000 in
theorem pr_r32 {a0 : Int32} : ∀ G : ez_F, fx_up X 2 G 119 0 [.ref 20, .ref 14, .int a0] [] (ev_hp I J R T) cz kz = G 119 4 [.ref 20, .ref 14, .int a0] [.int (I 20 3)] (ev_hp I J R T) cz kz := by
  intro G
  rfl
set_option maxRecDepth 100000 in
theorem pr_r33 {a0 : Int32} {a1 : Int32} : ∀ G : ez_F, fx_up X 1 G 119 4 [.ref 20, .ref 14, .int a0] [.int a1] (ev_hp I J R T) cz kz = bif decide (a1 = (0 : Int32)) then G 119 8 [.ref 20, .ref 14, .int a0] [] (ev_hp I J R T) cz kz else G 119 7 [.ref 20, .ref 14, .int a0] [] (ev_hp I J R T) cz kz := by
  intro G
  rfl
set_option maxRecDepth 100000 in
theorem pr_r34 {a0 : Int32} : ∀ G : ez_F, fx_up X 2 G 119 8 [.ref 20, .ref 14, .int a0] [] (ev_hp I J R T) cz kz = ev_C G 115 [.ref 20] (ev_hp I J R T) fun r h1 c1 k1 => G 119 12 [.ref 20, .ref 14, .int a0] (r.toList ++ []) h1 (cz + c1) (kz + k1) := by
  intro G
  rfl
set_option maxRecDepth 100000 in
theorem pr_r35 {a0 : Int32} : ∀ G : ez_F, fx_up X 1 G 119 7 [.ref 20, .ref 14, .int a0] [] (ev_hp I J R T) cz kz = some (none, (ev_hp I J R T), cz, kz) := by
  intro G
  rfl
theorem ps_0 {c : Int32}
    (H : (((I 20 3) = (0 : Int32) → (∃ Q1 : pw_Q, pe N X 115 [.ref 20] (ev_hp I J R T) Q1 ∧ ∀ (r : Option Value) (h1 : ez_H), Q1 r h1 → pw N X 119 12 [.ref 20, .ref 14, .int c] (r.toList ++ []) h1 Q)) ∧ (¬ ((I 20 3) = (0 : Int32)) → Q none (ev_hp I J R T)))) : pw (N + 1) X 119 0 [.ref 20, .ref 14, .int c] [] (ev_hp I J R T) Q := by
  refine pw_seg (by decide) (fun _ _ => pr_r32) ?_
  refine pw_p (pw_if (by decide) (fun _ _ => pr_r33) (fun w1 => ?_) (fun w1 => ?_))
  · have h1 := H.1 w1
    obtain ⟨Q1, hc, hk⟩ := h1
    exact pw_p (pw_call (by decide) (fun _ _ => pr_r34) hc hk)
  · have h1 := H.2 w1
    exact pw_p (pw_ret (by decide) (fun _ _ => pr_r35) h1)
set_option maxRecDepth 100000 in
theorem pr_r36 {a0 : Int32} : ∀ G : ez_F, fx_up X 3 G 119 12 [.ref 20, .ref 14, .int a0] [] (ev_hp I J R T) cz kz = G 119 17 [.ref 20, .ref 14, .int a0] [.int (I 14 2), .ref 20] (ev_hp I J R T) cz kz := by
  intro G
  rfl
set_option maxRecDepth 100000 in
theorem pr_r37 {a0 : Int32} {a1 : Int32} : ∀ G : ez_F, fx_up X 3 G 119 17 [.ref 20, .ref 14, .int a0] [.int a1, .ref 20] (ev_hp I J R T) cz kz = G 119 22 [.ref 20, .ref 14, .int a0] [] (ev_hp (ev_sI I 20 (upd (I 20) 6 (a1 + (1 : Int32)))) J R T) cz kz := by
  intro G
  rfl
set_option maxRecDepth 100000 in
theorem pr_r38 {a0 : Int32} : ∀ G : ez_F, fx_up X 2 G 119 22 [.ref 20, .ref 14, .int a0] [] (ev_hp I J R T) cz kz = G 119 24 [.ref 20, .ref 14, .int a0, .int (0 : Int32)] [] (ev_hp I J R T) cz kz := by
  intro G
  rfl
theorem ps_12 {c : Int32}
    (H : pw N X 119 24 [.ref 20, .ref 14, .int c, .int (0 : Int32)] [] (ev_hp (ev_sI I 20 (upd (I 20) 6 ((I 14 2) + (1 : Int32)))) J R T) Q) : pw (N + 1) X 119 12 [.ref 20, .ref 14, .int c] [] (ev_hp I J R T) Q := by
  refine pw_seg (by decide) (fun _ _ => pr_r36) ?_
  refine pw_p (pw_seg (by decide) (fun _ _ => pr_r37) ?_)
  refine pw_p (pw_seg (by decide) (fun _ _ => pr_r38) ?_)
  exact H
set_option maxRecDepth 100000 in
theorem pr_r39 {a0 : Int32} {a1 : Int32} : ∀ G : ez_F, fx_up X 3 G 119 24 [.ref 20, .ref 14, .int a0, .int a1] [] (ev_hp I J R T) cz kz = bif decide (a0 ≤ a1) then G 119 88 [.ref 20, .ref 14, .int a0, .int a1] [] (ev_hp I J R T) cz kz else G 119 29 [.ref 20, .ref 14, .int a0, .int a1] [] (ev_hp I J R T) cz kz := by
  intro G
  rfl
set_option maxRecDepth 100000 in
theorem pr_r40 {a0 : Int32} {a1 : Int32} : ∀ G : ez_F, fx_up X 3 G 119 88 [.ref 20, .ref 14, .int a0, .int a1] [] (ev_hp I J R T) cz kz = G 119 93 [.ref 20, .ref 14, .int a0, .int a1] [] (ev_hp (ev_sI I 20 (upd (I 20) 3 (1 : Int32))) J R T) cz kz := by
  intro G
  rfl
set_option maxRecDepth 100000 in
theorem pr_r41 {a0 : Int32} {a1 : Int32} : ∀ G : ez_F, fx_up X 1 G 119 93 [.ref 20, .ref 14, .int a0, .int a1] [] (ev_hp I J R T) cz kz = some (none, (ev_hp I J R T), cz, kz) := by
  intro G
  rfl
set_option maxRecDepth 100000 in
theorem pr_r42 {a0 : Int32} {a1 : Int32} : ∀ G : ez_F, fx_up X 4 G 119 29 [.ref 20, .ref 14, .int a0, .int a1] [] (ev_hp I J R T) cz kz = G 119 34 [.ref 20, .ref 14, .int a0, .int a1, .int (a1 + (1 : Int32))] [] (ev_hp I J R T) cz kz := by
  intro G
  rfl
theorem ps_24 {c a : Int32}
    (H : ((c ≤ a → Q none (ev_hp (ev_sI I 20 (upd (I 20) 3 (1 : Int32))) J R T)) ∧ (¬ (c ≤ a) → pw N X 119 34 [.ref 20, .ref 14, .int c, .int a, .int (a + (1 : Int32))] [] (ev_hp I J R T) Q))) : pw (N + 1) X 119 24 [.ref 20, .ref 14, .int c, .int a] [] (ev_hp I J R T) Q := by
  refine pw_if (by decide) (fun _ _ => pr_r39) (fun w1 => ?_) (fun w1 => ?_)
  · have h1 := H.1 w1
    refine pw_p (pw_seg (by decide) (fun _ _ => pr_r40) ?_)
    exact pw_p (pw_ret (by decide) (fun _ _ => pr_r41) h1)
  · have h1 := H.2 w1
    refine pw_p (pw_seg (by decide) (fun _ _ => pr_r42) ?_)
    exact h1
set_option maxRecDepth 100000 in
theorem pr_r43 {a0 : Int32} {a1 : Int32} {a2 : Int32} : ∀ G : ez_F, fx_up X 3 G 119 34 [.ref 20, .ref 14, .int a0, .int a1, .int a2] [] (ev_hp I J R T) cz kz = bif decide (a0 ≤ a2) then G 119 82 [.ref 20, .ref 14, .int a0, .int a1, .int a2] [] (ev_hp I J R T) cz kz else G 119 40 [.ref 20, .ref 14, .int a0, .int a1, .int a2] [] (ev_hp I J R T) cz kz := by
  intro G
  rfl
set_option maxRecDepth 100000 in
theorem pr_r44 {a0 : Int32} {a1 : Int32} {a2 : Int32} : ∀ G : ez_F, fx_up X 2 G 119 82 [.ref 20, .ref 14, .int a0, .int a1, .int a2] [] (ev_hp I J R T) cz kz = G 119 24 [.ref 20, .ref 14, .int a0, .int (a1 + (1 : Int32)), .int a2] [] (ev_hp I J R T) cz kz := by
  intro G
  rfl
set_option maxRecDepth 100000 in
theorem pr_r45 {a0 : Int32} {a1 : Int32} {a2 : Int32} : ∀ G : ez_F, fx_up X 5 G 119 40 [.ref 20, .ref 14, .int a0, .int a1, .int a2] [] (ev_hp I J R T) cz kz = ev_C G 118 [.ref 20, .ref 14, .int a1, .int a2] (ev_hp I J R T) fun r h1 c1 k1 => G 119 48 [.ref 20, .ref 14, .int a0, .int a1, .int a2] (r.toList ++ []) h1 (cz + c1) (kz + k1) := by
  intro G
  rfl
theorem ps_34 {c a b : Int32}
    (H : ((c ≤ b → pw N X 119 24 [.ref 20, .ref 14, .int c, .int (a + (1 : Int32))] [] (ev_hp I J R T) Q) ∧ (¬ (c ≤ b) → (∃ Q1 : pw_Q, pe N X 118 [.ref 20, .ref 14, .int a, .int b] (ev_hp I J R T) Q1 ∧ ∀ (r : Option Value) (h1 : ez_H), Q1 r h1 → pw N X 119 48 [.ref 20, .ref 14, .int c, .int a, .int b] (r.toList ++ []) h1 Q)))) : pw (N + 1) X 119 34 [.ref 20, .ref 14, .int c, .int a, .int b] [] (ev_hp I J R T) Q := by
  refine pw_if (by decide) (fun _ _ => pr_r43) (fun w1 => ?_) (fun w1 => ?_)
  · have h1 := H.1 w1
    refine pw_p (pw_seg (by decide) (fun _ _ => pr_r44) ?_)
    refine pw_cutl (by rfl) ?_
    exact h1
  · have h1 := H.2 w1
    obtain ⟨Q1, hc, hk⟩ := h1
    exact pw_p (pw_call (by decide) (fun _ _ => pr_r45) hc hk)
set_option maxRecDepth 100000 in
theorem pr_r46 {a0 : Int32} {a1 : Int32} {a2 : Int32} {a3 : Int32} : ∀ G : ez_F, fx_up X 4 G 119 48 [.ref 20, .ref 14, .int a0, .int a1, .int a2] [.int a3] (ev_hp I J R T) cz kz = G 119 56 [.ref 20, .ref 14, .int a0, .int a1, .int a2, .int a3] [.int (I 20 6), .int a3] (ev_hp I J R T) cz kz := by
  intro G
  rfl
set_option maxRecDepth 100000 in
theorem pr_r47 {a0 : Int32} {a1 : Int32} {a2 : Int32} {a3 : Int32} {a4 : Int32} {a5 : Int32} : ∀ G : ez_F, fx_up X 1 G 119 56 [.ref 20, .ref 14, .int a0, .int a1, .int a2, .int a3] [.int a4, .int a5] (ev_hp I J R T) cz kz = bif decide (a4 ≤ a5) then G 119 76 [.ref 20, .ref 14, .int a0, .int a1, .int a2, .int a3] [] (ev_hp I J R T) cz kz else G 119 59 [.ref 20, .ref 14, .int a0, .int a1, .int a2, .int a3] [] (ev_hp I J R T) cz kz := by
  intro G
  rfl
set_option maxRecDepth 100000 in
theorem pr_r48 {a0 : Int32} {a1 : Int32} {a2 : Int32} {a3 : Int32} : ∀ G : ez_F, fx_up X 2 G 119 76 [.ref 20, .ref 14, .int a0, .int a1, .int a2, .int a3] [] (ev_hp I J R T) cz kz = G 119 34 [.ref 20, .ref 14, .int a0, .int a1, .int (a2 + (1 : Int32)), .int a3] [] (ev_hp I J R T) cz kz := by
  intro G
  rfl
set_option maxRecDepth 100000 in
theorem pr_r49 {a0 : Int32} {a1 : Int32} {a2 : Int32} {a3 : Int32} : ∀ G : ez_F, fx_up X 3 G 119 59 [.ref 20, .ref 14, .int a0, .int a1, .int a2, .int a3] [] (ev_hp I J R T) cz kz = G 119 64 [.ref 20, .ref 14, .int a0, .int a1, .int a2, .int a3] [] (ev_hp (ev_sI I 20 (upd (I 20) 4 a1)) J R T) cz kz := by
  intro G
  rfl
set_option maxRecDepth 100000 in
theorem pr_r50 {a0 : Int32} {a1 : Int32} {a2 : Int32} {a3 : Int32} : ∀ G : ez_F, fx_up X 3 G 119 64 [.ref 20, .ref 14, .int a0, .int a1, .int a2, .int a3] [] (ev_hp I J R T) cz kz = G 119 70 [.ref 20, .ref 14, .int a0, .int a1, .int a2, .int a3] [] (ev_hp (ev_sI I 20 (upd (I 20) 5 a2)) J R T) cz kz := by
  intro G
  rfl
set_option maxRecDepth 100000 in
theorem pr_r51 {a0 : Int32} {a1 : Int32} {a2 : Int32} {a3 : Int32} : ∀ G : ez_F, fx_up X 3 G 119 70 [.ref 20, .ref 14, .int a0, .int a1, .int a2, .int a3] [] (ev_hp I J R T) cz kz = G 119 76 [.ref 20, .ref 14, .int a0, .int a1, .int a2, .int a3] [] (ev_hp (ev_sI I 20 (upd (I 20) 6 a3)) J R T) cz kz := by
  intro G
  rfl
theorem ps_48 {c a b v : Int32}
    (H : (((I 20 6) ≤ v → pw N X 119 34 [.ref 20, .ref 14, .int c, .int a, .int (b + (1 : Int32))] [] (ev_hp I J R T) Q) ∧ (¬ ((I 20 6) ≤ v) → pw N X 119 34 [.ref 20, .ref 14, .int c, .int a, .int (b + (1 : Int32))] [] (ev_hp (ev_sI (ev_sI (ev_sI I 20 (upd (I 20) 4 a)) 20 (upd (upd (I 20) 4 a) 5 b)) 20 (upd (upd (upd (I 20) 4 a) 5 b) 6 v)) J R T) Q))) : pw (N + 1) X 119 48 [.ref 20, .ref 14, .int c, .int a, .int b] [.int v] (ev_hp I J R T) Q := by
  refine pw_seg (by decide) (fun _ _ => pr_r46) ?_
  refine pw_p (pw_if (by decide) (fun _ _ => pr_r47) (fun w1 => ?_) (fun w1 => ?_))
  · have h1 := H.1 w1
    refine pw_p (pw_seg (by decide) (fun _ _ => pr_r48) ?_)
    refine pw_cutl (by rfl) ?_
    exact h1
  · have h1 := H.2 w1
    refine pw_p (pw_seg (by decide) (fun _ _ => pr_r49) ?_)
    refine pw_p (pw_seg (by decide) (fun _ _ => pr_r50) ?_)
    refine pw_p (pw_seg (by decide) (fun _ _ => pr_r51) ?_)
    refine pw_p (pw_seg (by decide) (fun _ _ => pr_r48) ?_)
    refine pw_cutl (by rfl) ?_
    exact h1
set_option maxRecDepth 100000 in
theorem pr_r52 {a0 : Int32} : ∀ G : ez_F, fx_up X 2 G 111 0 [.ref 13, .int a0] [] (ev_hp I J R T) cz kz = G 111 4 [.ref 13, .int a0] [.ref (R 2)] (ev_hp I J R T) cz kz := by
  intro G
  rfl
set_option maxRecDepth 100000 in
theorem pr_r53 {a0 : Int32} {a1 : Nat} : ∀ G : ez_F, fx_up X 2 G 111 4 [.ref 13, .int a0] [.ref a1] (ev_hp I J R T) cz kz = ev_C G 4 [.ref a1, .int a0] (ev_hp I J R T) fun r h1 c1 k1 => G 111 8 [.ref 13, .int a0] (r.toList ++ []) h1 (cz + c1) (kz + k1) := by
  intro G
  rfl
theorem po_0 {k : Int32}
    (H : (∃ Q1 : pw_Q, pe N X 4 [.ref (R 2), .int k] (ev_hp I J R T) Q1 ∧ ∀ (r : Option Value) (h1 : ez_H), Q1 r h1 → pw N X 111 8 [.ref 13, .int k] (r.toList ++ []) h1 Q)) : pw (N + 1) X 111 0 [.ref 13, .int k] [] (ev_hp I J R T) Q := by
  refine pw_seg (by decide) (fun _ _ => pr_r52) ?_
  obtain ⟨Q1, hc, hk⟩ := H
  exact pw_p (pw_call (by decide) (fun _ _ => pr_r53) hc hk)
set_option maxRecDepth 100000 in
theorem pr_r54 {a0 : Int32} {a1 : Int64} : ∀ G : ez_F, fx_up X 1 G 111 8 [.ref 13, .int a0] [.long a1] (ev_hp I J R T) cz kz = some (some (.long a1), (ev_hp I J R T), cz, kz) := by
  intro G
  rfl
theorem po_8 {k : Int32} {z : Int64}
    (H : Q (some (.long z)) (ev_hp I J R T)) : pw (N + 1) X 111 8 [.ref 13, .int k] [.long z] (ev_hp I J R T) Q := by
  exact pw_ret (by decide) (fun _ _ => pr_r54) H
set_option maxRecDepth 100000 in
theorem pr_r55 {a0 : Int32} {a1 : Int32} : ∀ G : ez_F, fx_up X 1 G 7 16 [.ref 0, .int a0] [.int a1] (ev_hp I J R T) cz kz = bif decide (a1 = (0 : Int32)) then G 7 22 [.ref 0, .int a0] [] (ev_hp I J R T) cz kz else G 7 19 [.ref 0, .int a0] [] (ev_hp I J R T) cz kz := by
  intro G
  rfl
set_option maxRecDepth 100000 in
theorem pr_r56 {a0 : Int32} : ∀ G : ez_F, fx_up X 2 G 7 22 [.ref 0, .int a0] [] (ev_hp I J R T) cz kz = ev_C G 30 [.ref 0] (ev_hp I J R T) fun r h1 c1 k1 => G 7 26 [.ref 0, .int a0] (r.toList ++ []) h1 (cz + c1) (kz + k1) := by
  intro G
  rfl
set_option maxRecDepth 100000 in
theorem pr_r57 {a0 : Int32} : ∀ G : ez_F, fx_up X 2 G 7 19 [.ref 0, .int a0] [] (ev_hp I J R T) cz kz = some (some (.int (-6 : Int32)), (ev_hp I J R T), cz, kz) := by
  intro G
  rfl
theorem bv_16 {v x : Int32}
    (H : ((v = (0 : Int32) → (∃ Q1 : pw_Q, pe N X 30 [.ref 0] (ev_hp I J R T) Q1 ∧ ∀ (r : Option Value) (h1 : ez_H), Q1 r h1 → pw N X 7 26 [.ref 0, .int x] (r.toList ++ []) h1 Q)) ∧ (¬ (v = (0 : Int32)) → Q (some (.int (-6 : Int32))) (ev_hp I J R T)))) : pw (N + 1) X 7 16 [.ref 0, .int x] [.int v] (ev_hp I J R T) Q := by
  refine pw_if (by decide) (fun _ _ => pr_r55) (fun w1 => ?_) (fun w1 => ?_)
  · have h1 := H.1 w1
    obtain ⟨Q1, hc, hk⟩ := h1
    exact pw_p (pw_call (by decide) (fun _ _ => pr_r56) hc hk)
  · have h1 := H.2 w1
    exact pw_p (pw_ret (by decide) (fun _ _ => pr_r57) h1)
set_option maxRecDepth 100000 in
theorem pr_r58 {a0 : Int32} : ∀ G : ez_F, fx_up X 3 G 7 26 [.ref 0, .int a0] [.ref 14] (ev_hp I J R T) cz kz = G 7 31 [.ref 0, .int a0, .ref 14] [.int (I 14 2)] (ev_hp I J R T) cz kz := by
  intro G
  rfl
set_option maxRecDepth 100000 in
theorem pr_r59 {a0 : Int32} {a1 : Int32} : ∀ G : ez_F, fx_up X 1 G 7 31 [.ref 0, .int a0, .ref 14] [.int a1] (ev_hp I J R T) cz kz = bif decide (¬ a1 = (0 : Int32)) then G 7 36 [.ref 0, .int a0, .ref 14] [] (ev_hp I J R T) cz kz else G 7 34 [.ref 0, .int a0, .ref 14] [] (ev_hp I J R T) cz kz := by
  intro G
  rfl
set_option maxRecDepth 100000 in
theorem pr_r60 {a0 : Int32} : ∀ G : ez_F, fx_up X 6 G 7 36 [.ref 0, .int a0, .ref 14] [] (ev_hp I J R T) cz kz = G 7 48 [.ref 0, .int a0, .ref 14] [.int (I 1 6), .ref 14, .ref 20] (ev_hp I J R T) cz kz := by
  intro G
  rfl
set_option maxRecDepth 100000 in
theorem pr_r61 {a0 : Int32} {a1 : Int32} : ∀ G : ez_F, fx_up X 1 G 7 48 [.ref 0, .int a0, .ref 14] [.int a1, .ref 14, .ref 20] (ev_hp I J R T) cz kz = ev_C G 119 [.ref 20, .ref 14, .int a1] (ev_hp I J R T) fun r h1 c1 k1 => G 7 51 [.ref 0, .int a0, .ref 14] (r.toList ++ []) h1 (cz + c1) (kz + k1) := by
  intro G
  rfl
set_option maxRecDepth 100000 in
theorem pr_r62 {a0 : Int32} : ∀ G : ez_F, fx_up X 2 G 7 34 [.ref 0, .int a0, .ref 14] [] (ev_hp I J R T) cz kz = some (some (.int (-1 : Int32)), (ev_hp I J R T), cz, kz) := by
  intro G
  rfl
theorem bv_26 {x : Int32}
    (H : ((¬ (I 14 2) = (0 : Int32) → (∃ Q1 : pw_Q, pe N X 119 [.ref 20, .ref 14, .int (I 1 6)] (ev_hp I J R T) Q1 ∧ ∀ (r : Option Value) (h1 : ez_H), Q1 r h1 → pw N X 7 51 [.ref 0, .int x, .ref 14] (r.toList ++ []) h1 Q)) ∧ (¬ (¬ (I 14 2) = (0 : Int32)) → Q (some (.int (-1 : Int32))) (ev_hp I J R T)))) : pw (N + 1) X 7 26 [.ref 0, .int x] [.ref 14] (ev_hp I J R T) Q := by
  refine pw_seg (by decide) (fun _ _ => pr_r58) ?_
  refine pw_p (pw_if (by decide) (fun _ _ => pr_r59) (fun w1 => ?_) (fun w1 => ?_))
  · have h1 := H.1 w1
    refine pw_p (pw_seg (by decide) (fun _ _ => pr_r60) ?_)
    obtain ⟨Q1, hc, hk⟩ := h1
    exact pw_p (pw_call (by decide) (fun _ _ => pr_r61) hc hk)
  · have h1 := H.2 w1
    exact pw_p (pw_ret (by decide) (fun _ _ => pr_r62) h1)
set_option maxRecDepth 100000 in
theorem pr_r63 {a0 : Int32} : ∀ G : ez_F, fx_up X 2 G 7 51 [.ref 0, .int a0, .ref 14] [] (ev_hp I J R T) cz kz = bif decide (¬ a0 = (0 : Int32)) then G 7 65 [.ref 0, .int a0, .ref 14] [] (ev_hp I J R T) cz kz else G 7 55 [.ref 0, .int a0, .ref 14] [] (ev_hp I J R T) cz kz := by
  intro G
  rfl
set_option maxRecDepth 100000 in
theorem pr_r64 {a0 : Int32} : ∀ G : ez_F, fx_up X 3 G 7 65 [.ref 0, .int a0, .ref 14] [] (ev_hp I J R T) cz kz = bif decide (¬ a0 = (1 : Int32)) then G 7 80 [.ref 0, .int a0, .ref 14] [] (ev_hp I J R T) cz kz else G 7 70 [.ref 0, .int a0, .ref 14] [] (ev_hp I J R T) cz kz := by
  intro G
  rfl
set_option maxRecDepth 100000 in
theorem pr_r65 {a0 : Int32} : ∀ G : ez_F, fx_up X 3 G 7 80 [.ref 0, .int a0, .ref 14] [] (ev_hp I J R T) cz kz = G 7 87 [.ref 0, .int a0, .ref 14] [.int (I 20 6)] (ev_hp I J R T) cz kz := by
  intro G
  rfl
set_option maxRecDepth 100000 in
theorem pr_r66 {a0 : Int32} {a1 : Int32} : ∀ G : ez_F, fx_up X 1 G 7 87 [.ref 0, .int a0, .ref 14] [.int a1] (ev_hp I J R T) cz kz = some (some (.int a1), (ev_hp I J R T), cz, kz) := by
  intro G
  rfl
set_option maxRecDepth 100000 in
theorem pr_r67 {a0 : Int32} : ∀ G : ez_F, fx_up X 3 G 7 70 [.ref 0, .int a0, .ref 14] [] (ev_hp I J R T) cz kz = G 7 77 [.ref 0, .int a0, .ref 14] [.int (I 20 5)] (ev_hp I J R T) cz kz := by
  intro G
  rfl
set_option maxRecDepth 100000 in
theorem pr_r68 {a0 : Int32} {a1 : Int32} : ∀ G : ez_F, fx_up X 2 G 7 77 [.ref 0, .int a0, .ref 14] [.int a1] (ev_hp I J R T) cz kz = some (some (.int a1), (ev_hp I J R T), cz, kz) := by
  intro G
  rfl
set_option maxRecDepth 100000 in
theorem pr_r69 {a0 : Int32} : ∀ G : ez_F, fx_up X 3 G 7 55 [.ref 0, .int a0, .ref 14] [] (ev_hp I J R T) cz kz = G 7 62 [.ref 0, .int a0, .ref 14] [.int (I 20 4)] (ev_hp I J R T) cz kz := by
  intro G
  rfl
set_option maxRecDepth 100000 in
theorem pr_r70 {a0 : Int32} {a1 : Int32} : ∀ G : ez_F, fx_up X 2 G 7 62 [.ref 0, .int a0, .ref 14] [.int a1] (ev_hp I J R T) cz kz = some (some (.int a1), (ev_hp I J R T), cz, kz) := by
  intro G
  rfl
theorem bv_51 {x : Int32}
    (H : ((¬ x = (0 : Int32) → ((¬ x = (1 : Int32) → Q (some (.int (I 20 6))) (ev_hp I J R T)) ∧ (¬ (¬ x = (1 : Int32)) → Q (some (.int (I 20 5))) (ev_hp I J R T)))) ∧ (¬ (¬ x = (0 : Int32)) → Q (some (.int (I 20 4))) (ev_hp I J R T)))) : pw (N + 1) X 7 51 [.ref 0, .int x, .ref 14] [] (ev_hp I J R T) Q := by
  refine pw_if (by decide) (fun _ _ => pr_r63) (fun w1 => ?_) (fun w1 => ?_)
  · have h1 := H.1 w1
    refine pw_p (pw_if (by decide) (fun _ _ => pr_r64) (fun w2 => ?_) (fun w2 => ?_))
    · have h2 := h1.1 w2
      refine pw_p (pw_seg (by decide) (fun _ _ => pr_r65) ?_)
      exact pw_p (pw_ret (by decide) (fun _ _ => pr_r66) h2)
    · have h2 := h1.2 w2
      refine pw_p (pw_seg (by decide) (fun _ _ => pr_r67) ?_)
      exact pw_p (pw_ret (by decide) (fun _ _ => pr_r68) h2)
  · have h1 := H.2 w1
    refine pw_p (pw_seg (by decide) (fun _ _ => pr_r69) ?_)
    exact pw_p (pw_ret (by decide) (fun _ _ => pr_r70) h1)
end
/-- but for the pairs -/
def ot (I A : Nat → Nat → Int32) : Prop := ∀ a, a ≠ 20 → a ≠ 21 → A a = I a
theorem ot_21 {I A : Nat → Nat → Int32} (h : ot I A) (f : Nat → Int32) : ot I (ev_sI A 21 f) := fun a h0 h1 => by
  rw [cx_sI_n _ _ h1]
  exact h a h0 h1
theorem ot_20 {I A : Nat → Nat → Int32} (h : ot I A) (f : Nat → Int32) : ot I (ev_sI A 20 f) := fun a h0 h1 => by
  rw [cx_sI_n _ _ h0]
  exact h a h0 h1
section
variable {N : Nat} {X : ez_X} {I A : Nat → Nat → Int32} {J : Nat → Nat → Int64} {R : Nat → Nat} {T : List ez_C} {x : Int32} {z : Int64} {n l : Nat} {g1 g2 : Nat → Int64}
def ot_Q (I : Nat → Nat → Int32) (J : Nat → Nat → Int64) (R : Nat → Nat) (T : List ez_C) : pw_Q := fun r h => r = none ∧ ∃ A, h = ev_hp A J R T ∧ ot I A
theorem nz_bit {u : Int64} (h : ¬ lg_cmp u 0 = 0) : ∃ j, j < 64 ∧ kb u j = true ∧ ∀ i, i < j → kb u i = false := low_bit fun e => h ((lg_eq _ _).mpr e)
theorem pe_pairsIn (hA : ot I A) : pe N X 116 [.ref 20, .long z] (ev_hp A J R T) (ot_Q I J R T) := by
  have inner : ∀ (n : Int32) (a : Int32) (go : ∀ A u, ot I A → ∀ N, pw N X 116 5 [.ref 20, .long z, ez_fill, .long u, ez_fill, .int (n + (1 : Int32))] [] (ev_hp A J R T) (ot_Q I J R T)) (d m : Nat), m + d = 36 → ∀ A u w, ot I A → ∀ N, pw N X 116 36 [.ref 20, .long z, ez_fill, .long u, ez_fill, .int n, .int a, .long w, ez_fill, .int (Int32.ofNat m)] [] (ev_hp A J R T) (ot_Q I J R T) := by
    intro n a go d
    induction d with
    | zero =>
      intro m hm A u w hA N
      obtain rfl : m = 36 := by omega
      exact pw_p (pi_36 ⟨fun _ => go A u hA _, fun g => absurd (by decide) g⟩)
    | succ d ih =>
      intro m hmd A u w hA N
      refine pw_p (pi_36 ⟨fun _ => go A u hA _, fun _ => ⟨fun _ => go A u hA _, fun hz => ?_⟩⟩)
      obtain ⟨j, j1, j2, j3⟩ := nz_bit hz
      refine ⟨_, pe_ntz j2 j3 j1, ?_⟩
      rintro r h ⟨rfl, rfl⟩
      refine pw_p (pi_60 ?_)
      rw [io_1]
      exact ih (m + 1) (by omega) _ _ _ (ot_21 hA _) N
  have outer : ∀ (d n : Nat), n + d = 36 → ∀ A u, ot I A → ∀ N, pw N X 116 5 [.ref 20, .long z, ez_fill, .long u, ez_fill, .int (Int32.ofNat n)] [] (ev_hp A J R T) (ot_Q I J R T) := by
    intro d
    induction d with
    | zero =>
      intro n hn A u hA N
      obtain rfl : n = 36 := by omega
      exact pw_p (pi_5 ⟨fun _ => ⟨rfl, A, rfl, hA⟩, fun g => absurd (by decide) g⟩)
    | succ d ih =>
      intro n hnd A u hA N
      refine pw_p (pi_5 ⟨fun _ => ⟨rfl, A, rfl, hA⟩, fun _ => ⟨fun _ => ⟨rfl, A, rfl, hA⟩, fun hz => ?_⟩⟩)
      obtain ⟨j, j1, j2, j3⟩ := nz_bit hz
      refine ⟨_, pe_ntz j2 j3 j1, ?_⟩
      rintro r h ⟨rfl, rfl⟩
      refine pw_p (pi_22 (inner (Int32.ofNat n) _ (fun A u hA N => ?_) 36 0 (by omega) A _ _ hA _))
      rw [io_1]
      exact ih (n + 1) (by omega) A u hA N
  exact pe_of (pw_p (pi_0 (outer 36 0 (by omega) A z hA _)))
theorem pe_placesOf (h : rowJ (R 2) T n g2) (hn : n ≤ 10000) {k : Nat} (hk : k < n) (hx : x = Int32.ofNat k) : pe N X 111 [.ref 13, .int x] (ev_hp I J R T) (fun r h => r = some (.long (g2 k)) ∧ h = ev_hp I J R T) := by
  subst hx
  refine pe_of (pw_p (po_0 ⟨_, pe_atRJ h (by omega), ?_⟩))
  rintro r h' ⟨rfl, rfl⟩
  rw [atJ_in hk (by omega)]
  exact pw_p (po_8 ⟨rfl, rfl⟩)
theorem pe_countPairs (hA : ot I A) (e63 : I 6 3 = Int32.ofNat l) (hl : l ≤ n) (hn : n ≤ 10000) (r1 : rowJ (R 1) T n g1) (r2 : rowJ (R 2) T n g2) (hb : 0 ≤ (I 2 2).toInt ∧ (I 2 2).toInt ≤ 2) : pe N X 115 [.ref 20] (ev_hp A J R T) (ot_Q I J R T) := by
  have loop2 : ∀ (d k : Nat), k + d = l → ∀ A, ot I A → ∀ N, pw N X 115 26 [.ref 20, .int (Int32.ofNat k)] [] (ev_hp A J R T) (ot_Q I J R T) := by
    intro d
    induction d with
    | zero =>
      intro k hk A hA N
      obtain rfl : k = l := by omega
      refine pw_p (pu_26 ⟨fun _ => ⟨rfl, A, rfl, hA⟩, fun g => ?_⟩)
      rw [hA 6 (by decide) (by decide), e63] at g
      exact absurd (Int32.le_refl _) g
    | succ d ih =>
      intro k hkd A hA N
      have nxt := fun A (hA : ot I A) N => ih (k + 1) (by omega) A hA N
      refine pw_p (pu_26 ⟨fun _ => ⟨rfl, A, rfl, hA⟩, fun _ => ⟨_, pe_isLeft r1 hn (by omega) (by rw [hA 2 (by decide) (by decide)]; exact hb) rfl, ?_⟩⟩)
      rintro r h ⟨rfl, rfl⟩
      refine pw_p (pu_45 ⟨fun _ => ?_, fun _ => ⟨_, pe_placesOf (k := k) r2 hn (by omega) rfl, ?_⟩⟩)
      · rw [io_1]
        exact nxt A hA _
      · rintro r h ⟨rfl, rfl⟩
        refine pw_p (pu_57 ⟨_, pe_pairsIn hA, ?_⟩)
        rintro r h ⟨rfl, A', rfl, hA'⟩
        refine pw_p (pu_60 ?_)
        rw [io_1]
        exact nxt A' hA' _
  have loop1 : ∀ (d i : Nat), i + d = 1296 → ∀ A, ot I A → ∀ N, pw N X 115 2 [.ref 20, .int (Int32.ofNat i)] [] (ev_hp A J R T) (ot_Q I J R T) := by
    intro d
    induction d with
    | zero =>
      intro i hi A hA N
      obtain rfl : i = 1296 := by omega
      exact pw_p (pu_2 ⟨fun _ => loop2 l 0 (by omega) A hA _, fun g => absurd (Int32.le_refl _) g⟩)
    | succ d ih =>
      intro i hid A hA N
      refine pw_p (pu_2 ⟨fun _ => loop2 l 0 (by omega) A hA _, fun _ _ => ?_⟩)
      rw [io_1]
      exact ih (i + 1) (by omega) _ (ot_21 hA _) _
  exact pe_of (pw_p (pu_0 (loop1 1296 0 (by omega) A hA _)))
theorem pe_pairs (hA : ot I A) (e63 : I 6 3 = Int32.ofNat l) (hl : l ≤ n) (hn : n ≤ 10000) (r1 : rowJ (R 1) T n g1) (r2 : rowJ (R 2) T n g2) (hb : 0 ≤ (I 2 2).toInt ∧ (I 2 2).toInt ≤ 2) {c : Nat} (hc : c ≤ 36) (hx : x = Int32.ofNat c) : pe N X 119 [.ref 20, .ref 14, .int x] (ev_hp A J R T) (ot_Q I J R T) := by
  subst hx
  have inner : ∀ (a : Int32) (go : ∀ A, ot I A → ∀ N, pw N X 119 24 [.ref 20, .ref 14, .int (Int32.ofNat c), .int (a + (1 : Int32))] [] (ev_hp A J R T) (ot_Q I J R T)) (d b : Nat), c ≤ b + d → b ≤ c + 1 → ∀ A, ot I A → ∀ N, pw N X 119 34 [.ref 20, .ref 14, .int (Int32.ofNat c), .int a, .int (Int32.ofNat b)] [] (ev_hp A J R T) (ot_Q I J R T) := by
    intro a go d
    induction d with
    | zero =>
      intro b hb0 hb1 A hA N
      refine pw_p (ps_34 ⟨fun _ => go A hA _, fun g => absurd ((io_le (by omega) (by omega)).mpr (by omega)) g⟩)
    | succ d ih =>
      intro b hbd hb1 A hA N
      refine pw_p (ps_34 ⟨fun _ => go A hA _, fun g => ⟨_, pe_of (Q := fun r h => (∃ v, r = some (.int v)) ∧ h = ev_hp A J R T) (pw_p (pg_0 ⟨⟨_, rfl⟩, rfl⟩)), ?_⟩⟩)
      rw [io_le (by omega) (by omega)] at g
      rintro r h ⟨⟨v, rfl⟩, rfl⟩
      refine pw_p (ps_48 ⟨fun _ => ?_, fun _ => ?_⟩)
      · rw [io_1]
        exact ih (b + 1) (by omega) (by omega) A hA _
      · rw [io_1]
        exact ih (b + 1) (by omega) (by omega) _ (ot_20 (ot_20 (ot_20 hA _) _) _) _
  have outer : ∀ (d a : Nat), a + d = c → ∀ A, ot I A → ∀ N, pw N X 119 24 [.ref 20, .ref 14, .int (Int32.ofNat c), .int (Int32.ofNat a)] [] (ev_hp A J R T) (ot_Q I J R T) := by
    intro d
    induction d with
    | zero =>
      intro a ha A hA N
      obtain rfl : a = c := by omega
      exact pw_p (ps_24 ⟨fun _ => ⟨rfl, _, rfl, ot_20 hA _⟩, fun g => absurd (Int32.le_refl _) g⟩)
    | succ d ih =>
      intro a had A hA N
      refine pw_p (ps_24 ⟨fun _ => ⟨rfl, _, rfl, ot_20 hA _⟩, fun _ => ?_⟩)
      rw [io_1]
      refine inner (Int32.ofNat a) (fun A hA N => ?_) c (a + 1) (by omega) (by omega) A hA _
      rw [io_1]
      exact ih (a + 1) (by omega) A hA N
  refine pe_of (pw_p (ps_0 ⟨fun _ => ⟨_, pe_countPairs hA e63 hl hn r1 r2 hb, ?_⟩, fun _ => ⟨rfl, A, rfl, hA⟩⟩))
  rintro r h ⟨rfl, A', rfl, hA'⟩
  exact pw_p (ps_12 (outer c 0 (by omega) _ (ot_20 hA' _) _))
/-- so what is known stays -/
theorem ot_F4 (h : ot I A) (hd : d4 I J R T) : d4 A J R T := by
  have e : b4 A J = b4 I J := by
    unfold b4
    rw [h 8 (by decide) (by decide), h 3 (by decide) (by decide), h 5 (by decide) (by decide), h 2 (by decide) (by decide), h 1 (by decide) (by decide)]
  exact d4_b e (by rw [h 2 (by decide) (by decide)]) rfl rfl (by rw [h 13 (by decide) (by decide)]) (by rw [h 13 (by decide) (by decide)]) (by rw [h 14 (by decide) (by decide)]) (h 15 (by decide) (by decide)) (h 16 (by decide) (by decide)) ⟨rfl, rfl, rfl⟩ (fun _ _ _ _ q => q) hd
theorem pe_xbestSalvo (h : rl3 I J R T) (hd : d4 I J R T) (hh : cx_hok cx_B0 I R T) : pe N X 7 [.ref 0, .int x] (ev_hp I J R T) (fun _ h => F4 h) := by
  obtain ⟨m, en, hm4, hn⟩ := b_16 hh.1
  refine pe_of (pw_p (xo_bestSalvo ⟨fun hx => ⟨_, pe_tm h.1.1 hh h.1.2, ?_⟩, fun hx => F4_tm hd⟩))
  rintro r h' (⟨h1, rfl, rfl⟩ | ⟨h1, rfl, h2⟩)
  · exact pw_p (bv_16 ⟨fun z => absurd z (by decide), fun _ => F4_tm hd⟩)
  · have hl := fun N => pe_lt (X := X) h hd hh h2 N
    obtain ⟨f6, R6, T6, rfl, -⟩ := h2
    refine pw_p (bv_16 ⟨fun _ => ⟨_, hl _, ?_⟩, fun z => absurd rfl z⟩)
    rintro r h' ⟨rfl, A, B, R', T', rfl, hq, ht⟩
    have hd4 := rq_d4 hq fun _ => ht
    have hq0 := hq
    obtain ⟨a1, a2, a3, a4, a5, a6, n, g1, g2, g3, r1, r2, r3, r4, r5, r6⟩ := hq0
    refine pw_p (bv_26 ⟨fun _ => ⟨_, pe_pairs (I := A) (fun _ _ _ => rfl) a2 r4 r5 r1 r2 (by rw [a1 2 (by decide) (by decide) (by decide) (by decide) (by decide)]; exact b_lie hh.1) hn (by rw [a1 1 (by decide) (by decide) (by decide) (by decide) (by decide)]; exact en), ?_⟩, fun _ => F4_rq hq ht⟩)
    rintro r h' ⟨rfl, A', rfl, hA'⟩
    have hF : F4 (ev_hp A' B R' T') := ⟨A', B, R', T', rfl, ot_F4 hA' hd4⟩
    exact pw_p (bv_51 ⟨fun _ => ⟨fun _ => hF, fun _ => hF⟩, fun _ => hF⟩)
end
