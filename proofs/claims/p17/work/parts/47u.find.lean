/-! The reference finds the spots of a ship. -/
section
variable {N : Nat} {X : ez_X} {I : Nat → Nat → Int32} {J : Nat → Nat → Int64} {R : Nat → Nat} {T : List ez_C} {Q : pw_Q} {cz kz : Nat}
set_option maxRecDepth 100000 in
theorem fd_r0 {a0 : Int32} : ∀ G : ez_F, fx_up X 5 G 190 0 [.ref 35, .int a0] [] (ev_hp I J R T) cz kz = G 190 7 [.ref 35, .int a0, .int (0 : Int32)] [.int a0, .ref 37] (ev_hp I J R T) cz kz := by
  intro G
  rfl
set_option maxRecDepth 100000 in
theorem fd_r1 {a0 : Int32} {a1 : Int32} {a2 : Int32} : ∀ G : ez_F, fx_up X 1 G 190 8 [.ref 35, .int a0, .int a1] [.int a2] (ev_hp I J R T) cz kz = bif decide (¬ a2 = (0 : Int32)) then G 190 15 [.ref 35, .int a0, .int a1] [] (ev_hp I J R T) cz kz else G 190 11 [.ref 35, .int a0, .int a1] [] (ev_hp I J R T) cz kz := by
  intro G
  rfl
set_option maxRecDepth 100000 in
theorem fd_r2 {a0 : Int32} {a1 : Int32} : ∀ G : ez_F, fx_up X 3 G 190 15 [.ref 35, .int a0, .int a1] [] (ev_hp I J R T) cz kz = G 190 20 [.ref 35, .int a0, .int a1] [.int a0, .ref 37] (ev_hp I J R T) cz kz := by
  intro G
  rfl
set_option maxRecDepth 100000 in
theorem fd_r3 {a0 : Int32} {a1 : Int32} {a2 : Int32} : ∀ G : ez_F, fx_up X 2 G 190 21 [.ref 35, .int a0, .int a1] [.int a2] (ev_hp I J R T) cz kz = bif decide (¬ a2 = (1 : Int32)) then G 190 29 [.ref 35, .int a0, .int a1] [] (ev_hp I J R T) cz kz else G 190 25 [.ref 35, .int a0, .int a1] [] (ev_hp I J R T) cz kz := by
  intro G
  rfl
set_option maxRecDepth 100000 in
theorem fd_r4 {a0 : Int32} {a1 : Int32} : ∀ G : ez_F, fx_up X 4 G 190 29 [.ref 35, .int a0, .int a1] [] (ev_hp I J R T) cz kz = G 190 35 [.ref 35, .int a0, .int a1, .int (8 : Int32), .int (0 : Int32)] [] (ev_hp I J R T) cz kz := by
  intro G
  rfl
set_option maxRecDepth 100000 in
theorem fd_r5 {a0 : Int32} {a1 : Int32} : ∀ G : ez_F, fx_up X 5 G 190 25 [.ref 35, .int a0, .int a1] [] (ev_hp I J R T) cz kz = G 190 35 [.ref 35, .int a0, .int a1, .int (4 : Int32), .int (0 : Int32)] [] (ev_hp I J R T) cz kz := by
  intro G
  rfl
set_option maxRecDepth 100000 in
theorem fd_r6 {a0 : Int32} {a1 : Int32} : ∀ G : ez_F, fx_up X 5 G 190 11 [.ref 35, .int a0, .int a1] [] (ev_hp I J R T) cz kz = G 190 35 [.ref 35, .int a0, .int a1, .int (1 : Int32), .int (0 : Int32)] [] (ev_hp I J R T) cz kz := by
  intro G
  rfl
theorem fd_0 {s : Nat}
    (H : (ev_ix (Int32.ofNat s) 3 → ((¬ (I 37 (Int32.ofNat s).toNatClampNeg) = (0 : Int32) → (ev_ix (Int32.ofNat s) 3 → ((¬ (I 37 (Int32.ofNat s).toNatClampNeg) = (1 : Int32) → pw N X 190 35 [.ref 35, .int (Int32.ofNat s), .int (0 : Int32), .int (8 : Int32), .int (0 : Int32)] [] (ev_hp I J R T) Q) ∧ (¬ (¬ (I 37 (Int32.ofNat s).toNatClampNeg) = (1 : Int32)) → pw N X 190 35 [.ref 35, .int (Int32.ofNat s), .int (0 : Int32), .int (4 : Int32), .int (0 : Int32)] [] (ev_hp I J R T) Q)))) ∧ (¬ (¬ (I 37 (Int32.ofNat s).toNatClampNeg) = (0 : Int32)) → pw N X 190 35 [.ref 35, .int (Int32.ofNat s), .int (0 : Int32), .int (1 : Int32), .int (0 : Int32)] [] (ev_hp I J R T) Q)))) : pw (N + 1) X 190 0 [.ref 35, .int (Int32.ofNat s)] [] (ev_hp I J R T) Q := by
  refine pw_seg (by decide) (fun _ _ => fd_r0) ?_
  refine pw_p (pw_iald (by rfl) (cx_getI (show cx_Ds[37]? = some (0, 3, []) from rfl)) (fun w1 => ?_))
  have h1 := H w1
  refine pw_p (pw_if (by decide) (fun _ _ => fd_r1) (fun w1 => ?_) (fun w1 => ?_))
  · have h1 := h1.1 w1
    refine pw_p (pw_seg (by decide) (fun _ _ => fd_r2) ?_)
    refine pw_p (pw_iald (by rfl) (cx_getI (show cx_Ds[37]? = some (0, 3, []) from rfl)) (fun w2 => ?_))
    have h2 := h1 w2
    refine pw_p (pw_if (by decide) (fun _ _ => fd_r3) (fun w2 => ?_) (fun w2 => ?_))
    · have h2 := h2.1 w2
      refine pw_p (pw_seg (by decide) (fun _ _ => fd_r4) ?_)
      exact h2
    · have h2 := h2.2 w2
      refine pw_p (pw_seg (by decide) (fun _ _ => fd_r5) ?_)
      exact h2
  · have h1 := h1.2 w1
    refine pw_p (pw_seg (by decide) (fun _ _ => fd_r6) ?_)
    exact h1
set_option maxRecDepth 100000 in
theorem fd_r7 {a0 : Int32} {a1 : Int32} {a2 : Int32} {a3 : Int32} : ∀ G : ez_F, fx_up X 3 G 190 35 [.ref 35, .int a0, .int a1, .int a2, .int a3] [] (ev_hp I J R T) cz kz = bif decide (a2 ≤ a3) then G 190 245 [.ref 35, .int a0, .int a1, .int a2, .int a3] [] (ev_hp I J R T) cz kz else G 190 41 [.ref 35, .int a0, .int a1, .int a2, .int a3] [] (ev_hp I J R T) cz kz := by
  intro G
  rfl
set_option maxRecDepth 100000 in
theorem fd_r8 {a0 : Int32} {a1 : Int32} {a2 : Int32} {a3 : Int32} : ∀ G : ez_F, fx_up X 4 G 190 245 [.ref 35, .int a0, .int a1, .int a2, .int a3] [] (ev_hp I J R T) cz kz = G 190 251 [.ref 35, .int a0, .int a1, .int a2, .int a3] [.int a1, .int a0, .ref 38] (ev_hp I J R T) cz kz := by
  intro G
  rfl
set_option maxRecDepth 100000 in
theorem fd_r9 {a0 : Int32} {a1 : Int32} {a2 : Int32} {a3 : Int32} : ∀ G : ez_F, fx_up X 2 G 190 252 [.ref 35, .int a0, .int a1, .int a2, .int a3] [] (ev_hp I J R T) cz kz = G 190 255 [.ref 35, .int a0, .int a1, .int a2, .int (0 : Int32)] [] (ev_hp I J R T) cz kz := by
  intro G
  rfl
set_option maxRecDepth 100000 in
theorem fd_r10 {a0 : Int32} {a1 : Int32} {a2 : Int32} {a3 : Int32} : ∀ G : ez_F, fx_up X 3 G 190 41 [.ref 35, .int a0, .int a1, .int a2, .int a3] [] (ev_hp I J R T) cz kz = G 190 46 [.ref 35, .int a0, .int a1, .int a2, .int a3] [.int a0, .ref 36] (ev_hp I J R T) cz kz := by
  intro G
  rfl
set_option maxRecDepth 100000 in
theorem fd_r11 {a0 : Int32} {a1 : Int32} {a2 : Int32} {a3 : Int32} {a4 : Int32} : ∀ G : ez_F, fx_up X 2 G 190 47 [.ref 35, .int a0, .int a1, .int a2, .int a3] [.int a4] (ev_hp I J R T) cz kz = ev_C G 230 [.int a4, .int a3] (ev_hp I J R T) fun r h1 c1 k1 => G 190 52 [.ref 35, .int a0, .int a1, .int a2, .int a3] (r.toList ++ []) h1 (cz + c1) (kz + k1) := by
  intro G
  rfl
theorem fd_35 {s n kd t : Nat}
    (H : (((Int32.ofNat kd) ≤ (Int32.ofNat t) → (ev_ix (Int32.ofNat s) 3 → pw N X 190 255 [.ref 35, .int (Int32.ofNat s), .int (Int32.ofNat n), .int (Int32.ofNat kd), .int (0 : Int32)] [] (ev_hp (ev_sI I 38 (upd (I 38) ((Int32.ofNat s).toNatClampNeg) (Int32.ofNat n))) J R T) Q)) ∧ (¬ ((Int32.ofNat kd) ≤ (Int32.ofNat t)) → (ev_ix (Int32.ofNat s) 3 → (∃ Q1 : pw_Q, pe N X 230 [.int (I 36 (Int32.ofNat s).toNatClampNeg), .int (Int32.ofNat t)] (ev_hp I J R T) Q1 ∧ ∀ (r : Option Value) (h1 : ez_H), Q1 r h1 → pw N X 190 52 [.ref 35, .int (Int32.ofNat s), .int (Int32.ofNat n), .int (Int32.ofNat kd), .int (Int32.ofNat t)] (r.toList ++ []) h1 Q))))) : pw (N + 1) X 190 35 [.ref 35, .int (Int32.ofNat s), .int (Int32.ofNat n), .int (Int32.ofNat kd), .int (Int32.ofNat t)] [] (ev_hp I J R T) Q := by
  refine pw_if (by decide) (fun _ _ => fd_r7) (fun w1 => ?_) (fun w1 => ?_)
  · have h1 := H.1 w1
    refine pw_p (pw_seg (by decide) (fun _ _ => fd_r8) ?_)
    refine pw_p (pw_iast (by rfl) (cx_getI (show cx_Ds[38]? = some (0, 3, []) from rfl)) (cx_setI (show cx_Ds[38]? = some (0, 3, []) from rfl) _) (fun w2 => ?_))
    have h2 := h1 w2
    refine pw_p (pw_seg (by decide) (fun _ _ => fd_r9) ?_)
    exact h2
  · have h1 := H.2 w1
    refine pw_p (pw_seg (by decide) (fun _ _ => fd_r10) ?_)
    refine pw_p (pw_iald (by rfl) (cx_getI (show cx_Ds[36]? = some (0, 3, []) from rfl)) (fun w2 => ?_))
    have h2 := h1 w2
    obtain ⟨Q1, hc, hk⟩ := h2
    exact pw_p (pw_call (by decide) (fun _ _ => fd_r11) hc hk)
set_option maxRecDepth 100000 in
theorem fd_r12 {a0 : Int32} {a1 : Int32} {a2 : Int32} {a3 : Int32} {a4 : Int32} : ∀ G : ez_F, fx_up X 3 G 190 52 [.ref 35, .int a0, .int a1, .int a2, .int a3] [.int a4] (ev_hp I J R T) cz kz = G 190 57 [.ref 35, .int a0, .int a1, .int a2, .int a3, .int a4, .int (0 : Int32)] [] (ev_hp I J R T) cz kz := by
  intro G
  rfl
theorem fd_52 {s n kd t : Nat} {x : Int32}
    (H : pw N X 190 57 [.ref 35, .int (Int32.ofNat s), .int (Int32.ofNat n), .int (Int32.ofNat kd), .int (Int32.ofNat t), .int x, .int (0 : Int32)] [] (ev_hp I J R T) Q) : pw (N + 1) X 190 52 [.ref 35, .int (Int32.ofNat s), .int (Int32.ofNat n), .int (Int32.ofNat kd), .int (Int32.ofNat t)] [.int x] (ev_hp I J R T) Q := by
  refine pw_seg (by decide) (fun _ _ => fd_r12) ?_
  exact H
set_option maxRecDepth 100000 in
theorem fd_r13 {a0 : Int32} {a1 : Int32} {a2 : Int32} {a3 : Int32} {a4 : Int32} {a5 : Int32} : ∀ G : ez_F, fx_up X 3 G 190 57 [.ref 35, .int a0, .int a1, .int a2, .int a3, .int a4, .int a5] [] (ev_hp I J R T) cz kz = bif decide ((100 : Int32) ≤ a5) then G 190 239 [.ref 35, .int a0, .int a1, .int a2, .int a3, .int a4, .int a5] [] (ev_hp I J R T) cz kz else G 190 64 [.ref 35, .int a0, .int a1, .int a2, .int a3, .int a4, .int a5] [] (ev_hp I J R T) cz kz := by
  intro G
  rfl
set_option maxRecDepth 100000 in
theorem fd_r14 {a0 : Int32} {a1 : Int32} {a2 : Int32} {a3 : Int32} {a4 : Int32} {a5 : Int32} : ∀ G : ez_F, fx_up X 2 G 190 239 [.ref 35, .int a0, .int a1, .int a2, .int a3, .int a4, .int a5] [] (ev_hp I J R T) cz kz = G 190 35 [.ref 35, .int a0, .int a1, .int a2, .int (a3 + (1 : Int32)), .int a4, .int a5] [] (ev_hp I J R T) cz kz := by
  intro G
  rfl
set_option maxRecDepth 100000 in
theorem fd_r15 {a0 : Int32} {a1 : Int32} {a2 : Int32} {a3 : Int32} {a4 : Int32} {a5 : Int32} : ∀ G : ez_F, fx_up X 4 G 190 64 [.ref 35, .int a0, .int a1, .int a2, .int a3, .int a4, .int a5] [] (ev_hp I J R T) cz kz = G 190 71 [.ref 35, .int a0, .int a1, .int a2, .int a3, .int a4, .int a5] [.int (10 : Int32), .int a5, .int a4, .ref 35] (ev_hp I J R T) cz kz := by
  intro G
  rfl
set_option maxRecDepth 100000 in
theorem fd_r16 {a0 : Int32} {a1 : Int32} {a2 : Int32} {a3 : Int32} {a4 : Int32} {a5 : Int32} {a6 : Int32} {a7 : Int32} : ∀ G : ez_F, fx_up X 4 G 190 72 [.ref 35, .int a0, .int a1, .int a2, .int a3, .int a4, .int a5] [.int a6, .int a7, .ref 35] (ev_hp I J R T) cz kz = G 190 78 [.ref 35, .int a0, .int a1, .int a2, .int a3, .int a4, .int a5] [.int (10 : Int32), .int a5, .int (a6 - (4 : Int32)), .int a7, .ref 35] (ev_hp I J R T) cz kz := by
  intro G
  rfl
set_option maxRecDepth 100000 in
theorem fd_r17 {a0 : Int32} {a1 : Int32} {a2 : Int32} {a3 : Int32} {a4 : Int32} {a5 : Int32} {a6 : Int32} {a7 : Int32} {a8 : Int32} : ∀ G : ez_F, fx_up X 3 G 190 79 [.ref 35, .int a0, .int a1, .int a2, .int a3, .int a4, .int a5] [.int a6, .int a7, .int a8, .ref 35] (ev_hp I J R T) cz kz = ev_C G 211 [.ref 35, .int a8, .int a7, .int (a6 - (4 : Int32))] (ev_hp I J R T) fun r h1 c1 k1 => G 190 84 [.ref 35, .int a0, .int a1, .int a2, .int a3, .int a4, .int a5] (r.toList ++ []) h1 (cz + c1) (kz + k1) := by
  intro G
  rfl
theorem fd_57 {s n kd t w mm : Nat}
    (H : (((100 : Int32) ≤ (Int32.ofNat mm) → pw N X 190 35 [.ref 35, .int (Int32.ofNat s), .int (Int32.ofNat n), .int (Int32.ofNat kd), .int ((Int32.ofNat t) + (1 : Int32))] [] (ev_hp I J R T) Q) ∧ (¬ ((100 : Int32) ≤ (Int32.ofNat mm)) → (¬ (10 : Int32) = 0 → (¬ (10 : Int32) = 0 → (∃ Q1 : pw_Q, pe N X 211 [.ref 35, .int (Int32.ofNat w), .int (((Int32.ofNat mm) - (Int32.ofNat mm) / (10 : Int32) * (10 : Int32)) - (4 : Int32)), .int (((Int32.ofNat mm) / (10 : Int32)) - (4 : Int32))] (ev_hp I J R T) Q1 ∧ ∀ (r : Option Value) (h1 : ez_H), Q1 r h1 → pw N X 190 84 [.ref 35, .int (Int32.ofNat s), .int (Int32.ofNat n), .int (Int32.ofNat kd), .int (Int32.ofNat t), .int (Int32.ofNat w), .int (Int32.ofNat mm)] (r.toList ++ []) h1 Q)))))) : pw (N + 1) X 190 57 [.ref 35, .int (Int32.ofNat s), .int (Int32.ofNat n), .int (Int32.ofNat kd), .int (Int32.ofNat t), .int (Int32.ofNat w), .int (Int32.ofNat mm)] [] (ev_hp I J R T) Q := by
  refine pw_if (by decide) (fun _ _ => fd_r13) (fun w1 => ?_) (fun w1 => ?_)
  · have h1 := H.1 w1
    refine pw_p (pw_seg (by decide) (fun _ _ => fd_r14) ?_)
    refine pw_cutl (by rfl) ?_
    exact h1
  · have h1 := H.2 w1
    refine pw_p (pw_seg (by decide) (fun _ _ => fd_r15) ?_)
    refine pw_p (pw_irem (by rfl) (fun w2 => ?_))
    have h2 := h1 w2
    refine pw_p (pw_seg (by decide) (fun _ _ => fd_r16) ?_)
    refine pw_p (pw_idiv (by rfl) (fun w2 => ?_))
    have h2 := h2 w2
    obtain ⟨Q1, hc, hk⟩ := h2
    exact pw_p (pw_call (by decide) (fun _ _ => fd_r17) hc hk)
set_option maxRecDepth 100000 in
theorem fd_r18 {a0 : Int32} {a1 : Int32} {a2 : Int32} {a3 : Int32} {a4 : Int32} {a5 : Int32} {a6 : Int64} : ∀ G : ez_F, fx_up X 3 G 190 84 [.ref 35, .int a0, .int a1, .int a2, .int a3, .int a4, .int a5] [.long a6] (ev_hp I J R T) cz kz = G 190 89 [.ref 35, .int a0, .int a1, .int a2, .int a3, .int a4, .int a5, .long a6, ez_fill, .int a1] [] (ev_hp I J R T) cz kz := by
  intro G
  rfl
theorem fd_84 {s n kd t w mm : Nat} {v : Int64}
    (H : pw N X 190 89 [.ref 35, .int (Int32.ofNat s), .int (Int32.ofNat n), .int (Int32.ofNat kd), .int (Int32.ofNat t), .int (Int32.ofNat w), .int (Int32.ofNat mm), .long v, ez_fill, .int (Int32.ofNat n)] [] (ev_hp I J R T) Q) : pw (N + 1) X 190 84 [.ref 35, .int (Int32.ofNat s), .int (Int32.ofNat n), .int (Int32.ofNat kd), .int (Int32.ofNat t), .int (Int32.ofNat w), .int (Int32.ofNat mm)] [.long v] (ev_hp I J R T) Q := by
  refine pw_seg (by decide) (fun _ _ => fd_r18) ?_
  exact H
set_option maxRecDepth 100000 in
theorem fd_r19 {a0 : Int32} {a1 : Int32} {a2 : Int32} {a3 : Int32} {a4 : Int32} {a5 : Int32} {a6 : Int64} {a7 : Int32} : ∀ G : ez_F, fx_up X 2 G 190 89 [.ref 35, .int a0, .int a1, .int a2, .int a3, .int a4, .int a5, .long a6, ez_fill, .int a7] [] (ev_hp I J R T) cz kz = bif decide (a7 ≤ (0 : Int32)) then G 190 121 [.ref 35, .int a0, .int a1, .int a2, .int a3, .int a4, .int a5, .long a6, ez_fill, .int a7] [] (ev_hp I J R T) cz kz else G 190 94 [.ref 35, .int a0, .int a1, .int a2, .int a3, .int a4, .int a5, .long a6, ez_fill, .int a7] [] (ev_hp I J R T) cz kz := by
  intro G
  rfl
set_option maxRecDepth 100000 in
theorem fd_r20 {a0 : Int32} {a1 : Int32} {a2 : Int32} {a3 : Int32} {a4 : Int32} {a5 : Int32} {a6 : Int64} {a7 : Int32} : ∀ G : ez_F, fx_up X 9 G 190 94 [.ref 35, .int a0, .int a1, .int a2, .int a3, .int a4, .int a5, .long a6, ez_fill, .int a7] [] (ev_hp I J R T) cz kz = G 190 108 [.ref 35, .int a0, .int a1, .int a2, .int a3, .int a4, .int a5, .long a6, ez_fill, .int a7] [.int ((((300 : Int32) * a0) + a7) - (1 : Int32)), .ref 39] (ev_hp I J R T) cz kz := by
  intro G
  rfl
set_option maxRecDepth 100000 in
theorem fd_r21 {a0 : Int32} {a1 : Int32} {a2 : Int32} {a3 : Int32} {a4 : Int32} {a5 : Int32} {a6 : Int64} {a7 : Int32} {a8 : Int64} : ∀ G : ez_F, fx_up X 3 G 190 109 [.ref 35, .int a0, .int a1, .int a2, .int a3, .int a4, .int a5, .long a6, ez_fill, .int a7] [.long a8] (ev_hp I J R T) cz kz = bif decide ((lg_cmp a8 a6) ≤ (0 : Int32)) then G 190 121 [.ref 35, .int a0, .int a1, .int a2, .int a3, .int a4, .int a5, .long a6, ez_fill, .int a7] [] (ev_hp I J R T) cz kz else G 190 115 [.ref 35, .int a0, .int a1, .int a2, .int a3, .int a4, .int a5, .long a6, ez_fill, .int a7] [] (ev_hp I J R T) cz kz := by
  intro G
  rfl
set_option maxRecDepth 100000 in
theorem fd_r22 {a0 : Int32} {a1 : Int32} {a2 : Int32} {a3 : Int32} {a4 : Int32} {a5 : Int32} {a6 : Int64} {a7 : Int32} : ∀ G : ez_F, fx_up X 2 G 190 115 [.ref 35, .int a0, .int a1, .int a2, .int a3, .int a4, .int a5, .long a6, ez_fill, .int a7] [] (ev_hp I J R T) cz kz = G 190 89 [.ref 35, .int a0, .int a1, .int a2, .int a3, .int a4, .int a5, .long a6, ez_fill, .int (a7 + (-1 : Int32))] [] (ev_hp I J R T) cz kz := by
  intro G
  rfl
theorem fd_89 {s n kd t w mm k : Nat} {v : Int64}
    (H : (((Int32.ofNat k) ≤ (0 : Int32) → pw N X 190 121 [.ref 35, .int (Int32.ofNat s), .int (Int32.ofNat n), .int (Int32.ofNat kd), .int (Int32.ofNat t), .int (Int32.ofNat w), .int (Int32.ofNat mm), .long v, ez_fill, .int (Int32.ofNat k)] [] (ev_hp I J R T) Q) ∧ (¬ ((Int32.ofNat k) ≤ (0 : Int32)) → (ev_ix ((((300 : Int32) * (Int32.ofNat s)) + (Int32.ofNat k)) - (1 : Int32)) 900 → (((lg_cmp (J 39 ((((300 : Int32) * (Int32.ofNat s)) + (Int32.ofNat k)) - (1 : Int32)).toNatClampNeg) v) ≤ (0 : Int32) → pw N X 190 121 [.ref 35, .int (Int32.ofNat s), .int (Int32.ofNat n), .int (Int32.ofNat kd), .int (Int32.ofNat t), .int (Int32.ofNat w), .int (Int32.ofNat mm), .long v, ez_fill, .int (Int32.ofNat k)] [] (ev_hp I J R T) Q) ∧ (¬ ((lg_cmp (J 39 ((((300 : Int32) * (Int32.ofNat s)) + (Int32.ofNat k)) - (1 : Int32)).toNatClampNeg) v) ≤ (0 : Int32)) → pw N X 190 89 [.ref 35, .int (Int32.ofNat s), .int (Int32.ofNat n), .int (Int32.ofNat kd), .int (Int32.ofNat t), .int (Int32.ofNat w), .int (Int32.ofNat mm), .long v, ez_fill, .int ((Int32.ofNat k) + (-1 : Int32))] [] (ev_hp I J R T) Q)))))) : pw (N + 1) X 190 89 [.ref 35, .int (Int32.ofNat s), .int (Int32.ofNat n), .int (Int32.ofNat kd), .int (Int32.ofNat t), .int (Int32.ofNat w), .int (Int32.ofNat mm), .long v, ez_fill, .int (Int32.ofNat k)] [] (ev_hp I J R T) Q := by
  refine pw_if (by decide) (fun _ _ => fd_r19) (fun w1 => ?_) (fun w1 => ?_)
  · have h1 := H.1 w1
    exact h1
  · have h1 := H.2 w1
    refine pw_p (pw_seg (by decide) (fun _ _ => fd_r20) ?_)
    refine pw_p (pw_lald (by rfl) (cx_getJ (show cx_Ds[39]? = some (1, 900, []) from rfl)) (fun w2 => ?_))
    have h2 := h1 w2
    refine pw_p (pw_if (by decide) (fun _ _ => fd_r21) (fun w2 => ?_) (fun w2 => ?_))
    · have h2 := h2.1 w2
      exact h2
    · have h2 := h2.2 w2
      refine pw_p (pw_seg (by decide) (fun _ _ => fd_r22) ?_)
      exact h2
set_option maxRecDepth 100000 in
theorem fd_r23 {a0 : Int32} {a1 : Int32} {a2 : Int32} {a3 : Int32} {a4 : Int32} {a5 : Int32} {a6 : Int64} {a7 : Int32} : ∀ G : ez_F, fx_up X 4 G 190 121 [.ref 35, .int a0, .int a1, .int a2, .int a3, .int a4, .int a5, .long a6, ez_fill, .int a7] [] (ev_hp I J R T) cz kz = bif decide ((lg_cmp a6 (0 : Int64)) = (0 : Int32)) then G 190 158 [.ref 35, .int a0, .int a1, .int a2, .int a3, .int a4, .int a5, .long a6, ez_fill, .int a7] [] (ev_hp I J R T) cz kz else G 190 128 [.ref 35, .int a0, .int a1, .int a2, .int a3, .int a4, .int a5, .long a6, ez_fill, .int a7] [] (ev_hp I J R T) cz kz := by
  intro G
  rfl
set_option maxRecDepth 100000 in
theorem fd_r24 {a0 : Int32} {a1 : Int32} {a2 : Int32} {a3 : Int32} {a4 : Int32} {a5 : Int32} {a6 : Int64} {a7 : Int32} : ∀ G : ez_F, fx_up X 4 G 190 158 [.ref 35, .int a0, .int a1, .int a2, .int a3, .int a4, .int a5, .long a6, ez_fill, .int a7] [] (ev_hp I J R T) cz kz = G 190 164 [.ref 35, .int a0, .int a1, .int a2, .int a3, .int a4, .int a5, .long a6, ez_fill, .int a7, .int (0 : Int32), .int a1] [] (ev_hp I J R T) cz kz := by
  intro G
  rfl
set_option maxRecDepth 100000 in
theorem fd_r25 {a0 : Int32} {a1 : Int32} {a2 : Int32} {a3 : Int32} {a4 : Int32} {a5 : Int32} {a6 : Int64} {a7 : Int32} : ∀ G : ez_F, fx_up X 2 G 190 128 [.ref 35, .int a0, .int a1, .int a2, .int a3, .int a4, .int a5, .long a6, ez_fill, .int a7] [] (ev_hp I J R T) cz kz = bif decide (a7 = (0 : Int32)) then G 190 154 [.ref 35, .int a0, .int a1, .int a2, .int a3, .int a4, .int a5, .long a6, ez_fill, .int a7] [] (ev_hp I J R T) cz kz else G 190 133 [.ref 35, .int a0, .int a1, .int a2, .int a3, .int a4, .int a5, .long a6, ez_fill, .int a7] [] (ev_hp I J R T) cz kz := by
  intro G
  rfl
set_option maxRecDepth 100000 in
theorem fd_r26 {a0 : Int32} {a1 : Int32} {a2 : Int32} {a3 : Int32} {a4 : Int32} {a5 : Int32} {a6 : Int64} {a7 : Int32} : ∀ G : ez_F, fx_up X 5 G 190 154 [.ref 35, .int a0, .int a1, .int a2, .int a3, .int a4, .int a5, .long a6, ez_fill, .int a7] [] (ev_hp I J R T) cz kz = G 190 164 [.ref 35, .int a0, .int a1, .int a2, .int a3, .int a4, .int a5, .long a6, ez_fill, .int a7, .int (1 : Int32), .int a1] [] (ev_hp I J R T) cz kz := by
  intro G
  rfl
set_option maxRecDepth 100000 in
theorem fd_r27 {a0 : Int32} {a1 : Int32} {a2 : Int32} {a3 : Int32} {a4 : Int32} {a5 : Int32} {a6 : Int64} {a7 : Int32} : ∀ G : ez_F, fx_up X 9 G 190 133 [.ref 35, .int a0, .int a1, .int a2, .int a3, .int a4, .int a5, .long a6, ez_fill, .int a7] [] (ev_hp I J R T) cz kz = G 190 147 [.ref 35, .int a0, .int a1, .int a2, .int a3, .int a4, .int a5, .long a6, ez_fill, .int a7] [.int ((((300 : Int32) * a0) + a7) - (1 : Int32)), .ref 39] (ev_hp I J R T) cz kz := by
  intro G
  rfl
set_option maxRecDepth 100000 in
theorem fd_r28 {a0 : Int32} {a1 : Int32} {a2 : Int32} {a3 : Int32} {a4 : Int32} {a5 : Int32} {a6 : Int64} {a7 : Int32} {a8 : Int64} : ∀ G : ez_F, fx_up X 3 G 190 148 [.ref 35, .int a0, .int a1, .int a2, .int a3, .int a4, .int a5, .long a6, ez_fill, .int a7] [.long a8] (ev_hp I J R T) cz kz = bif decide ((lg_cmp a8 a6) = (0 : Int32)) then G 190 158 [.ref 35, .int a0, .int a1, .int a2, .int a3, .int a4, .int a5, .long a6, ez_fill, .int a7] [] (ev_hp I J R T) cz kz else G 190 154 [.ref 35, .int a0, .int a1, .int a2, .int a3, .int a4, .int a5, .long a6, ez_fill, .int a7] [] (ev_hp I J R T) cz kz := by
  intro G
  rfl
theorem fd_121 {s n kd t w mm k : Nat} {v : Int64}
    (H : (((lg_cmp v (0 : Int64)) = (0 : Int32) → pw N X 190 164 [.ref 35, .int (Int32.ofNat s), .int (Int32.ofNat n), .int (Int32.ofNat kd), .int (Int32.ofNat t), .int (Int32.ofNat w), .int (Int32.ofNat mm), .long v, ez_fill, .int (Int32.ofNat k), .int (0 : Int32), .int (Int32.ofNat n)] [] (ev_hp I J R T) Q) ∧ (¬ ((lg_cmp v (0 : Int64)) = (0 : Int32)) → (((Int32.ofNat k) = (0 : Int32) → pw N X 190 164 [.ref 35, .int (Int32.ofNat s), .int (Int32.ofNat n), .int (Int32.ofNat kd), .int (Int32.ofNat t), .int (Int32.ofNat w), .int (Int32.ofNat mm), .long v, ez_fill, .int (Int32.ofNat k), .int (1 : Int32), .int (Int32.ofNat n)] [] (ev_hp I J R T) Q) ∧ (¬ ((Int32.ofNat k) = (0 : Int32)) → (ev_ix ((((300 : Int32) * (Int32.ofNat s)) + (Int32.ofNat k)) - (1 : Int32)) 900 → (((lg_cmp (J 39 ((((300 : Int32) * (Int32.ofNat s)) + (Int32.ofNat k)) - (1 : Int32)).toNatClampNeg) v) = (0 : Int32) → pw N X 190 164 [.ref 35, .int (Int32.ofNat s), .int (Int32.ofNat n), .int (Int32.ofNat kd), .int (Int32.ofNat t), .int (Int32.ofNat w), .int (Int32.ofNat mm), .long v, ez_fill, .int (Int32.ofNat k), .int (0 : Int32), .int (Int32.ofNat n)] [] (ev_hp I J R T) Q) ∧ (¬ ((lg_cmp (J 39 ((((300 : Int32) * (Int32.ofNat s)) + (Int32.ofNat k)) - (1 : Int32)).toNatClampNeg) v) = (0 : Int32)) → pw N X 190 164 [.ref 35, .int (Int32.ofNat s), .int (Int32.ofNat n), .int (Int32.ofNat kd), .int (Int32.ofNat t), .int (Int32.ofNat w), .int (Int32.ofNat mm), .long v, ez_fill, .int (Int32.ofNat k), .int (1 : Int32), .int (Int32.ofNat n)] [] (ev_hp I J R T) Q)))))))) : pw (N + 1) X 190 121 [.ref 35, .int (Int32.ofNat s), .int (Int32.ofNat n), .int (Int32.ofNat kd), .int (Int32.ofNat t), .int (Int32.ofNat w), .int (Int32.ofNat mm), .long v, ez_fill, .int (Int32.ofNat k)] [] (ev_hp I J R T) Q := by
  refine pw_if (by decide) (fun _ _ => fd_r23) (fun w1 => ?_) (fun w1 => ?_)
  · have h1 := H.1 w1
    refine pw_p (pw_seg (by decide) (fun _ _ => fd_r24) ?_)
    exact h1
  · have h1 := H.2 w1
    refine pw_p (pw_if (by decide) (fun _ _ => fd_r25) (fun w2 => ?_) (fun w2 => ?_))
    · have h2 := h1.1 w2
      refine pw_p (pw_seg (by decide) (fun _ _ => fd_r26) ?_)
      exact h2
    · have h2 := h1.2 w2
      refine pw_p (pw_seg (by decide) (fun _ _ => fd_r27) ?_)
      refine pw_p (pw_lald (by rfl) (cx_getJ (show cx_Ds[39]? = some (1, 900, []) from rfl)) (fun w3 => ?_))
      have h3 := h2 w3
      refine pw_p (pw_if (by decide) (fun _ _ => fd_r28) (fun w3 => ?_) (fun w3 => ?_))
      · have h3 := h3.1 w3
        refine pw_p (pw_seg (by decide) (fun _ _ => fd_r24) ?_)
        exact h3
      · have h3 := h3.2 w3
        refine pw_p (pw_seg (by decide) (fun _ _ => fd_r26) ?_)
        exact h3
set_option maxRecDepth 100000 in
theorem fd_r29 {a0 : Int32} {a1 : Int32} {a2 : Int32} {a3 : Int32} {a4 : Int32} {a5 : Int32} {a6 : Int64} {a7 : Int32} {a8 : Int32} {a9 : Int32} : ∀ G : ez_F, fx_up X 3 G 190 164 [.ref 35, .int a0, .int a1, .int a2, .int a3, .int a4, .int a5, .long a6, ez_fill, .int a7, .int a8, .int a9] [] (ev_hp I J R T) cz kz = bif decide (a9 ≤ a7) then G 190 210 [.ref 35, .int a0, .int a1, .int a2, .int a3, .int a4, .int a5, .long a6, ez_fill, .int a7, .int a8, .int a9] [] (ev_hp I J R T) cz kz else G 190 171 [.ref 35, .int a0, .int a1, .int a2, .int a3, .int a4, .int a5, .long a6, ez_fill, .int a7, .int a8, .int a9] [] (ev_hp I J R T) cz kz := by
  intro G
  rfl
set_option maxRecDepth 100000 in
theorem fd_r30 {a0 : Int32} {a1 : Int32} {a2 : Int32} {a3 : Int32} {a4 : Int32} {a5 : Int32} {a6 : Int64} {a7 : Int32} {a8 : Int32} {a9 : Int32} : ∀ G : ez_F, fx_up X 2 G 190 171 [.ref 35, .int a0, .int a1, .int a2, .int a3, .int a4, .int a5, .long a6, ez_fill, .int a7, .int a8, .int a9] [] (ev_hp I J R T) cz kz = bif decide (a8 = (0 : Int32)) then G 190 210 [.ref 35, .int a0, .int a1, .int a2, .int a3, .int a4, .int a5, .long a6, ez_fill, .int a7, .int a8, .int a9] [] (ev_hp I J R T) cz kz else G 190 176 [.ref 35, .int a0, .int a1, .int a2, .int a3, .int a4, .int a5, .long a6, ez_fill, .int a7, .int a8, .int a9] [] (ev_hp I J R T) cz kz := by
  intro G
  rfl
set_option maxRecDepth 100000 in
theorem fd_r31 {a0 : Int32} {a1 : Int32} {a2 : Int32} {a3 : Int32} {a4 : Int32} {a5 : Int32} {a6 : Int64} {a7 : Int32} {a8 : Int32} {a9 : Int32} : ∀ G : ez_F, fx_up X 12 G 190 176 [.ref 35, .int a0, .int a1, .int a2, .int a3, .int a4, .int a5, .long a6, ez_fill, .int a7, .int a8, .int a9] [] (ev_hp I J R T) cz kz = G 190 197 [.ref 35, .int a0, .int a1, .int a2, .int a3, .int a4, .int a5, .long a6, ez_fill, .int a7, .int a8, .int a9] [.int ((300 : Int32) * a0), .ref 39, .int (((300 : Int32) * a0) + a9), .ref 39] (ev_hp I J R T) cz kz := by
  intro G
  rfl
set_option maxRecDepth 100000 in
theorem fd_r32 {a0 : Int32} {a1 : Int32} {a2 : Int32} {a3 : Int32} {a4 : Int32} {a5 : Int32} {a6 : Int64} {a7 : Int32} {a8 : Int32} {a9 : Int32} {a10 : Int32} {a11 : Int32} : ∀ G : ez_F, fx_up X 4 G 190 197 [.ref 35, .int a0, .int a1, .int a2, .int a3, .int a4, .int a5, .long a6, ez_fill, .int a7, .int a8, .int a9] [.int a10, .ref 39, .int a11, .ref 39] (ev_hp I J R T) cz kz = G 190 202 [.ref 35, .int a0, .int a1, .int a2, .int a3, .int a4, .int a5, .long a6, ez_fill, .int a7, .int a8, .int a9] [.int ((a10 + a9) - (1 : Int32)), .ref 39, .int a11, .ref 39] (ev_hp I J R T) cz kz := by
  intro G
  rfl
set_option maxRecDepth 100000 in
theorem fd_r33 {a0 : Int32} {a1 : Int32} {a2 : Int32} {a3 : Int32} {a4 : Int32} {a5 : Int32} {a6 : Int64} {a7 : Int32} {a8 : Int32} {a9 : Int32} : ∀ G : ez_F, fx_up X 2 G 190 204 [.ref 35, .int a0, .int a1, .int a2, .int a3, .int a4, .int a5, .long a6, ez_fill, .int a7, .int a8, .int a9] [] (ev_hp I J R T) cz kz = G 190 164 [.ref 35, .int a0, .int a1, .int a2, .int a3, .int a4, .int a5, .long a6, ez_fill, .int a7, .int a8, .int (a9 + (-1 : Int32))] [] (ev_hp I J R T) cz kz := by
  intro G
  rfl
theorem fd_164 {s n kd t w mm k : Nat} {v : Int64} {e : Int32} {i : Nat}
    (H : (((Int32.ofNat i) ≤ (Int32.ofNat k) → pw N X 190 210 [.ref 35, .int (Int32.ofNat s), .int (Int32.ofNat n), .int (Int32.ofNat kd), .int (Int32.ofNat t), .int (Int32.ofNat w), .int (Int32.ofNat mm), .long v, ez_fill, .int (Int32.ofNat k), .int e, .int (Int32.ofNat i)] [] (ev_hp I J R T) Q) ∧ (¬ ((Int32.ofNat i) ≤ (Int32.ofNat k)) → ((e = (0 : Int32) → pw N X 190 210 [.ref 35, .int (Int32.ofNat s), .int (Int32.ofNat n), .int (Int32.ofNat kd), .int (Int32.ofNat t), .int (Int32.ofNat w), .int (Int32.ofNat mm), .long v, ez_fill, .int (Int32.ofNat k), .int e, .int (Int32.ofNat i)] [] (ev_hp I J R T) Q) ∧ (¬ (e = (0 : Int32)) → (ev_ix ((((300 : Int32) * (Int32.ofNat s)) + (Int32.ofNat i)) - (1 : Int32)) 900 → (ev_ix (((300 : Int32) * (Int32.ofNat s)) + (Int32.ofNat i)) 900 → pw N X 190 164 [.ref 35, .int (Int32.ofNat s), .int (Int32.ofNat n), .int (Int32.ofNat kd), .int (Int32.ofNat t), .int (Int32.ofNat w), .int (Int32.ofNat mm), .long v, ez_fill, .int (Int32.ofNat k), .int e, .int ((Int32.ofNat i) + (-1 : Int32))] [] (ev_hp I (ev_sJ J 39 (vp_updL (J 39) ((((300 : Int32) * (Int32.ofNat s)) + (Int32.ofNat i)).toNatClampNeg) (J 39 ((((300 : Int32) * (Int32.ofNat s)) + (Int32.ofNat i)) - (1 : Int32)).toNatClampNeg))) R T) Q))))))) : pw (N + 1) X 190 164 [.ref 35, .int (Int32.ofNat s), .int (Int32.ofNat n), .int (Int32.ofNat kd), .int (Int32.ofNat t), .int (Int32.ofNat w), .int (Int32.ofNat mm), .long v, ez_fill, .int (Int32.ofNat k), .int e, .int (Int32.ofNat i)] [] (ev_hp I J R T) Q := by
  refine pw_if (by decide) (fun _ _ => fd_r29) (fun w1 => ?_) (fun w1 => ?_)
  · have h1 := H.1 w1
    exact h1
  · have h1 := H.2 w1
    refine pw_p (pw_if (by decide) (fun _ _ => fd_r30) (fun w2 => ?_) (fun w2 => ?_))
    · have h2 := h1.1 w2
      exact h2
    · have h2 := h1.2 w2
      refine pw_p (pw_seg (by decide) (fun _ _ => fd_r31) ?_)
      refine pw_p (pw_seg (by decide) (fun _ _ => fd_r32) ?_)
      refine pw_p (pw_lald (by rfl) (cx_getJ (show cx_Ds[39]? = some (1, 900, []) from rfl)) (fun w3 => ?_))
      have h3 := h2 w3
      refine pw_p (pw_last (by rfl) (cx_getJ (show cx_Ds[39]? = some (1, 900, []) from rfl)) (cx_setJ (show cx_Ds[39]? = some (1, 900, []) from rfl) _) (fun w3 => ?_))
      have h3 := h3 w3
      refine pw_p (pw_seg (by decide) (fun _ _ => fd_r33) ?_)
      exact h3
set_option maxRecDepth 100000 in
theorem fd_r34 {a0 : Int32} {a1 : Int32} {a2 : Int32} {a3 : Int32} {a4 : Int32} {a5 : Int32} {a6 : Int64} {a7 : Int32} {a8 : Int32} {a9 : Int32} : ∀ G : ez_F, fx_up X 2 G 190 210 [.ref 35, .int a0, .int a1, .int a2, .int a3, .int a4, .int a5, .long a6, ez_fill, .int a7, .int a8, .int a9] [] (ev_hp I J R T) cz kz = bif decide (a8 = (0 : Int32)) then G 190 233 [.ref 35, .int a0, .int a1, .int a2, .int a3, .int a4, .int a5, .long a6, ez_fill, .int a7, .int a8, .int a9] [] (ev_hp I J R T) cz kz else G 190 215 [.ref 35, .int a0, .int a1, .int a2, .int a3, .int a4, .int a5, .long a6, ez_fill, .int a7, .int a8, .int a9] [] (ev_hp I J R T) cz kz := by
  intro G
  rfl
set_option maxRecDepth 100000 in
theorem fd_r35 {a0 : Int32} {a1 : Int32} {a2 : Int32} {a3 : Int32} {a4 : Int32} {a5 : Int32} {a6 : Int64} {a7 : Int32} {a8 : Int32} {a9 : Int32} : ∀ G : ez_F, fx_up X 8 G 190 215 [.ref 35, .int a0, .int a1, .int a2, .int a3, .int a4, .int a5, .long a6, ez_fill, .int a7, .int a8, .int a9] [] (ev_hp I J R T) cz kz = G 190 229 [.ref 35, .int a0, .int a1, .int a2, .int a3, .int a4, .int a5, .long a6, ez_fill, .int a7, .int a8, .int a9] [.long a6, .int (((300 : Int32) * a0) + a7), .ref 39] (ev_hp I J R T) cz kz := by
  intro G
  rfl
set_option maxRecDepth 100000 in
theorem fd_r36 {a0 : Int32} {a1 : Int32} {a2 : Int32} {a3 : Int32} {a4 : Int32} {a5 : Int32} {a6 : Int64} {a7 : Int32} {a8 : Int32} {a9 : Int32} : ∀ G : ez_F, fx_up X 1 G 190 230 [.ref 35, .int a0, .int a1, .int a2, .int a3, .int a4, .int a5, .long a6, ez_fill, .int a7, .int a8, .int a9] [] (ev_hp I J R T) cz kz = G 190 233 [.ref 35, .int a0, .int (a1 + (1 : Int32)), .int a2, .int a3, .int a4, .int a5, .long a6, ez_fill, .int a7, .int a8, .int a9] [] (ev_hp I J R T) cz kz := by
  intro G
  rfl
theorem fd_210 {s n kd t w mm k : Nat} {v : Int64} {e i : Int32}
    (H : ((e = (0 : Int32) → pw N X 190 233 [.ref 35, .int (Int32.ofNat s), .int (Int32.ofNat n), .int (Int32.ofNat kd), .int (Int32.ofNat t), .int (Int32.ofNat w), .int (Int32.ofNat mm), .long v, ez_fill, .int (Int32.ofNat k), .int e, .int i] [] (ev_hp I J R T) Q) ∧ (¬ (e = (0 : Int32)) → (ev_ix (((300 : Int32) * (Int32.ofNat s)) + (Int32.ofNat k)) 900 → pw N X 190 233 [.ref 35, .int (Int32.ofNat s), .int ((Int32.ofNat n) + (1 : Int32)), .int (Int32.ofNat kd), .int (Int32.ofNat t), .int (Int32.ofNat w), .int (Int32.ofNat mm), .long v, ez_fill, .int (Int32.ofNat k), .int e, .int i] [] (ev_hp I (ev_sJ J 39 (vp_updL (J 39) ((((300 : Int32) * (Int32.ofNat s)) + (Int32.ofNat k)).toNatClampNeg) v)) R T) Q)))) : pw (N + 1) X 190 210 [.ref 35, .int (Int32.ofNat s), .int (Int32.ofNat n), .int (Int32.ofNat kd), .int (Int32.ofNat t), .int (Int32.ofNat w), .int (Int32.ofNat mm), .long v, ez_fill, .int (Int32.ofNat k), .int e, .int i] [] (ev_hp I J R T) Q := by
  refine pw_if (by decide) (fun _ _ => fd_r34) (fun w1 => ?_) (fun w1 => ?_)
  · have h1 := H.1 w1
    exact h1
  · have h1 := H.2 w1
    refine pw_p (pw_seg (by decide) (fun _ _ => fd_r35) ?_)
    refine pw_p (pw_last (by rfl) (cx_getJ (show cx_Ds[39]? = some (1, 900, []) from rfl)) (cx_setJ (show cx_Ds[39]? = some (1, 900, []) from rfl) _) (fun w2 => ?_))
    have h2 := h1 w2
    refine pw_p (pw_seg (by decide) (fun _ _ => fd_r36) ?_)
    exact h2
set_option maxRecDepth 100000 in
theorem fd_r37 {a0 : Int32} {a1 : Int32} {a2 : Int32} {a3 : Int32} {a4 : Int32} {a5 : Int32} {a6 : Int64} {a7 : Int32} {a8 : Int32} {a9 : Int32} : ∀ G : ez_F, fx_up X 2 G 190 233 [.ref 35, .int a0, .int a1, .int a2, .int a3, .int a4, .int a5, .long a6, ez_fill, .int a7, .int a8, .int a9] [] (ev_hp I J R T) cz kz = G 190 57 [.ref 35, .int a0, .int a1, .int a2, .int a3, .int a4, .int (a5 + (1 : Int32)), .long a6, ez_fill, .int a7, .int a8, .int a9] [] (ev_hp I J R T) cz kz := by
  intro G
  rfl
theorem fd_233 {s n kd t w mm k : Nat} {v : Int64} {e i : Int32}
    (H : pw N X 190 57 [.ref 35, .int (Int32.ofNat s), .int (Int32.ofNat n), .int (Int32.ofNat kd), .int (Int32.ofNat t), .int (Int32.ofNat w), .int ((Int32.ofNat mm) + (1 : Int32))] [] (ev_hp I J R T) Q) : pw (N + 1) X 190 233 [.ref 35, .int (Int32.ofNat s), .int (Int32.ofNat n), .int (Int32.ofNat kd), .int (Int32.ofNat t), .int (Int32.ofNat w), .int (Int32.ofNat mm), .long v, ez_fill, .int (Int32.ofNat k), .int e, .int i] [] (ev_hp I J R T) Q := by
  refine pw_seg (by decide) (fun _ _ => fd_r37) ?_
  refine pw_cutl (by rfl) ?_
  exact H
set_option maxRecDepth 100000 in
theorem fd_r38 {a0 : Int32} {a1 : Int32} {a2 : Int32} {a3 : Int32} : ∀ G : ez_F, fx_up X 3 G 190 255 [.ref 35, .int a0, .int a1, .int a2, .int a3] [] (ev_hp I J R T) cz kz = bif decide (a1 ≤ a3) then G 190 301 [.ref 35, .int a0, .int a1, .int a2, .int a3] [] (ev_hp I J R T) cz kz else G 190 261 [.ref 35, .int a0, .int a1, .int a2, .int a3] [] (ev_hp I J R T) cz kz := by
  intro G
  rfl
set_option maxRecDepth 100000 in
theorem fd_r39 {a0 : Int32} {a1 : Int32} {a2 : Int32} {a3 : Int32} : ∀ G : ez_F, fx_up X 1 G 190 301 [.ref 35, .int a0, .int a1, .int a2, .int a3] [] (ev_hp I J R T) cz kz = some (none, (ev_hp I J R T), cz, kz) := by
  intro G
  rfl
set_option maxRecDepth 100000 in
theorem fd_r40 {a0 : Int32} {a1 : Int32} {a2 : Int32} {a3 : Int32} : ∀ G : ez_F, fx_up X 12 G 190 261 [.ref 35, .int a0, .int a1, .int a2, .int a3] [] (ev_hp I J R T) cz kz = G 190 282 [.ref 35, .int a0, .int a1, .int a2, .int a3] [.int a0, .int (300 : Int32), .ref 39, .ref 35, .int (((300 : Int32) * a0) + a3), .ref 40] (ev_hp I J R T) cz kz := by
  intro G
  rfl
set_option maxRecDepth 100000 in
theorem fd_r41 {a0 : Int32} {a1 : Int32} {a2 : Int32} {a3 : Int32} {a4 : Int32} {a5 : Int32} {a6 : Int32} : ∀ G : ez_F, fx_up X 3 G 190 282 [.ref 35, .int a0, .int a1, .int a2, .int a3] [.int a4, .int a5, .ref 39, .ref 35, .int a6, .ref 40] (ev_hp I J R T) cz kz = G 190 286 [.ref 35, .int a0, .int a1, .int a2, .int a3] [.int ((a5 * a4) + a3), .ref 39, .ref 35, .int a6, .ref 40] (ev_hp I J R T) cz kz := by
  intro G
  rfl
set_option maxRecDepth 100000 in
theorem fd_r42 {a0 : Int32} {a1 : Int32} {a2 : Int32} {a3 : Int32} {a4 : Int64} {a5 : Int32} : ∀ G : ez_F, fx_up X 2 G 190 287 [.ref 35, .int a0, .int a1, .int a2, .int a3] [.long a4, .ref 35, .int a5, .ref 40] (ev_hp I J R T) cz kz = G 190 291 [.ref 35, .int a0, .int a1, .int a2, .int a3] [.int (I 35 6), .long a4, .ref 35, .int a5, .ref 40] (ev_hp I J R T) cz kz := by
  intro G
  rfl
set_option maxRecDepth 100000 in
theorem fd_r43 {a0 : Int32} {a1 : Int32} {a2 : Int32} {a3 : Int32} {a4 : Int32} {a5 : Int64} {a6 : Int32} : ∀ G : ez_F, fx_up X 1 G 190 291 [.ref 35, .int a0, .int a1, .int a2, .int a3] [.int a4, .long a5, .ref 35, .int a6, .ref 40] (ev_hp I J R T) cz kz = ev_C G 165 [.ref 35, .long a5, .int a4] (ev_hp I J R T) fun r h1 c1 k1 => G 190 294 [.ref 35, .int a0, .int a1, .int a2, .int a3] (r.toList ++ [.int a6, .ref 40]) h1 (cz + c1) (kz + k1) := by
  intro G
  rfl
theorem fd_255 {s n kd t : Nat}
    (H : (((Int32.ofNat n) ≤ (Int32.ofNat t) → Q none (ev_hp I J R T)) ∧ (¬ ((Int32.ofNat n) ≤ (Int32.ofNat t)) → (ev_ix (((300 : Int32) * (Int32.ofNat s)) + (Int32.ofNat t)) 900 → (∃ Q1 : pw_Q, pe N X 165 [.ref 35, .long (J 39 (((300 : Int32) * (Int32.ofNat s)) + (Int32.ofNat t)).toNatClampNeg), .int (I 35 6)] (ev_hp I J R T) Q1 ∧ ∀ (r : Option Value) (h1 : ez_H), Q1 r h1 → pw N X 190 294 [.ref 35, .int (Int32.ofNat s), .int (Int32.ofNat n), .int (Int32.ofNat kd), .int (Int32.ofNat t)] (r.toList ++ [.int (((300 : Int32) * (Int32.ofNat s)) + (Int32.ofNat t)), .ref 40]) h1 Q))))) : pw (N + 1) X 190 255 [.ref 35, .int (Int32.ofNat s), .int (Int32.ofNat n), .int (Int32.ofNat kd), .int (Int32.ofNat t)] [] (ev_hp I J R T) Q := by
  refine pw_if (by decide) (fun _ _ => fd_r38) (fun w1 => ?_) (fun w1 => ?_)
  · have h1 := H.1 w1
    exact pw_p (pw_ret (by decide) (fun _ _ => fd_r39) h1)
  · have h1 := H.2 w1
    refine pw_p (pw_seg (by decide) (fun _ _ => fd_r40) ?_)
    refine pw_p (pw_seg (by decide) (fun _ _ => fd_r41) ?_)
    refine pw_p (pw_lald (by rfl) (cx_getJ (show cx_Ds[39]? = some (1, 900, []) from rfl)) (fun w2 => ?_))
    have h2 := h1 w2
    refine pw_p (pw_seg (by decide) (fun _ _ => fd_r42) ?_)
    obtain ⟨Q1, hc, hk⟩ := h2
    exact pw_p (pw_call (by decide) (fun _ _ => fd_r43) hc hk)
set_option maxRecDepth 100000 in
theorem fd_r44 {a0 : Int32} {a1 : Int32} {a2 : Int32} {a3 : Int32} : ∀ G : ez_F, fx_up X 2 G 190 295 [.ref 35, .int a0, .int a1, .int a2, .int a3] [] (ev_hp I J R T) cz kz = G 190 255 [.ref 35, .int a0, .int a1, .int a2, .int (a3 + (1 : Int32))] [] (ev_hp I J R T) cz kz := by
  intro G
  rfl
theorem fd_294 {s n kd t : Nat} {v : Int64} {i : Int32}
    (H : (ev_ix i 900 → pw N X 190 255 [.ref 35, .int (Int32.ofNat s), .int (Int32.ofNat n), .int (Int32.ofNat kd), .int ((Int32.ofNat t) + (1 : Int32))] [] (ev_hp I (ev_sJ J 40 (vp_updL (J 40) i.toNatClampNeg v)) R T) Q)) : pw (N + 1) X 190 294 [.ref 35, .int (Int32.ofNat s), .int (Int32.ofNat n), .int (Int32.ofNat kd), .int (Int32.ofNat t)] [.long v, .int i, .ref 40] (ev_hp I J R T) Q := by
  refine pw_last (by rfl) (cx_getJ (show cx_Ds[40]? = some (1, 900, []) from rfl)) (cx_setJ (show cx_Ds[40]? = some (1, 900, []) from rfl) _) (fun w1 => ?_)
  have h1 := H w1
  refine pw_p (pw_seg (by decide) (fun _ _ => fd_r44) ?_)
  exact h1
end
/-- what the row holds within a turn -/
def rf_A (W H wr : Int32) (sh t m : Nat) (u : Int64) : Prop := sp_M W H wr sh t u ∨ (u ≠ 0 ∧ ∃ m', m' < m ∧ u = sp_u W H wr (pm (rt t) sh 16) m')
section
variable {W H wr : Int32} {sh t m : Nat}
theorem rf_A0 (u : Int64) : rf_A W H wr sh t 0 u ↔ sp_M W H wr sh t u := by
  constructor
  · rintro (h | ⟨_, m', h, _⟩)
    · exact h
    · omega
  · exact Or.inl
theorem rf_A100 (u : Int64) : rf_A W H wr sh t 100 u ↔ sp_M W H wr sh (t + 1) u := (sp_M1 u).symm
theorem rf_A1 (u : Int64) : rf_A W H wr sh t (m + 1) u ↔ rf_A W H wr sh t m u ∨ (u ≠ 0 ∧ u = sp_u W H wr (pm (rt t) sh 16) m) := by
  constructor
  · rintro (h | ⟨h0, m', h, e⟩)
    · exact Or.inl (Or.inl h)
    · by_cases hm : m' = m
      · rw [hm] at e
        exact Or.inr ⟨h0, e⟩
      · exact Or.inl (Or.inr ⟨h0, m', by omega, e⟩)
  · rintro ((h | ⟨h0, m', h, e⟩) | ⟨h0, e⟩)
    · exact Or.inl h
    · exact Or.inr ⟨h0, m', by omega, e⟩
    · exact Or.inr ⟨h0, m, by omega, e⟩
theorem rf_AM (hm : m ≤ 100) {u : Int64} (h : rf_A W H wr sh t m u) : sp_M W H wr sh (t + 1) u := by
  rw [sp_M1]
  rcases h with h | ⟨h0, m', h, e⟩
  · exact Or.inl h
  · exact Or.inr ⟨h0, m', by omega, e⟩
end
def rf_row (J39 : Nat → Int64) (s n : Nat) (A : Int64 → Prop) (f : Nat → Int64) : Prop := srt f (300 * s) n ∧ n ≤ 288 ∧ (∀ w, inrow f (300 * s) n w ↔ A w) ∧ ∀ q, q < 300 * s ∨ 300 * s + 300 ≤ q → f q = J39 q
def fd_Q (I : Nat → Nat → Int32) (J : Nat → Nat → Int64) (R : Nat → Nat) (T : List ez_C) (s sh K : Nat) : pw_Q := fun r h => r = none ∧ ∃ n f g, h = ev_hp (ev_sI I 38 (upd (I 38) s (Int32.ofNat n))) (ev_sJ (ev_sJ J 39 f) 40 g) R T ∧ rf_row (J 39) s n (sp_M (I 35 0) (I 35 1) (I 35 2) sh K) f ∧
  (∀ q, q < 300 * s ∨ 300 * s + 300 ≤ q → g q = J 40 q) ∧ ∀ a, a < n → g (300 * s + a) = ab_F (I 35 0) (I 35 1) (I 35 2) (I 35 6) (f (300 * s + a))
theorem i_300 {s : Nat} : (300 : Int32) * Int32.ofNat s = Int32.ofNat (300 * s) := io_mul 300 s
section
variable {N : Nat} {X : ez_X} {I : Nat → Nat → Int32} {J : Nat → Nat → Int64} {R : Nat → Nat} {T : List ez_C} {Q : pw_Q} {s sh kd t w n : Nat} {f : Nat → Int64} {v : Int64}
/-- one move: its set is put in its place -/
theorem rf_one (hs : s < 3) (hwr : I 35 2 = 0 ∨ I 35 2 = 1) (hW : 2 ≤ (I 35 0).toInt ∧ (I 35 0).toInt ≤ 6) (hH : 2 ≤ (I 35 1).toInt ∧ (I 35 1).toInt ≤ 6) (ht : t < 8) {m : Nat} (hm : m < 100)
    (hv : v = sp_u (I 35 0) (I 35 1) (I 35 2) (pm (rt t) sh 16) m) (h : rf_row (J 39) s n (rf_A (I 35 0) (I 35 1) (I 35 2) sh t m) f)
    (cont : ∀ (n' : Nat) (f' : Nat → Int64) (k : Nat) (e i : Int32), rf_row (J 39) s n' (rf_A (I 35 0) (I 35 1) (I 35 2) sh t (m + 1)) f' → pw N X 190 233 [.ref 35, .int (Int32.ofNat s), .int (Int32.ofNat n'), .int (Int32.ofNat kd), .int (Int32.ofNat t), .int (Int32.ofNat w), .int (Int32.ofNat m), .long v, ez_fill, .int (Int32.ofNat k), .int e, .int i] [] (ev_hp I (ev_sJ J 39 f') R T) Q) :
    pw N X 190 89 [.ref 35, .int (Int32.ofNat s), .int (Int32.ofNat n), .int (Int32.ofNat kd), .int (Int32.ofNat t), .int (Int32.ofNat w), .int (Int32.ofNat m), .long v, ez_fill, .int (Int32.ofNat n)] [] (ev_hp I (ev_sJ J 39 f) R T) Q := by
  obtain ⟨h1, h2, h3, h4⟩ := h
  have hAM : ∀ u, inrow f (300 * s) n u → sp_M (I 35 0) (I 35 1) (I 35 2) sh (t + 1) u := fun u hu => rf_AM (by omega) ((h3 u).mp hu)
  -- not a new one
  have old : ∀ (k : Nat) (i : Int32), (v = 0 ∨ inrow f (300 * s) n v) → pw N X 190 210 [.ref 35, .int (Int32.ofNat s), .int (Int32.ofNat n), .int (Int32.ofNat kd), .int (Int32.ofNat t), .int (Int32.ofNat w), .int (Int32.ofNat m), .long v, ez_fill, .int (Int32.ofNat k), .int (0 : Int32), .int i] [] (ev_hp I (ev_sJ J 39 f) R T) Q := by
    intro k i ho
    refine pw_p (fd_210 ⟨fun _ => cont n f k 0 i ⟨h1, h2, fun u => ?_, h4⟩, fun z => absurd rfl z⟩)
    rw [h3 u, rf_A1, ← hv]
    constructor
    · exact Or.inl
    · rintro (h | ⟨e0, e⟩)
      · exact h
      · rcases ho with ho | ho
        · exact absurd (e.trans ho) e0
        · rw [e]
          exact (h3 v).mp ho
  have old2 : ∀ (k : Nat), (v = 0 ∨ inrow f (300 * s) n v) → pw N X 190 164 [.ref 35, .int (Int32.ofNat s), .int (Int32.ofNat n), .int (Int32.ofNat kd), .int (Int32.ofNat t), .int (Int32.ofNat w), .int (Int32.ofNat m), .long v, ez_fill, .int (Int32.ofNat k), .int (0 : Int32), .int (Int32.ofNat n)] [] (ev_hp I (ev_sJ J 39 f) R T) Q := fun k ho =>
    pw_p (fd_164 ⟨fun _ => old k _ ho, fun _ => ⟨fun _ => old k _ ho, fun z => absurd rfl z⟩⟩)
  -- a new one
  have new : ∀ k, k ≤ n → v ≠ 0 → (∀ a : Nat, k ≤ a → a < n → v.toInt < (f (300 * s + a)).toInt) → (k = 0 ∨ (f (300 * s + (k - 1))).toInt < v.toInt) → ¬ inrow f (300 * s) n v →
      pw N X 190 164 [.ref 35, .int (Int32.ofNat s), .int (Int32.ofNat n), .int (Int32.ofNat kd), .int (Int32.ofNat t), .int (Int32.ofNat w), .int (Int32.ofNat m), .long v, ez_fill, .int (Int32.ofNat k), .int (1 : Int32), .int (Int32.ofNat n)] [] (ev_hp I (ev_sJ J 39 f) R T) Q := by
    intro k hk h0 hi lo hn
    have hn2 : n < 288 := sp_room hwr hW hH (by omega) h1 hAM (rf_AM (m := m + 1) (by omega) ((rf_A1 v).mpr (Or.inr ⟨h0, hv⟩))) hn
    have loop : ∀ (D i : Nat), k + D = i → i ≤ n → pw N X 190 164 [.ref 35, .int (Int32.ofNat s), .int (Int32.ofNat n), .int (Int32.ofNat kd), .int (Int32.ofNat t), .int (Int32.ofNat w), .int (Int32.ofNat m), .long v, ez_fill, .int (Int32.ofNat k), .int (1 : Int32), .int (Int32.ofNat i)] [] (ev_hp I (ev_sJ J 39 (rw_sh f (300 * s) i n)) R T) Q := by
      intro D
      induction D with
      | zero =>
        intro i hi1 hi2
        obtain rfl : i = k := by omega
        have go := cont (n + 1) (rw_ins f (300 * s) i n v) i 1 (Int32.ofNat i) ⟨srt_ins h1 hk hi lo, by omega, fun u => ?_, fun q hq => ?_⟩
        · refine pw_p (fd_164 ⟨fun _ => ?_, fun z => absurd ((io_le (by omega) (by omega)).mpr (Nat.le_refl i)) z⟩)
          refine pw_p (fd_210 ⟨fun z => absurd z (by decide), fun _ _ => ?_⟩)
          rw [io_1, i_300, io_add, ix_cl (by omega), cx_sJ_s, fs_sJ2]
          exact go
        · rw [in_ins hk u, h3 u, rf_A1, ← hv]
          constructor
          · rintro (h | h)
            · exact Or.inl h
            · exact Or.inr ⟨by rw [h]; exact h0, h⟩
          · rintro (h | h)
            · exact Or.inl h
            · exact Or.inr h.2
        · rw [rw_ins_out f v hk (by omega)]
          exact h4 q hq
      | succ D ih =>
        intro i hi1 hi2
        refine pw_p (fd_164 ⟨fun z => ?_, fun _ => ⟨fun z => absurd z (by decide), fun _ _ _ => ?_⟩⟩)
        · rw [io_le (by omega) (by omega)] at z
          omega
        · rw [io_dec (by omega), i_300, io_add, show (1 : Int32) = Int32.ofNat 1 from rfl, io_sub (by omega), ix_cl (by omega), ix_cl (by omega), cx_sJ_s, rw_sh_1 f (300 * s) i n (by omega) hi2, fs_sJ2]
          exact ih (i - 1) (by omega) (by omega)
    have h := loop (n - k) n (by omega) (Nat.le_refl n)
    rw [rw_sh_0] at h
    exact h
  -- from the place on
  have rest : ∀ k, k ≤ n → (∀ a : Nat, k ≤ a → a < n → v.toInt < (f (300 * s + a)).toInt) → (k = 0 ∨ (f (300 * s + (k - 1))).toInt ≤ v.toInt) →
      pw N X 190 121 [.ref 35, .int (Int32.ofNat s), .int (Int32.ofNat n), .int (Int32.ofNat kd), .int (Int32.ofNat t), .int (Int32.ofNat w), .int (Int32.ofNat m), .long v, ez_fill, .int (Int32.ofNat k)] [] (ev_hp I (ev_sJ J 39 f) R T) Q := by
    intro k hk hi lo
    have out : (k = 0 ∨ (f (300 * s + (k - 1))).toInt < v.toInt) → ¬ inrow f (300 * s) n v := by
      rintro lo2 ⟨a, ha, e⟩
      by_cases h5 : a < k
      · have := srt_below h1 hk lo2 a h5
        rw [e] at this
        omega
      · have := hi a (by omega) ha
        rw [e] at this
        omega
    refine pw_p (fd_121 ⟨fun z => ?_, fun z => ⟨fun z2 => ?_, fun z2 z3 => ⟨fun z4 => ?_, fun z4 => ?_⟩⟩⟩)
    · rw [lg_eq] at z
      exact old2 k (Or.inl z)
    · rw [lg_eq] at z
      rw [show (0 : Int32) = Int32.ofNat 0 from rfl, io_eq (by omega) (by omega)] at z2
      exact new k hk z hi (Or.inl z2) (out (Or.inl z2))
    · rw [show (0 : Int32) = Int32.ofNat 0 from rfl, io_eq (by omega) (by omega)] at z2
      rw [lg_eq, i_300, io_add, show (1 : Int32) = Int32.ofNat 1 from rfl, io_sub (by omega), ix_cl (by omega), cx_sJ_s] at z4
      exact old2 k (Or.inr ⟨k - 1, by omega, by rw [show 300 * s + (k - 1) = 300 * s + k - 1 by omega]; exact z4⟩)
    · rw [lg_eq] at z
      rw [show (0 : Int32) = Int32.ofNat 0 from rfl, io_eq (by omega) (by omega)] at z2
      rw [lg_eq, i_300, io_add, show (1 : Int32) = Int32.ofNat 1 from rfl, io_sub (by omega), ix_cl (by omega), cx_sJ_s] at z4
      have lo2 : k = 0 ∨ (f (300 * s + (k - 1))).toInt < v.toInt := by
        rcases lo with lo | lo
        · exact Or.inl lo
        · have h6 : ¬ (f (300 * s + (k - 1))).toInt = v.toInt := fun e => z4 (by rw [show 300 * s + k - 1 = 300 * s + (k - 1) by omega]; exact Int64.toInt_inj.mp e)
          exact Or.inr (by omega)
      exact new k hk z hi lo2 (out lo2)
  -- to the place
  have loop : ∀ k, k ≤ n → (∀ a : Nat, k ≤ a → a < n → v.toInt < (f (300 * s + a)).toInt) →
      pw N X 190 89 [.ref 35, .int (Int32.ofNat s), .int (Int32.ofNat n), .int (Int32.ofNat kd), .int (Int32.ofNat t), .int (Int32.ofNat w), .int (Int32.ofNat m), .long v, ez_fill, .int (Int32.ofNat k)] [] (ev_hp I (ev_sJ J 39 f) R T) Q := by
    intro k
    induction k with
    | zero =>
      intro hk hi
      refine pw_p (fd_89 ⟨fun _ => rest 0 hk hi (Or.inl rfl), fun z => absurd ((io_le0 (by omega)).mpr rfl) z⟩)
    | succ k ih =>
      intro hk hi
      refine pw_p (fd_89 ⟨fun z => ?_, fun _ _ => ⟨fun z => ?_, fun z => ?_⟩⟩)
      · rw [io_le0 (by omega)] at z
        omega
      · rw [lg_le, i_300, io_add, show (1 : Int32) = Int32.ofNat 1 from rfl, io_sub (by omega), ix_cl (by omega), cx_sJ_s] at z
        exact rest (k + 1) hk hi (Or.inr z)
      · rw [lg_le, i_300, io_add, show (1 : Int32) = Int32.ofNat 1 from rfl, io_sub (by omega), ix_cl (by omega), cx_sJ_s] at z
        rw [io_dec (by omega)]
        refine ih (by omega) fun a h5 h6 => ?_
        by_cases h7 : a = k
        · rw [h7]
          rw [show 300 * s + (k + 1) - 1 = 300 * s + k by omega] at z
          omega
        · exact hi a (by omega) h6
  exact loop n (Nat.le_refl n) fun a h5 h6 => by omega
theorem pe_find {tn : Nat} (hs : s < 3) (hwr : I 35 2 = 0 ∨ I 35 2 = 1) (hW : 2 ≤ (I 35 0).toInt ∧ (I 35 0).toInt ≤ 6) (hH : 2 ≤ (I 35 1).toInt ∧ (I 35 1).toInt ≤ 6) (hsh : sh < 65536) (htn : tn < 3) (h36 : I 36 s = Int32.ofNat sh) (h37 : I 37 s = Int32.ofNat tn) :
    pe N X 190 [.ref 35, .int (Int32.ofNat s)] (ev_hp I J R T) (fd_Q I J R T s sh (sp_k tn)) := by
  have e0 : (0 : Int32).toInt = 0 := by decide
  have hnW : ¬ I 35 0 = 0 := fun z => by rw [z, e0] at hW; omega
  have hnH : ¬ I 35 1 = 0 := fun z => by rw [z, e0] at hH; omega
  have hk8 := sp_k8 tn
  have hcell : 0 ≤ (I 35 0 * I 35 1).toInt ∧ (I 35 0 * I 35 1).toInt < 900 := by
    have m0 : 0 ≤ (I 35 0).toInt * (I 35 1).toInt := Int.mul_nonneg (by omega) (by omega)
    have m1 : (I 35 0).toInt * (I 35 1).toInt ≤ 6 * 6 := Int.mul_le_mul hW.2 hH.2 (by omega) (by decide)
    rw [Int32.toInt_mul, cx_bm32]
    · omega
    · simp only [cx_i32]; omega
  -- the barred cells of each spot
  have fill : ∀ (n : Nat) (f : Nat → Int64), rf_row (J 39) s n (sp_M (I 35 0) (I 35 1) (I 35 2) sh (sp_k tn)) f → ∀ (D a : Nat) (g : Nat → Int64), a + D = n → (∀ q, q < 300 * s ∨ 300 * s + 300 ≤ q → g q = J 40 q) → (∀ b, b < a → g (300 * s + b) = ab_F (I 35 0) (I 35 1) (I 35 2) (I 35 6) (f (300 * s + b))) →
      pw N X 190 255 [.ref 35, .int (Int32.ofNat s), .int (Int32.ofNat n), .int (Int32.ofNat (sp_k tn)), .int (Int32.ofNat a)] [] (ev_hp (ev_sI I 38 (upd (I 38) s (Int32.ofNat n))) (ev_sJ (ev_sJ J 39 f) 40 g) R T) (fd_Q I J R T s sh (sp_k tn)) := by
    intro n f hrow D
    have hn := hrow.2.1
    induction D with
    | zero =>
      intro a g ha h1 h2
      refine pw_p (fd_255 ⟨fun _ => ⟨rfl, n, f, g, rfl, hrow, h1, fun b hb => h2 b (by omega)⟩, fun z => absurd ((io_le (by omega) (by omega)).mpr (by omega)) z⟩)
    | succ D ih =>
      intro a g ha h1 h2
      refine pw_p (fd_255 ⟨fun z => ?_, fun _ _ => ?_⟩)
      · rw [io_le (by omega) (by omega)] at z
        omega
      · rw [i_300, io_add, ix_cl (by omega), cx_sJ_n _ _ (by decide), cx_sJ_s, cx_sI_n _ _ (show (35 : Nat) ≠ 38 by decide)]
        refine ⟨_, pe_about (by rw [cx_sI_n _ _ (show (35 : Nat) ≠ 38 by decide)]; exact hcell), ?_⟩
        rintro r h ⟨rfl, rfl⟩
        refine pw_p (fd_294 fun _ => ?_)
        rw [io_1, ix_cl (by omega), cx_sJ_s, fs_sJ2, cx_sI_n _ _ (show (35 : Nat) ≠ 38 by decide)]
        refine ih (a + 1) _ (by omega) (fun q hq => ?_) (fun b hb => ?_)
        · rw [updL_n _ _ (by omega)]
          exact h1 q hq
        · by_cases hba : b = a
          · rw [hba, updL_s]
          · rw [updL_n _ _ (by omega)]
            exact h2 b (by omega)
  -- the turns
  have turns : ∀ (D t n : Nat) (f : Nat → Int64), t + D = sp_k tn → rf_row (J 39) s n (sp_M (I 35 0) (I 35 1) (I 35 2) sh t) f →
      pw N X 190 35 [.ref 35, .int (Int32.ofNat s), .int (Int32.ofNat n), .int (Int32.ofNat (sp_k tn)), .int (Int32.ofNat t)] [] (ev_hp I (ev_sJ J 39 f) R T) (fd_Q I J R T s sh (sp_k tn)) := by
    intro D
    induction D with
    | zero =>
      intro t n f ht hrow
      obtain rfl : t = sp_k tn := by omega
      refine pw_p (fd_35 ⟨fun _ _ => ?_, fun z => absurd ((io_le (by omega) (by omega)).mpr (Nat.le_refl _)) z⟩)
      rw [ix_cl (by omega)]
      have h := fill n f hrow n 0 (J 40) (by omega) (fun _ _ => rfl) (fun b hb => by omega)
      have e40 : ev_sJ (ev_sJ J 39 f) 40 (J 40) = ev_sJ J 39 f := by
        have := fs_sJ_self (ev_sJ J 39 f) 40
        rw [cx_sJ_n _ _ (show (40 : Nat) ≠ 39 by decide)] at this
        exact this
      rw [e40] at h
      exact h
    | succ D ih =>
      intro t n f ht hrow
      refine pw_p (fd_35 ⟨fun z => ?_, fun _ _ => ?_⟩)
      · rw [io_le (by omega) (by omega)] at z
        omega
      rw [ix_cl (by omega), h36]
      refine ⟨_, pe_is (ex_tu X _ _ R T hsh (show t < 8 by omega)), ?_⟩
      rintro r h ⟨rfl, rfl⟩
      refine pw_p (fd_52 ?_)
      -- the moves
      have moves : ∀ (E m n : Nat) (f : Nat → Int64), m + E = 100 → rf_row (J 39) s n (rf_A (I 35 0) (I 35 1) (I 35 2) sh t m) f →
          pw N X 190 57 [.ref 35, .int (Int32.ofNat s), .int (Int32.ofNat n), .int (Int32.ofNat (sp_k tn)), .int (Int32.ofNat t), .int (Int32.ofNat (pm (rt t) sh 16)), .int (Int32.ofNat m)] [] (ev_hp I (ev_sJ J 39 f) R T) (fd_Q I J R T s sh (sp_k tn)) := by
        intro E
        induction E with
        | zero =>
          intro m n f hm hrow
          obtain rfl : m = 100 := by omega
          refine pw_p (fd_57 ⟨fun _ => ?_, fun z => absurd (by decide) z⟩)
          rw [io_1]
          exact ih (t + 1) n f (by omega) ⟨hrow.1, hrow.2.1, fun w => (hrow.2.2.1 w).trans (rf_A100 w), hrow.2.2.2⟩
        | succ E ih2 =>
          intro m n f hm hrow
          refine pw_p (fd_57 ⟨fun z => ?_, fun _ _ _ => ?_⟩)
          · rw [show (100 : Int32) = Int32.ofNat 100 from rfl, io_le (by omega) (by omega)] at z
            omega
          refine ⟨_, pe_is (eh_mv X _ _ R T _ _ _ hnW hnH), ?_⟩
          rintro r h ⟨rfl, rfl⟩
          refine pw_p (fd_84 ?_)
          refine rf_one (sh := sh) hs hwr hW hH (by omega) (by omega) rfl hrow fun n' f' k e i hrow' => ?_
          refine pw_p (fd_233 ?_)
          rw [io_1]
          exact ih2 (m + 1) n' f' (by omega) hrow'
      exact moves 100 0 n f rfl ⟨hrow.1, hrow.2.1, fun w => (hrow.2.2.1 w).trans (rf_A0 w).symm, hrow.2.2.2⟩
  have start := turns (sp_k tn) 0 0 (J 39) (Nat.zero_add _) ⟨fun a b _ h => by omega, by omega, fun w => ⟨fun ⟨a, h, _⟩ => by omega, fun h => absurd h (sp_M0 w)⟩, fun _ _ => rfl⟩
  rw [fs_sJ_self] at start
  refine pe_of (pw_p (fd_0 fun _ => ?_))
  rw [ix_cl (by omega), h37]
  refine ⟨fun z => fun _ => ⟨fun z2 => ?_, fun z2 => ?_⟩, fun z => ?_⟩
  · have e : sp_k tn = 8 := by
      unfold sp_k
      rw [if_neg fun h => z (by rw [h]; rfl), if_neg fun h => z2 (by rw [h]; rfl)]
    rw [e] at start ⊢
    exact start
  · have h := Classical.not_not.mp z2
    rw [show (1 : Int32) = Int32.ofNat 1 from rfl, io_eq (by omega) (by omega)] at h
    subst h
    exact start
  · have h := Classical.not_not.mp z
    rw [show (0 : Int32) = Int32.ofNat 0 from rfl, io_eq (by omega) (by omega)] at h
    subst h
    exact start
end
