section
/-! The class: the call chosen for a group. -/
section
variable {N : Nat} {X : ez_X} {I : Nat → Nat → Int32} {J : Nat → Nat → Int64} {R : Nat → Nat} {T : List ez_C} {Q : pw_Q} {cz kz : Nat}
set_option maxRecDepth 100000 in
theorem ca_r0 {a0 : Int32} {a1 : Int64} : ∀ G : ez_F, fx_up X 4 G 68 0 [.ref 22, .int a0, .long a1, ez_fill] [] (ev_hp I J R T) cz kz = ev_C G 152 [.ref 1, .int (1 : Int32)] (ev_hp I J R T) fun r h1 c1 k1 => G 68 8 [.ref 22, .int a0, .long a1, ez_fill] (r.toList ++ []) h1 (cz + c1) (kz + k1) := by
  intro G
  rfl
set_option maxRecDepth 100000 in
theorem ca_r1 {a0 : Int32} {a1 : Int64} {a2 : Int32} : ∀ G : ez_F, fx_up X 1 G 68 8 [.ref 22, .int a0, .long a1, ez_fill] [.int a2] (ev_hp I J R T) cz kz = bif decide (¬ a2 = (0 : Int32)) then G 68 13 [.ref 22, .int a0, .long a1, ez_fill] [] (ev_hp I J R T) cz kz else G 68 11 [.ref 22, .int a0, .long a1, ez_fill] [] (ev_hp I J R T) cz kz := by
  intro G
  rfl
set_option maxRecDepth 100000 in
theorem ca_r2 {a0 : Int32} {a1 : Int64} : ∀ G : ez_F, fx_up X 4 G 68 13 [.ref 22, .int a0, .long a1, ez_fill] [] (ev_hp I J R T) cz kz = ev_C G 138 [.ref 6, .int a0] (ev_hp I J R T) fun r h1 c1 k1 => G 68 21 [.ref 22, .int a0, .long a1, ez_fill] (r.toList ++ []) h1 (cz + c1) (kz + k1) := by
  intro G
  rfl
set_option maxRecDepth 100000 in
theorem ca_r3 {a0 : Int32} {a1 : Int64} : ∀ G : ez_F, fx_up X 2 G 68 11 [.ref 22, .int a0, .long a1, ez_fill] [] (ev_hp I J R T) cz kz = some (some (.long (0 : Int64)), (ev_hp I J R T), cz, kz) := by
  intro G
  rfl
theorem si_0 {k : Int32} {z : Int64}
    (H : ((¬ (ev_at 3 (I 2) (1 : Int32)) = (0 : Int32) → (∃ Q1 : pw_Q, pe N X 138 [.ref 6, .int k] (ev_hp I J R T) Q1 ∧ ∀ (r : Option Value) (h1 : ez_H), Q1 r h1 → pw N X 68 21 [.ref 22, .int k, .long z, ez_fill] (r.toList ++ []) h1 Q)) ∧ (¬ (¬ (ev_at 3 (I 2) (1 : Int32)) = (0 : Int32)) → Q (some (.long (0 : Int64))) (ev_hp I J R T)))) : pw (N + 1) X 68 0 [.ref 22, .int k, .long z, ez_fill] [] (ev_hp I J R T) Q := by
  refine pw_callp (by decide) (fun _ _ => ca_r0) (pe_rule2) ?_
  refine pw_p (pw_if (by decide) (fun _ _ => ca_r1) (fun w1 => ?_) (fun w1 => ?_))
  · have h1 := H.1 w1
    obtain ⟨Q1, hc, hk⟩ := h1
    exact pw_p (pw_call (by decide) (fun _ _ => ca_r2) hc hk)
  · have h1 := H.2 w1
    exact pw_p (pw_ret (by decide) (fun _ _ => ca_r3) h1)
set_option maxRecDepth 100000 in
theorem ca_r4 {a0 : Int32} {a1 : Int64} {a2 : Int32} : ∀ G : ez_F, fx_up X 5 G 68 21 [.ref 22, .int a0, .long a1, ez_fill] [.int a2] (ev_hp I J R T) cz kz = G 68 29 [.ref 22, .int a0, .long a1, ez_fill, .int a2, .long (0 : Int64), ez_fill, .int (0 : Int32)] [] (ev_hp I J R T) cz kz := by
  intro G
  rfl
theorem si_21 {k e : Int32} {z : Int64}
    (H : pw N X 68 29 [.ref 22, .int k, .long z, ez_fill, .int e, .long (0 : Int64), ez_fill, .int (0 : Int32)] [] (ev_hp I J R T) Q) : pw (N + 1) X 68 21 [.ref 22, .int k, .long z, ez_fill] [.int e] (ev_hp I J R T) Q := by
  refine pw_seg (by decide) (fun _ _ => ca_r4) ?_
  exact H
set_option maxRecDepth 100000 in
theorem ca_r5 {a0 : Int32} {a1 : Int64} {a2 : Int32} {a3 : Int64} {a4 : Int32} : ∀ G : ez_F, fx_up X 3 G 68 29 [.ref 22, .int a0, .long a1, ez_fill, .int a2, .long a3, ez_fill, .int a4] [] (ev_hp I J R T) cz kz = bif decide ((3 : Int32) ≤ a4) then G 68 66 [.ref 22, .int a0, .long a1, ez_fill, .int a2, .long a3, ez_fill, .int a4] [] (ev_hp I J R T) cz kz else G 68 35 [.ref 22, .int a0, .long a1, ez_fill, .int a2, .long a3, ez_fill, .int a4] [] (ev_hp I J R T) cz kz := by
  intro G
  rfl
set_option maxRecDepth 100000 in
theorem ca_r6 {a0 : Int32} {a1 : Int64} {a2 : Int32} {a3 : Int64} {a4 : Int32} : ∀ G : ez_F, fx_up X 2 G 68 66 [.ref 22, .int a0, .long a1, ez_fill, .int a2, .long a3, ez_fill, .int a4] [] (ev_hp I J R T) cz kz = some (some (.long a3), (ev_hp I J R T), cz, kz) := by
  intro G
  rfl
set_option maxRecDepth 100000 in
theorem ca_r7 {a0 : Int32} {a1 : Int64} {a2 : Int32} {a3 : Int64} {a4 : Int32} : ∀ G : ez_F, fx_up X 6 G 68 35 [.ref 22, .int a0, .long a1, ez_fill, .int a2, .long a3, ez_fill, .int a4] [] (ev_hp I J R T) cz kz = ev_C G 87 [.ref 3, .int a2, .int a4] (ev_hp I J R T) fun r h1 c1 k1 => G 68 48 [.ref 22, .int a0, .long a1, ez_fill, .int a2, .long a3, ez_fill, .int a4] (r.toList ++ [.long a3]) h1 (cz + c1) (kz + k1) := by
  intro G
  rfl
theorem si_29 {k e s : Int32} {z u : Int64}
    (H : (((3 : Int32) ≤ s → Q (some (.long u)) (ev_hp I J R T)) ∧ (¬ ((3 : Int32) ≤ s) → (∃ Q1 : pw_Q, pe N X 87 [.ref 3, .int e, .int s] (ev_hp I J R T) Q1 ∧ ∀ (r : Option Value) (h1 : ez_H), Q1 r h1 → pw N X 68 48 [.ref 22, .int k, .long z, ez_fill, .int e, .long u, ez_fill, .int s] (r.toList ++ [.long u]) h1 Q)))) : pw (N + 1) X 68 29 [.ref 22, .int k, .long z, ez_fill, .int e, .long u, ez_fill, .int s] [] (ev_hp I J R T) Q := by
  refine pw_if (by decide) (fun _ _ => ca_r5) (fun w1 => ?_) (fun w1 => ?_)
  · have h1 := H.1 w1
    exact pw_p (pw_ret (by decide) (fun _ _ => ca_r6) h1)
  · have h1 := H.2 w1
    obtain ⟨Q1, hc, hk⟩ := h1
    exact pw_p (pw_call (by decide) (fun _ _ => ca_r7) hc hk)
set_option maxRecDepth 100000 in
theorem ca_r8 {a0 : Int32} {a1 : Int64} {a2 : Int32} {a3 : Int64} {a4 : Int32} {a5 : Int64} {a6 : Int64} : ∀ G : ez_F, fx_up X 5 G 68 48 [.ref 22, .int a0, .long a1, ez_fill, .int a2, .long a3, ez_fill, .int a4] [.long a5, .long a6] (ev_hp I J R T) cz kz = ev_C G 36 [.long (a5 &&& (a1 ^^^ (18446744073709551615 : Int64)))] (ev_hp I J R T) fun r h1 c1 k1 => G 68 57 [.ref 22, .int a0, .long a1, ez_fill, .int a2, .long a3, ez_fill, .int a4] (r.toList ++ [.long a6]) h1 (cz + c1) (kz + k1) := by
  intro G
  rfl
set_option maxRecDepth 100000 in
theorem ca_r9 {a0 : Int32} {a1 : Int64} {a2 : Int32} {a3 : Int64} {a4 : Int32} {a5 : Int64} {a6 : Int64} : ∀ G : ez_F, fx_up X 4 G 68 57 [.ref 22, .int a0, .long a1, ez_fill, .int a2, .long a3, ez_fill, .int a4] [.long a5, .long a6] (ev_hp I J R T) cz kz = G 68 29 [.ref 22, .int a0, .long a1, ez_fill, .int a2, .long (a6 ||| a5), ez_fill, .int (a4 + (1 : Int32))] [] (ev_hp I J R T) cz kz := by
  intro G
  rfl
theorem si_48 {k e s : Int32} {z u v w : Int64}
    (H : pw N X 68 29 [.ref 22, .int k, .long z, ez_fill, .int e, .long (w ||| (on1 (v &&& (z ^^^ (18446744073709551615 : Int64))))), ez_fill, .int (s + (1 : Int32))] [] (ev_hp I J R T) Q) : pw (N + 1) X 68 48 [.ref 22, .int k, .long z, ez_fill, .int e, .long u, ez_fill, .int s] [.long v, .long w] (ev_hp I J R T) Q := by
  refine pw_callp (by decide) (fun _ _ => ca_r8) (pe_onlyOne) ?_
  refine pw_p (pw_seg (by decide) (fun _ _ => ca_r9) ?_)
  exact H
set_option maxRecDepth 100000 in
theorem ca_r10 {a0 : Int32} {a1 : Int32} {a2 : Int64} : ∀ G : ez_F, fx_up X 4 G 58 0 [.ref 22, .int a0, .int a1, .long a2, ez_fill] [] (ev_hp I J R T) cz kz = ev_C G 137 [.ref 6, .int a0] (ev_hp I J R T) fun r h1 c1 k1 => G 58 8 [.ref 22, .int a0, .int a1, .long a2, ez_fill] (r.toList ++ []) h1 (cz + c1) (kz + k1) := by
  intro G
  rfl
theorem aw_0 {k c : Int32} {z : Int64}
    (H : (∃ Q1 : pw_Q, pe N X 137 [.ref 6, .int k] (ev_hp I J R T) Q1 ∧ ∀ (r : Option Value) (h1 : ez_H), Q1 r h1 → pw N X 58 8 [.ref 22, .int k, .int c, .long z, ez_fill] (r.toList ++ []) h1 Q)) : pw (N + 1) X 58 0 [.ref 22, .int k, .int c, .long z, ez_fill] [] (ev_hp I J R T) Q := by
  obtain ⟨Q1, hc, hk⟩ := H
  exact pw_call (by decide) (fun _ _ => ca_r10) hc hk
set_option maxRecDepth 100000 in
theorem ca_r11 {a0 : Int32} {a1 : Int32} {a2 : Int64} {a3 : Int64} : ∀ G : ez_F, fx_up X 7 G 58 8 [.ref 22, .int a0, .int a1, .long a2, ez_fill] [.long a3] (ev_hp I J R T) cz kz = bif decide (¬ (lg_cmp ((a3.toUInt64 >>> (a1.toInt64.toUInt64 &&& Int64.toUInt64 63)).toInt64 &&& (1 : Int64)) (0 : Int64)) = (0 : Int32)) then G 58 19 [.ref 22, .int a0, .int a1, .long a2, ez_fill] [] (ev_hp I J R T) cz kz else G 58 17 [.ref 22, .int a0, .int a1, .long a2, ez_fill] [] (ev_hp I J R T) cz kz := by
  intro G
  rfl
set_option maxRecDepth 100000 in
theorem ca_r12 {a0 : Int32} {a1 : Int32} {a2 : Int64} : ∀ G : ez_F, fx_up X 4 G 58 19 [.ref 22, .int a0, .int a1, .long a2, ez_fill] [] (ev_hp I J R T) cz kz = ev_C G 68 [.ref 22, .int a0, .long a2] (ev_hp I J R T) fun r h1 c1 k1 => G 58 25 [.ref 22, .int a0, .int a1, .long a2, ez_fill] (r.toList ++ []) h1 (cz + c1) (kz + k1) := by
  intro G
  rfl
set_option maxRecDepth 100000 in
theorem ca_r13 {a0 : Int32} {a1 : Int32} {a2 : Int64} : ∀ G : ez_F, fx_up X 2 G 58 17 [.ref 22, .int a0, .int a1, .long a2, ez_fill] [] (ev_hp I J R T) cz kz = some (some (.int (0 : Int32)), (ev_hp I J R T), cz, kz) := by
  intro G
  rfl
theorem aw_8 {k c : Int32} {z u : Int64}
    (H : ((¬ (lg_cmp ((u.toUInt64 >>> (c.toInt64.toUInt64 &&& Int64.toUInt64 63)).toInt64 &&& (1 : Int64)) (0 : Int64)) = (0 : Int32) → (∃ Q1 : pw_Q, pe N X 68 [.ref 22, .int k, .long z] (ev_hp I J R T) Q1 ∧ ∀ (r : Option Value) (h1 : ez_H), Q1 r h1 → pw N X 58 25 [.ref 22, .int k, .int c, .long z, ez_fill] (r.toList ++ []) h1 Q)) ∧ (¬ (¬ (lg_cmp ((u.toUInt64 >>> (c.toInt64.toUInt64 &&& Int64.toUInt64 63)).toInt64 &&& (1 : Int64)) (0 : Int64)) = (0 : Int32)) → Q (some (.int (0 : Int32))) (ev_hp I J R T)))) : pw (N + 1) X 58 8 [.ref 22, .int k, .int c, .long z, ez_fill] [.long u] (ev_hp I J R T) Q := by
  refine pw_if (by decide) (fun _ _ => ca_r11) (fun w1 => ?_) (fun w1 => ?_)
  · have h1 := H.1 w1
    obtain ⟨Q1, hc, hk⟩ := h1
    exact pw_p (pw_call (by decide) (fun _ _ => ca_r12) hc hk)
  · have h1 := H.2 w1
    exact pw_p (pw_ret (by decide) (fun _ _ => ca_r13) h1)
set_option maxRecDepth 100000 in
theorem ca_r14 {a0 : Int32} {a1 : Int32} {a2 : Int64} {a3 : Int64} : ∀ G : ez_F, fx_up X 7 G 58 25 [.ref 22, .int a0, .int a1, .long a2, ez_fill] [.long a3] (ev_hp I J R T) cz kz = bif decide (¬ (lg_cmp ((a3.toUInt64 >>> (a1.toInt64.toUInt64 &&& Int64.toUInt64 63)).toInt64 &&& (1 : Int64)) (0 : Int64)) = (0 : Int32)) then G 58 38 [.ref 22, .int a0, .int a1, .long a2, ez_fill] [] (ev_hp I J R T) cz kz else G 58 34 [.ref 22, .int a0, .int a1, .long a2, ez_fill] [] (ev_hp I J R T) cz kz := by
  intro G
  rfl
set_option maxRecDepth 100000 in
theorem ca_r15 {a0 : Int32} {a1 : Int32} {a2 : Int64} : ∀ G : ez_F, fx_up X 2 G 58 38 [.ref 22, .int a0, .int a1, .long a2, ez_fill] [] (ev_hp I J R T) cz kz = some (some (.int (2 : Int32)), (ev_hp I J R T), cz, kz) := by
  intro G
  rfl
set_option maxRecDepth 100000 in
theorem ca_r16 {a0 : Int32} {a1 : Int32} {a2 : Int64} : ∀ G : ez_F, fx_up X 3 G 58 34 [.ref 22, .int a0, .int a1, .long a2, ez_fill] [] (ev_hp I J R T) cz kz = some (some (.int (1 : Int32)), (ev_hp I J R T), cz, kz) := by
  intro G
  rfl
theorem aw_25 {k c : Int32} {z u : Int64}
    (H : ((¬ (lg_cmp ((u.toUInt64 >>> (c.toInt64.toUInt64 &&& Int64.toUInt64 63)).toInt64 &&& (1 : Int64)) (0 : Int64)) = (0 : Int32) → Q (some (.int (2 : Int32))) (ev_hp I J R T)) ∧ (¬ (¬ (lg_cmp ((u.toUInt64 >>> (c.toInt64.toUInt64 &&& Int64.toUInt64 63)).toInt64 &&& (1 : Int64)) (0 : Int64)) = (0 : Int32)) → Q (some (.int (1 : Int32))) (ev_hp I J R T)))) : pw (N + 1) X 58 25 [.ref 22, .int k, .int c, .long z, ez_fill] [.long u] (ev_hp I J R T) Q := by
  refine pw_if (by decide) (fun _ _ => ca_r14) (fun w1 => ?_) (fun w1 => ?_)
  · have h1 := H.1 w1
    exact pw_p (pw_ret (by decide) (fun _ _ => ca_r15) h1)
  · have h1 := H.2 w1
    exact pw_p (pw_ret (by decide) (fun _ _ => ca_r16) h1)
set_option maxRecDepth 100000 in
theorem ca_r17 {a0 : Int64} : ∀ G : ez_F, fx_up X 4 G 160 0 [.ref 24, .long a0, ez_fill] [] (ev_hp I J R T) cz kz = G 160 5 [.ref 24, .long a0, ez_fill, .long a0, ez_fill, .int (0 : Int32)] [] (ev_hp I J R T) cz kz := by
  intro G
  rfl
theorem ci24_0 {z : Int64}
    (H : pw N X 160 5 [.ref 24, .long z, ez_fill, .long z, ez_fill, .int (0 : Int32)] [] (ev_hp I J R T) Q) : pw (N + 1) X 160 0 [.ref 24, .long z, ez_fill] [] (ev_hp I J R T) Q := by
  refine pw_seg (by decide) (fun _ _ => ca_r17) ?_
  exact H
set_option maxRecDepth 100000 in
theorem ca_r18 {a0 : Int64} {a1 : Int64} {a2 : Int32} : ∀ G : ez_F, fx_up X 3 G 160 5 [.ref 24, .long a0, ez_fill, .long a1, ez_fill, .int a2] [] (ev_hp I J R T) cz kz = bif decide ((36 : Int32) ≤ a2) then G 160 50 [.ref 24, .long a0, ez_fill, .long a1, ez_fill, .int a2] [] (ev_hp I J R T) cz kz else G 160 12 [.ref 24, .long a0, ez_fill, .long a1, ez_fill, .int a2] [] (ev_hp I J R T) cz kz := by
  intro G
  rfl
set_option maxRecDepth 100000 in
theorem ca_r19 {a0 : Int64} {a1 : Int64} {a2 : Int32} : ∀ G : ez_F, fx_up X 1 G 160 50 [.ref 24, .long a0, ez_fill, .long a1, ez_fill, .int a2] [] (ev_hp I J R T) cz kz = some (none, (ev_hp I J R T), cz, kz) := by
  intro G
  rfl
set_option maxRecDepth 100000 in
theorem ca_r20 {a0 : Int64} {a1 : Int64} {a2 : Int32} : ∀ G : ez_F, fx_up X 4 G 160 12 [.ref 24, .long a0, ez_fill, .long a1, ez_fill, .int a2] [] (ev_hp I J R T) cz kz = bif decide ((lg_cmp a1 (0 : Int64)) = (0 : Int32)) then G 160 50 [.ref 24, .long a0, ez_fill, .long a1, ez_fill, .int a2] [] (ev_hp I J R T) cz kz else G 160 18 [.ref 24, .long a0, ez_fill, .long a1, ez_fill, .int a2] [] (ev_hp I J R T) cz kz := by
  intro G
  rfl
set_option maxRecDepth 100000 in
theorem ca_r21 {a0 : Int64} {a1 : Int64} {a2 : Int32} : ∀ G : ez_F, fx_up X 2 G 160 18 [.ref 24, .long a0, ez_fill, .long a1, ez_fill, .int a2] [] (ev_hp I J R T) cz kz = ev_C G 239 [.long a1] (ev_hp I J R T) fun r h1 c1 k1 => G 160 22 [.ref 24, .long a0, ez_fill, .long a1, ez_fill, .int a2] (r.toList ++ []) h1 (cz + c1) (kz + k1) := by
  intro G
  rfl
theorem ci24_5 {z w : Int64} {n : Int32}
    (H : (((36 : Int32) ≤ n → Q none (ev_hp I J R T)) ∧ (¬ ((36 : Int32) ≤ n) → (((lg_cmp w (0 : Int64)) = (0 : Int32) → Q none (ev_hp I J R T)) ∧ (¬ ((lg_cmp w (0 : Int64)) = (0 : Int32)) → (∃ Q1 : pw_Q, pe N X 239 [.long w] (ev_hp I J R T) Q1 ∧ ∀ (r : Option Value) (h1 : ez_H), Q1 r h1 → pw N X 160 22 [.ref 24, .long z, ez_fill, .long w, ez_fill, .int n] (r.toList ++ []) h1 Q)))))) : pw (N + 1) X 160 5 [.ref 24, .long z, ez_fill, .long w, ez_fill, .int n] [] (ev_hp I J R T) Q := by
  refine pw_if (by decide) (fun _ _ => ca_r18) (fun w1 => ?_) (fun w1 => ?_)
  · have h1 := H.1 w1
    exact pw_p (pw_ret (by decide) (fun _ _ => ca_r19) h1)
  · have h1 := H.2 w1
    refine pw_p (pw_if (by decide) (fun _ _ => ca_r20) (fun w2 => ?_) (fun w2 => ?_))
    · have h2 := h1.1 w2
      exact pw_p (pw_ret (by decide) (fun _ _ => ca_r19) h2)
    · have h2 := h1.2 w2
      obtain ⟨Q1, hc, hk⟩ := h2
      exact pw_p (pw_call (by decide) (fun _ _ => ca_r21) hc hk)
set_option maxRecDepth 100000 in
theorem ca_r22 {a0 : Int64} {a1 : Int64} {a2 : Int32} {a3 : Int32} : ∀ G : ez_F, fx_up X 6 G 160 22 [.ref 24, .long a0, ez_fill, .long a1, ez_fill, .int a2] [.int a3] (ev_hp I J R T) cz kz = ev_C G 3 [.ref 24, .int a3] (ev_hp I J R T) fun r h1 c1 k1 => G 160 33 [.ref 24, .long a0, ez_fill, .long a1, ez_fill, .int a2, .int a3] (r.toList ++ [.int a3, .ref 24]) h1 (cz + c1) (kz + k1) := by
  intro G
  rfl
set_option maxRecDepth 100000 in
theorem ca_r23 {a0 : Int64} {a1 : Int64} {a2 : Int32} {a3 : Int32} {a4 : Int32} {a5 : Int32} : ∀ G : ez_F, fx_up X 3 G 160 33 [.ref 24, .long a0, ez_fill, .long a1, ez_fill, .int a2, .int a3] [.int a4, .int a5, .ref 24] (ev_hp I J R T) cz kz = ev_C G 38 [.ref 24, .int a5, .int (a4 + (1 : Int32))] (ev_hp I J R T) fun r h1 c1 k1 => G 160 38 [.ref 24, .long a0, ez_fill, .long a1, ez_fill, .int a2, .int a3] (r.toList ++ []) h1 (cz + c1) (kz + k1) := by
  intro G
  rfl
set_option maxRecDepth 100000 in
theorem ca_r24 {a0 : Int64} {a1 : Int64} {a2 : Int32} {a3 : Int32} : ∀ G : ez_F, fx_up X 8 G 160 38 [.ref 24, .long a0, ez_fill, .long a1, ez_fill, .int a2, .int a3] [] (ev_hp I J R T) cz kz = G 160 5 [.ref 24, .long a0, ez_fill, .long (a1 &&& (a1 - (1 : Int64))), ez_fill, .int (a2 + (1 : Int32)), .int a3] [] (ev_hp I J R T) cz kz := by
  intro G
  rfl
theorem ci24_22 {z w : Int64} {n c : Int32}
    (H : pw N X 160 5 [.ref 24, .long z, ez_fill, .long (w &&& (w - (1 : Int64))), ez_fill, .int (n + (1 : Int32))] [] (ev_hp (ev_sI I 24 (ev_put 36 (I 24) c ((ev_at 36 (I 24) c) + (1 : Int32)))) J R T) Q) : pw (N + 1) X 160 22 [.ref 24, .long z, ez_fill, .long w, ez_fill, .int n] [.int c] (ev_hp I J R T) Q := by
  refine pw_callp (by decide) (fun _ _ => ca_r22) (pe_at (show cx_Ds[24]? = some (0, 36, []) from rfl) (by decide)) ?_
  refine pw_p (pw_callp (by decide) (fun _ _ => ca_r23) (pe_put (show cx_Ds[24]? = some (0, 36, []) from rfl) (by decide)) ?_)
  refine pw_p (pw_seg (by decide) (fun _ _ => ca_r24) ?_)
  refine pw_cutl (by rfl) ?_
  exact H
set_option maxRecDepth 100000 in
theorem ca_r25 {a0 : Int64} : ∀ G : ez_F, fx_up X 4 G 160 0 [.ref 25, .long a0, ez_fill] [] (ev_hp I J R T) cz kz = G 160 5 [.ref 25, .long a0, ez_fill, .long a0, ez_fill, .int (0 : Int32)] [] (ev_hp I J R T) cz kz := by
  intro G
  rfl
theorem ci25_0 {z : Int64}
    (H : pw N X 160 5 [.ref 25, .long z, ez_fill, .long z, ez_fill, .int (0 : Int32)] [] (ev_hp I J R T) Q) : pw (N + 1) X 160 0 [.ref 25, .long z, ez_fill] [] (ev_hp I J R T) Q := by
  refine pw_seg (by decide) (fun _ _ => ca_r25) ?_
  exact H
set_option maxRecDepth 100000 in
theorem ca_r26 {a0 : Int64} {a1 : Int64} {a2 : Int32} : ∀ G : ez_F, fx_up X 3 G 160 5 [.ref 25, .long a0, ez_fill, .long a1, ez_fill, .int a2] [] (ev_hp I J R T) cz kz = bif decide ((36 : Int32) ≤ a2) then G 160 50 [.ref 25, .long a0, ez_fill, .long a1, ez_fill, .int a2] [] (ev_hp I J R T) cz kz else G 160 12 [.ref 25, .long a0, ez_fill, .long a1, ez_fill, .int a2] [] (ev_hp I J R T) cz kz := by
  intro G
  rfl
set_option maxRecDepth 100000 in
theorem ca_r27 {a0 : Int64} {a1 : Int64} {a2 : Int32} : ∀ G : ez_F, fx_up X 1 G 160 50 [.ref 25, .long a0, ez_fill, .long a1, ez_fill, .int a2] [] (ev_hp I J R T) cz kz = some (none, (ev_hp I J R T), cz, kz) := by
  intro G
  rfl
set_option maxRecDepth 100000 in
theorem ca_r28 {a0 : Int64} {a1 : Int64} {a2 : Int32} : ∀ G : ez_F, fx_up X 4 G 160 12 [.ref 25, .long a0, ez_fill, .long a1, ez_fill, .int a2] [] (ev_hp I J R T) cz kz = bif decide ((lg_cmp a1 (0 : Int64)) = (0 : Int32)) then G 160 50 [.ref 25, .long a0, ez_fill, .long a1, ez_fill, .int a2] [] (ev_hp I J R T) cz kz else G 160 18 [.ref 25, .long a0, ez_fill, .long a1, ez_fill, .int a2] [] (ev_hp I J R T) cz kz := by
  intro G
  rfl
set_option maxRecDepth 100000 in
theorem ca_r29 {a0 : Int64} {a1 : Int64} {a2 : Int32} : ∀ G : ez_F, fx_up X 2 G 160 18 [.ref 25, .long a0, ez_fill, .long a1, ez_fill, .int a2] [] (ev_hp I J R T) cz kz = ev_C G 239 [.long a1] (ev_hp I J R T) fun r h1 c1 k1 => G 160 22 [.ref 25, .long a0, ez_fill, .long a1, ez_fill, .int a2] (r.toList ++ []) h1 (cz + c1) (kz + k1) := by
  intro G
  rfl
theorem ci25_5 {z w : Int64} {n : Int32}
    (H : (((36 : Int32) ≤ n → Q none (ev_hp I J R T)) ∧ (¬ ((36 : Int32) ≤ n) → (((lg_cmp w (0 : Int64)) = (0 : Int32) → Q none (ev_hp I J R T)) ∧ (¬ ((lg_cmp w (0 : Int64)) = (0 : Int32)) → (∃ Q1 : pw_Q, pe N X 239 [.long w] (ev_hp I J R T) Q1 ∧ ∀ (r : Option Value) (h1 : ez_H), Q1 r h1 → pw N X 160 22 [.ref 25, .long z, ez_fill, .long w, ez_fill, .int n] (r.toList ++ []) h1 Q)))))) : pw (N + 1) X 160 5 [.ref 25, .long z, ez_fill, .long w, ez_fill, .int n] [] (ev_hp I J R T) Q := by
  refine pw_if (by decide) (fun _ _ => ca_r26) (fun w1 => ?_) (fun w1 => ?_)
  · have h1 := H.1 w1
    exact pw_p (pw_ret (by decide) (fun _ _ => ca_r27) h1)
  · have h1 := H.2 w1
    refine pw_p (pw_if (by decide) (fun _ _ => ca_r28) (fun w2 => ?_) (fun w2 => ?_))
    · have h2 := h1.1 w2
      exact pw_p (pw_ret (by decide) (fun _ _ => ca_r27) h2)
    · have h2 := h1.2 w2
      obtain ⟨Q1, hc, hk⟩ := h2
      exact pw_p (pw_call (by decide) (fun _ _ => ca_r29) hc hk)
set_option maxRecDepth 100000 in
theorem ca_r30 {a0 : Int64} {a1 : Int64} {a2 : Int32} {a3 : Int32} : ∀ G : ez_F, fx_up X 6 G 160 22 [.ref 25, .long a0, ez_fill, .long a1, ez_fill, .int a2] [.int a3] (ev_hp I J R T) cz kz = ev_C G 3 [.ref 25, .int a3] (ev_hp I J R T) fun r h1 c1 k1 => G 160 33 [.ref 25, .long a0, ez_fill, .long a1, ez_fill, .int a2, .int a3] (r.toList ++ [.int a3, .ref 25]) h1 (cz + c1) (kz + k1) := by
  intro G
  rfl
set_option maxRecDepth 100000 in
theorem ca_r31 {a0 : Int64} {a1 : Int64} {a2 : Int32} {a3 : Int32} {a4 : Int32} {a5 : Int32} : ∀ G : ez_F, fx_up X 3 G 160 33 [.ref 25, .long a0, ez_fill, .long a1, ez_fill, .int a2, .int a3] [.int a4, .int a5, .ref 25] (ev_hp I J R T) cz kz = ev_C G 38 [.ref 25, .int a5, .int (a4 + (1 : Int32))] (ev_hp I J R T) fun r h1 c1 k1 => G 160 38 [.ref 25, .long a0, ez_fill, .long a1, ez_fill, .int a2, .int a3] (r.toList ++ []) h1 (cz + c1) (kz + k1) := by
  intro G
  rfl
set_option maxRecDepth 100000 in
theorem ca_r32 {a0 : Int64} {a1 : Int64} {a2 : Int32} {a3 : Int32} : ∀ G : ez_F, fx_up X 8 G 160 38 [.ref 25, .long a0, ez_fill, .long a1, ez_fill, .int a2, .int a3] [] (ev_hp I J R T) cz kz = G 160 5 [.ref 25, .long a0, ez_fill, .long (a1 &&& (a1 - (1 : Int64))), ez_fill, .int (a2 + (1 : Int32)), .int a3] [] (ev_hp I J R T) cz kz := by
  intro G
  rfl
theorem ci25_22 {z w : Int64} {n c : Int32}
    (H : pw N X 160 5 [.ref 25, .long z, ez_fill, .long (w &&& (w - (1 : Int64))), ez_fill, .int (n + (1 : Int32))] [] (ev_hp (ev_sI I 25 (ev_put 36 (I 25) c ((ev_at 36 (I 25) c) + (1 : Int32)))) J R T) Q) : pw (N + 1) X 160 22 [.ref 25, .long z, ez_fill, .long w, ez_fill, .int n] [.int c] (ev_hp I J R T) Q := by
  refine pw_callp (by decide) (fun _ _ => ca_r30) (pe_at (show cx_Ds[25]? = some (0, 36, []) from rfl) (by decide)) ?_
  refine pw_p (pw_callp (by decide) (fun _ _ => ca_r31) (pe_put (show cx_Ds[25]? = some (0, 36, []) from rfl) (by decide)) ?_)
  refine pw_p (pw_seg (by decide) (fun _ _ => ca_r32) ?_)
  refine pw_cutl (by rfl) ?_
  exact H
set_option maxRecDepth 100000 in
theorem ca_r33  : ∀ G : ez_F, fx_up X 3 G 159 0 [.ref 23] [] (ev_hp I J R T) cz kz = G 159 5 [.ref 23] [] (ev_hp (ev_sI I 23 (upd (I 23) 2 (0 : Int32))) J R T) cz kz := by
  intro G
  rfl
set_option maxRecDepth 100000 in
theorem ca_r34  : ∀ G : ez_F, fx_up X 2 G 159 5 [.ref 23] [] (ev_hp I J R T) cz kz = G 159 7 [.ref 23, .int (0 : Int32)] [] (ev_hp I J R T) cz kz := by
  intro G
  rfl
theorem tl3_0 
    (H : pw N X 159 7 [.ref 23, .int (0 : Int32)] [] (ev_hp (ev_sI I 23 (upd (I 23) 2 (0 : Int32))) J R T) Q) : pw (N + 1) X 159 0 [.ref 23] [] (ev_hp I J R T) Q := by
  refine pw_seg (by decide) (fun _ _ => ca_r33) ?_
  refine pw_p (pw_seg (by decide) (fun _ _ => ca_r34) ?_)
  exact H
set_option maxRecDepth 100000 in
theorem ca_r35 {a0 : Int32} : ∀ G : ez_F, fx_up X 3 G 159 7 [.ref 23, .int a0] [] (ev_hp I J R T) cz kz = bif decide ((36 : Int32) ≤ a0) then G 159 37 [.ref 23, .int a0] [] (ev_hp I J R T) cz kz else G 159 13 [.ref 23, .int a0] [] (ev_hp I J R T) cz kz := by
  intro G
  rfl
set_option maxRecDepth 100000 in
theorem ca_r36 {a0 : Int32} : ∀ G : ez_F, fx_up X 1 G 159 37 [.ref 23, .int a0] [] (ev_hp I J R T) cz kz = some (none, (ev_hp I J R T), cz, kz) := by
  intro G
  rfl
set_option maxRecDepth 100000 in
theorem ca_r37 {a0 : Int32} : ∀ G : ez_F, fx_up X 5 G 159 13 [.ref 23, .int a0] [] (ev_hp I J R T) cz kz = ev_C G 38 [.ref 24, .int a0, .int (0 : Int32)] (ev_hp I J R T) fun r h1 c1 k1 => G 159 22 [.ref 23, .int a0] (r.toList ++ []) h1 (cz + c1) (kz + k1) := by
  intro G
  rfl
set_option maxRecDepth 100000 in
theorem ca_r38 {a0 : Int32} : ∀ G : ez_F, fx_up X 5 G 159 22 [.ref 23, .int a0] [] (ev_hp I J R T) cz kz = ev_C G 38 [.ref 25, .int a0, .int (0 : Int32)] (ev_hp I J R T) fun r h1 c1 k1 => G 159 31 [.ref 23, .int a0] (r.toList ++ []) h1 (cz + c1) (kz + k1) := by
  intro G
  rfl
set_option maxRecDepth 100000 in
theorem ca_r39 {a0 : Int32} : ∀ G : ez_F, fx_up X 2 G 159 31 [.ref 23, .int a0] [] (ev_hp I J R T) cz kz = G 159 7 [.ref 23, .int (a0 + (1 : Int32))] [] (ev_hp I J R T) cz kz := by
  intro G
  rfl
theorem tl3_7 {c : Int32}
    (H : (((36 : Int32) ≤ c → Q none (ev_hp I J R T)) ∧ (¬ ((36 : Int32) ≤ c) → pw N X 159 7 [.ref 23, .int (c + (1 : Int32))] [] (ev_hp (ev_sI (ev_sI I 24 (ev_put 36 (I 24) c (0 : Int32))) 25 (ev_put 36 (I 25) c (0 : Int32))) J R T) Q))) : pw (N + 1) X 159 7 [.ref 23, .int c] [] (ev_hp I J R T) Q := by
  refine pw_if (by decide) (fun _ _ => ca_r35) (fun w1 => ?_) (fun w1 => ?_)
  · have h1 := H.1 w1
    exact pw_p (pw_ret (by decide) (fun _ _ => ca_r36) h1)
  · have h1 := H.2 w1
    refine pw_p (pw_callp (by decide) (fun _ _ => ca_r37) (pe_put (show cx_Ds[24]? = some (0, 36, []) from rfl) (by decide)) ?_)
    refine pw_p (pw_callp (by decide) (fun _ _ => ca_r38) (pe_put (show cx_Ds[25]? = some (0, 36, []) from rfl) (by decide)) ?_)
    refine pw_p (pw_seg (by decide) (fun _ _ => ca_r39) ?_)
    exact h1
set_option maxRecDepth 100000 in
theorem ca_r40 {a0 : Int64} {a1 : Int64} : ∀ G : ez_F, fx_up X 3 G 156 0 [.ref 23, .long a0, ez_fill, .long a1, ez_fill] [] (ev_hp I J R T) cz kz = G 156 5 [.ref 23, .long a0, ez_fill, .long a1, ez_fill] [.int (I 23 2), .ref 23] (ev_hp I J R T) cz kz := by
  intro G
  rfl
set_option maxRecDepth 100000 in
theorem ca_r41 {a0 : Int64} {a1 : Int64} {a2 : Int32} : ∀ G : ez_F, fx_up X 3 G 156 5 [.ref 23, .long a0, ez_fill, .long a1, ez_fill] [.int a2, .ref 23] (ev_hp I J R T) cz kz = G 156 10 [.ref 23, .long a0, ez_fill, .long a1, ez_fill] [] (ev_hp (ev_sI I 23 (upd (I 23) 2 (a2 + (1 : Int32)))) J R T) cz kz := by
  intro G
  rfl
set_option maxRecDepth 100000 in
theorem ca_r42 {a0 : Int64} {a1 : Int64} : ∀ G : ez_F, fx_up X 4 G 156 10 [.ref 23, .long a0, ez_fill, .long a1, ez_fill] [] (ev_hp I J R T) cz kz = ev_C G 160 [.ref 24, .long a0] (ev_hp I J R T) fun r h1 c1 k1 => G 156 18 [.ref 23, .long a0, ez_fill, .long a1, ez_fill] (r.toList ++ []) h1 (cz + c1) (kz + k1) := by
  intro G
  rfl
theorem td3_0 {z w : Int64}
    (H : (∃ Q1 : pw_Q, pe N X 160 [.ref 24, .long z] (ev_hp (ev_sI I 23 (upd (I 23) 2 ((I 23 2) + (1 : Int32)))) J R T) Q1 ∧ ∀ (r : Option Value) (h1 : ez_H), Q1 r h1 → pw N X 156 18 [.ref 23, .long z, ez_fill, .long w, ez_fill] (r.toList ++ []) h1 Q)) : pw (N + 1) X 156 0 [.ref 23, .long z, ez_fill, .long w, ez_fill] [] (ev_hp I J R T) Q := by
  refine pw_seg (by decide) (fun _ _ => ca_r40) ?_
  refine pw_p (pw_seg (by decide) (fun _ _ => ca_r41) ?_)
  obtain ⟨Q1, hc, hk⟩ := H
  exact pw_p (pw_call (by decide) (fun _ _ => ca_r42) hc hk)
set_option maxRecDepth 100000 in
theorem ca_r43 {a0 : Int64} {a1 : Int64} : ∀ G : ez_F, fx_up X 4 G 156 18 [.ref 23, .long a0, ez_fill, .long a1, ez_fill] [] (ev_hp I J R T) cz kz = ev_C G 160 [.ref 25, .long a1] (ev_hp I J R T) fun r h1 c1 k1 => G 156 26 [.ref 23, .long a0, ez_fill, .long a1, ez_fill] (r.toList ++ []) h1 (cz + c1) (kz + k1) := by
  intro G
  rfl
theorem td3_18 {z w : Int64}
    (H : (∃ Q1 : pw_Q, pe N X 160 [.ref 25, .long w] (ev_hp I J R T) Q1 ∧ ∀ (r : Option Value) (h1 : ez_H), Q1 r h1 → pw N X 156 26 [.ref 23, .long z, ez_fill, .long w, ez_fill] (r.toList ++ []) h1 Q)) : pw (N + 1) X 156 18 [.ref 23, .long z, ez_fill, .long w, ez_fill] [] (ev_hp I J R T) Q := by
  obtain ⟨Q1, hc, hk⟩ := H
  exact pw_call (by decide) (fun _ _ => ca_r43) hc hk
set_option maxRecDepth 100000 in
theorem ca_r44 {a0 : Int64} {a1 : Int64} : ∀ G : ez_F, fx_up X 1 G 156 26 [.ref 23, .long a0, ez_fill, .long a1, ez_fill] [] (ev_hp I J R T) cz kz = some (none, (ev_hp I J R T), cz, kz) := by
  intro G
  rfl
theorem td3_26 {z w : Int64}
    (H : Q none (ev_hp I J R T)) : pw (N + 1) X 156 26 [.ref 23, .long z, ez_fill, .long w, ez_fill] [] (ev_hp I J R T) Q := by
  exact pw_ret (by decide) (fun _ _ => ca_r44) H
set_option maxRecDepth 100000 in
theorem ca_r45 {a0 : Int32} : ∀ G : ez_F, fx_up X 4 G 163 0 [.ref 23, .int a0] [] (ev_hp I J R T) cz kz = ev_C G 3 [.ref 24, .int a0] (ev_hp I J R T) fun r h1 c1 k1 => G 163 8 [.ref 23, .int a0] (r.toList ++ []) h1 (cz + c1) (kz + k1) := by
  intro G
  rfl
set_option maxRecDepth 100000 in
theorem ca_r46 {a0 : Int32} {a1 : Int32} : ∀ G : ez_F, fx_up X 1 G 163 8 [.ref 23, .int a0] [.int a1] (ev_hp I J R T) cz kz = some (some (.int a1), (ev_hp I J R T), cz, kz) := by
  intro G
  rfl
theorem sh3_0 {c : Int32}
    (H : Q (some (.int (ev_at 36 (I 24) c))) (ev_hp I J R T)) : pw (N + 1) X 163 0 [.ref 23, .int c] [] (ev_hp I J R T) Q := by
  refine pw_callp (by decide) (fun _ _ => ca_r45) (pe_at (show cx_Ds[24]? = some (0, 36, []) from rfl) (by decide)) ?_
  exact pw_p (pw_ret (by decide) (fun _ _ => ca_r46) H)
set_option maxRecDepth 100000 in
theorem ca_r47 {a0 : Int32} {a1 : Int32} : ∀ G : ez_F, fx_up X 2 G 162 0 [.ref 23, .int a0, .int a1] [] (ev_hp I J R T) cz kz = bif decide (¬ a1 = (0 : Int32)) then G 162 18 [.ref 23, .int a0, .int a1] [] (ev_hp I J R T) cz kz else G 162 4 [.ref 23, .int a0, .int a1] [] (ev_hp I J R T) cz kz := by
  intro G
  rfl
set_option maxRecDepth 100000 in
theorem ca_r48 {a0 : Int32} {a1 : Int32} : ∀ G : ez_F, fx_up X 3 G 162 18 [.ref 23, .int a0, .int a1] [] (ev_hp I J R T) cz kz = bif decide (¬ a1 = (1 : Int32)) then G 162 43 [.ref 23, .int a0, .int a1] [] (ev_hp I J R T) cz kz else G 162 23 [.ref 23, .int a0, .int a1] [] (ev_hp I J R T) cz kz := by
  intro G
  rfl
set_option maxRecDepth 100000 in
theorem ca_r49 {a0 : Int32} {a1 : Int32} : ∀ G : ez_F, fx_up X 4 G 162 43 [.ref 23, .int a0, .int a1] [] (ev_hp I J R T) cz kz = ev_C G 3 [.ref 25, .int a0] (ev_hp I J R T) fun r h1 c1 k1 => G 162 51 [.ref 23, .int a0, .int a1] (r.toList ++ []) h1 (cz + c1) (kz + k1) := by
  intro G
  rfl
set_option maxRecDepth 100000 in
theorem ca_r50 {a0 : Int32} {a1 : Int32} {a2 : Int32} : ∀ G : ez_F, fx_up X 1 G 162 51 [.ref 23, .int a0, .int a1] [.int a2] (ev_hp I J R T) cz kz = some (some (.int a2), (ev_hp I J R T), cz, kz) := by
  intro G
  rfl
set_option maxRecDepth 100000 in
theorem ca_r51 {a0 : Int32} {a1 : Int32} : ∀ G : ez_F, fx_up X 4 G 162 23 [.ref 23, .int a0, .int a1] [] (ev_hp I J R T) cz kz = ev_C G 3 [.ref 24, .int a0] (ev_hp I J R T) fun r h1 c1 k1 => G 162 31 [.ref 23, .int a0, .int a1] (r.toList ++ []) h1 (cz + c1) (kz + k1) := by
  intro G
  rfl
set_option maxRecDepth 100000 in
theorem ca_r52 {a0 : Int32} {a1 : Int32} {a2 : Int32} : ∀ G : ez_F, fx_up X 4 G 162 31 [.ref 23, .int a0, .int a1] [.int a2] (ev_hp I J R T) cz kz = ev_C G 3 [.ref 25, .int a0] (ev_hp I J R T) fun r h1 c1 k1 => G 162 39 [.ref 23, .int a0, .int a1] (r.toList ++ [.int a2]) h1 (cz + c1) (kz + k1) := by
  intro G
  rfl
set_option maxRecDepth 100000 in
theorem ca_r53 {a0 : Int32} {a1 : Int32} {a2 : Int32} {a3 : Int32} : ∀ G : ez_F, fx_up X 3 G 162 39 [.ref 23, .int a0, .int a1] [.int a2, .int a3] (ev_hp I J R T) cz kz = some (some (.int (a3 - a2)), (ev_hp I J R T), cz, kz) := by
  intro G
  rfl
set_option maxRecDepth 100000 in
theorem ca_r54 {a0 : Int32} {a1 : Int32} : ∀ G : ez_F, fx_up X 2 G 162 4 [.ref 23, .int a0, .int a1] [] (ev_hp I J R T) cz kz = G 162 8 [.ref 23, .int a0, .int a1] [.int (I 23 2)] (ev_hp I J R T) cz kz := by
  intro G
  rfl
set_option maxRecDepth 100000 in
theorem ca_r55 {a0 : Int32} {a1 : Int32} {a2 : Int32} : ∀ G : ez_F, fx_up X 4 G 162 8 [.ref 23, .int a0, .int a1] [.int a2] (ev_hp I J R T) cz kz = ev_C G 3 [.ref 24, .int a0] (ev_hp I J R T) fun r h1 c1 k1 => G 162 16 [.ref 23, .int a0, .int a1] (r.toList ++ [.int a2]) h1 (cz + c1) (kz + k1) := by
  intro G
  rfl
set_option maxRecDepth 100000 in
theorem ca_r56 {a0 : Int32} {a1 : Int32} {a2 : Int32} {a3 : Int32} : ∀ G : ez_F, fx_up X 2 G 162 16 [.ref 23, .int a0, .int a1] [.int a2, .int a3] (ev_hp I J R T) cz kz = some (some (.int (a3 - a2)), (ev_hp I J R T), cz, kz) := by
  intro G
  rfl
theorem ip3_0 {c v : Int32}
    (H : ((¬ v = (0 : Int32) → ((¬ v = (1 : Int32) → Q (some (.int (ev_at 36 (I 25) c))) (ev_hp I J R T)) ∧ (¬ (¬ v = (1 : Int32)) → Q (some (.int ((ev_at 36 (I 24) c) - (ev_at 36 (I 25) c)))) (ev_hp I J R T)))) ∧ (¬ (¬ v = (0 : Int32)) → Q (some (.int ((I 23 2) - (ev_at 36 (I 24) c)))) (ev_hp I J R T)))) : pw (N + 1) X 162 0 [.ref 23, .int c, .int v] [] (ev_hp I J R T) Q := by
  refine pw_if (by decide) (fun _ _ => ca_r47) (fun w1 => ?_) (fun w1 => ?_)
  · have h1 := H.1 w1
    refine pw_p (pw_if (by decide) (fun _ _ => ca_r48) (fun w2 => ?_) (fun w2 => ?_))
    · have h2 := h1.1 w2
      refine pw_p (pw_callp (by decide) (fun _ _ => ca_r49) (pe_at (show cx_Ds[25]? = some (0, 36, []) from rfl) (by decide)) ?_)
      exact pw_p (pw_ret (by decide) (fun _ _ => ca_r50) h2)
    · have h2 := h1.2 w2
      refine pw_p (pw_callp (by decide) (fun _ _ => ca_r51) (pe_at (show cx_Ds[24]? = some (0, 36, []) from rfl) (by decide)) ?_)
      refine pw_p (pw_callp (by decide) (fun _ _ => ca_r52) (pe_at (show cx_Ds[25]? = some (0, 36, []) from rfl) (by decide)) ?_)
      exact pw_p (pw_ret (by decide) (fun _ _ => ca_r53) h2)
  · have h1 := H.2 w1
    refine pw_p (pw_seg (by decide) (fun _ _ => ca_r54) ?_)
    refine pw_p (pw_callp (by decide) (fun _ _ => ca_r55) (pe_at (show cx_Ds[24]? = some (0, 36, []) from rfl) (by decide)) ?_)
    exact pw_p (pw_ret (by decide) (fun _ _ => ca_r56) h1)
end
section
variable {N : Nat} {X : ez_X} {I : Nat → Nat → Int32} {J : Nat → Nat → Int64} {R : Nat → Nat} {T : List ez_C} {x y : Int32}
theorem pe_shipsAt3 : pe N X 163 [.ref 23, .int x] (ev_hp I J R T) (fun r h => r = some (.int (ev_at 36 (I 24) x)) ∧ h = ev_hp I J R T) := pe_of (pw_p (sh3_0 ⟨rfl, rfl⟩))
theorem pe_inPart3 : pe N X 162 [.ref 23, .int x, .int y] (ev_hp I J R T) (fun r h => r = some (.int (ipF (I 23) (I 24) (I 25) x y)) ∧ h = ev_hp I J R T) := by
  unfold ipF
  refine pe_of (pw_p (ip3_0 ?_))
  refine ⟨fun g0 => ⟨fun g1 => ⟨?_, rfl⟩, fun g1 => ⟨?_, rfl⟩⟩, fun g0 => ⟨?_, rfl⟩⟩
  · rw [if_neg g0, if_neg g1]
  · rw [if_neg g0, if_pos (Classical.not_not.mp g1)]
  · rw [if_pos (Classical.not_not.mp g0)]
end
section
variable {N : Nat} {X : ez_X} {I : Nat → Nat → Int32} {J : Nat → Nat → Int64} {R : Nat → Nat} {T : List ez_C} {Q : pw_Q} {cz kz : Nat}
set_option maxRecDepth 100000 in
theorem cb9_r0 {a0 : Int32} : ∀ G : ez_F, fx_up X 4 G 161 0 [.ref 23, .int a0] [] (ev_hp I J R T) cz kz = ev_C G 162 [.ref 23, .int a0, .int (0 : Int32)] (ev_hp I J R T) fun r h1 c1 k1 => G 161 6 [.ref 23, .int a0] (r.toList ++ []) h1 (cz + c1) (kz + k1) := by
  intro G
  rfl
set_option maxRecDepth 100000 in
theorem cb9_r1 {a0 : Int32} {a1 : Int32} : ∀ G : ez_F, fx_up X 4 G 161 6 [.ref 23, .int a0] [.int a1] (ev_hp I J R T) cz kz = ev_C G 162 [.ref 23, .int a0, .int (1 : Int32)] (ev_hp I J R T) fun r h1 c1 k1 => G 161 12 [.ref 23, .int a0] (r.toList ++ [.int a1]) h1 (cz + c1) (kz + k1) := by
  intro G
  rfl
set_option maxRecDepth 100000 in
theorem cb9_r2 {a0 : Int32} {a1 : Int32} {a2 : Int32} : ∀ G : ez_F, fx_up X 4 G 161 12 [.ref 23, .int a0] [.int a1, .int a2] (ev_hp I J R T) cz kz = ev_C G 162 [.ref 23, .int a0, .int (2 : Int32)] (ev_hp I J R T) fun r h1 c1 k1 => G 161 18 [.ref 23, .int a0] (r.toList ++ [.int a1, .int a2]) h1 (cz + c1) (kz + k1) := by
  intro G
  rfl
set_option maxRecDepth 100000 in
theorem cb9_r3 {a0 : Int32} {a1 : Int32} {a2 : Int32} {a3 : Int32} : ∀ G : ez_F, fx_up X 3 G 161 18 [.ref 23, .int a0] [.int a1, .int a2, .int a3] (ev_hp I J R T) cz kz = some (some (.int (if a3 < (if a2 < a1 then a1 else a2) then (if a2 < a1 then a1 else a2) else a3)), (ev_hp I J R T), cz, kz) := by
  intro G
  rfl
theorem gt3_0 {c : Int32}
    (H : Q (some (.int (if (ipF (I 23) (I 24) (I 25) c (0 : Int32)) < (if (ipF (I 23) (I 24) (I 25) c (1 : Int32)) < (ipF (I 23) (I 24) (I 25) c (2 : Int32)) then (ipF (I 23) (I 24) (I 25) c (2 : Int32)) else (ipF (I 23) (I 24) (I 25) c (1 : Int32))) then (if (ipF (I 23) (I 24) (I 25) c (1 : Int32)) < (ipF (I 23) (I 24) (I 25) c (2 : Int32)) then (ipF (I 23) (I 24) (I 25) c (2 : Int32)) else (ipF (I 23) (I 24) (I 25) c (1 : Int32))) else (ipF (I 23) (I 24) (I 25) c (0 : Int32))))) (ev_hp I J R T)) : pw (N + 1) X 161 0 [.ref 23, .int c] [] (ev_hp I J R T) Q := by
  refine pw_callp (by decide) (fun _ _ => cb9_r0) (pe_inPart3) ?_
  refine pw_p (pw_callp (by decide) (fun _ _ => cb9_r1) (pe_inPart3) ?_)
  refine pw_p (pw_callp (by decide) (fun _ _ => cb9_r2) (pe_inPart3) ?_)
  exact pw_p (pw_ret (by decide) (fun _ _ => cb9_r3) H)
end
section
variable {N : Nat} {X : ez_X} {I : Nat → Nat → Int32} {J : Nat → Nat → Int64} {R : Nat → Nat} {T : List ez_C} {x : Int32}
theorem pe_greatest3 : pe N X 161 [.ref 23, .int x] (ev_hp I J R T) (fun r h => r = some (.int (gtF (I 23) (I 24) (I 25) x)) ∧ h = ev_hp I J R T) := pe_of (pw_p (gt3_0 ⟨rfl, rfl⟩))
end
section
variable {N : Nat} {X : ez_X} {I : Nat → Nat → Int32} {J : Nat → Nat → Int64} {R : Nat → Nat} {T : List ez_C} {Q : pw_Q} {cz kz : Nat}
set_option maxRecDepth 100000 in
theorem cc9_r0 {a0 : Int32} : ∀ G : ez_F, fx_up X 4 G 157 0 [.ref 23, .int a0] [] (ev_hp I J R T) cz kz = G 157 4 [.ref 23, .int a0, .int (0 : Int32), .int (1 : Int32)] [] (ev_hp I J R T) cz kz := by
  intro G
  rfl
theorem be3_0 {m : Int32}
    (H : pw N X 157 4 [.ref 23, .int m, .int (0 : Int32), .int (1 : Int32)] [] (ev_hp I J R T) Q) : pw (N + 1) X 157 0 [.ref 23, .int m] [] (ev_hp I J R T) Q := by
  refine pw_seg (by decide) (fun _ _ => cc9_r0) ?_
  exact H
set_option maxRecDepth 100000 in
theorem cc9_r1 {a0 : Int32} {a1 : Int32} {a2 : Int32} : ∀ G : ez_F, fx_up X 3 G 157 4 [.ref 23, .int a0, .int a1, .int a2] [] (ev_hp I J R T) cz kz = bif decide (a0 ≤ a2) then G 157 30 [.ref 23, .int a0, .int a1, .int a2] [] (ev_hp I J R T) cz kz else G 157 9 [.ref 23, .int a0, .int a1, .int a2] [] (ev_hp I J R T) cz kz := by
  intro G
  rfl
set_option maxRecDepth 100000 in
theorem cc9_r2 {a0 : Int32} {a1 : Int32} {a2 : Int32} : ∀ G : ez_F, fx_up X 2 G 157 30 [.ref 23, .int a0, .int a1, .int a2] [] (ev_hp I J R T) cz kz = some (some (.int a1), (ev_hp I J R T), cz, kz) := by
  intro G
  rfl
set_option maxRecDepth 100000 in
theorem cc9_r3 {a0 : Int32} {a1 : Int32} {a2 : Int32} : ∀ G : ez_F, fx_up X 3 G 157 9 [.ref 23, .int a0, .int a1, .int a2] [] (ev_hp I J R T) cz kz = ev_C G 161 [.ref 23, .int a2] (ev_hp I J R T) fun r h1 c1 k1 => G 157 14 [.ref 23, .int a0, .int a1, .int a2] (r.toList ++ []) h1 (cz + c1) (kz + k1) := by
  intro G
  rfl
set_option maxRecDepth 100000 in
theorem cc9_r4 {a0 : Int32} {a1 : Int32} {a2 : Int32} {a3 : Int32} : ∀ G : ez_F, fx_up X 3 G 157 14 [.ref 23, .int a0, .int a1, .int a2] [.int a3] (ev_hp I J R T) cz kz = ev_C G 161 [.ref 23, .int a1] (ev_hp I J R T) fun r h1 c1 k1 => G 157 19 [.ref 23, .int a0, .int a1, .int a2] (r.toList ++ [.int a3]) h1 (cz + c1) (kz + k1) := by
  intro G
  rfl
set_option maxRecDepth 100000 in
theorem cc9_r5 {a0 : Int32} {a1 : Int32} {a2 : Int32} {a3 : Int32} {a4 : Int32} : ∀ G : ez_F, fx_up X 1 G 157 19 [.ref 23, .int a0, .int a1, .int a2] [.int a3, .int a4] (ev_hp I J R T) cz kz = bif decide (a3 ≤ a4) then G 157 24 [.ref 23, .int a0, .int a1, .int a2] [] (ev_hp I J R T) cz kz else G 157 22 [.ref 23, .int a0, .int a1, .int a2] [] (ev_hp I J R T) cz kz := by
  intro G
  rfl
set_option maxRecDepth 100000 in
theorem cc9_r6 {a0 : Int32} {a1 : Int32} {a2 : Int32} : ∀ G : ez_F, fx_up X 2 G 157 24 [.ref 23, .int a0, .int a1, .int a2] [] (ev_hp I J R T) cz kz = G 157 4 [.ref 23, .int a0, .int a1, .int (a2 + (1 : Int32))] [] (ev_hp I J R T) cz kz := by
  intro G
  rfl
set_option maxRecDepth 100000 in
theorem cc9_r7 {a0 : Int32} {a1 : Int32} {a2 : Int32} : ∀ G : ez_F, fx_up X 4 G 157 22 [.ref 23, .int a0, .int a1, .int a2] [] (ev_hp I J R T) cz kz = G 157 4 [.ref 23, .int a0, .int a2, .int (a2 + (1 : Int32))] [] (ev_hp I J R T) cz kz := by
  intro G
  rfl
theorem be3_4 {m b c : Int32}
    (H : ((m ≤ c → Q (some (.int b)) (ev_hp I J R T)) ∧ (¬ (m ≤ c) → (((gtF (I 23) (I 24) (I 25) b) ≤ (gtF (I 23) (I 24) (I 25) c) → pw N X 157 4 [.ref 23, .int m, .int b, .int (c + (1 : Int32))] [] (ev_hp I J R T) Q) ∧ (¬ ((gtF (I 23) (I 24) (I 25) b) ≤ (gtF (I 23) (I 24) (I 25) c)) → pw N X 157 4 [.ref 23, .int m, .int c, .int (c + (1 : Int32))] [] (ev_hp I J R T) Q))))) : pw (N + 1) X 157 4 [.ref 23, .int m, .int b, .int c] [] (ev_hp I J R T) Q := by
  refine pw_if (by decide) (fun _ _ => cc9_r1) (fun w1 => ?_) (fun w1 => ?_)
  · have h1 := H.1 w1
    exact pw_p (pw_ret (by decide) (fun _ _ => cc9_r2) h1)
  · have h1 := H.2 w1
    refine pw_p (pw_callp (by decide) (fun _ _ => cc9_r3) (pe_greatest3) ?_)
    refine pw_p (pw_callp (by decide) (fun _ _ => cc9_r4) (pe_greatest3) ?_)
    refine pw_p (pw_if (by decide) (fun _ _ => cc9_r5) (fun w2 => ?_) (fun w2 => ?_))
    · have h2 := h1.1 w2
      refine pw_p (pw_seg (by decide) (fun _ _ => cc9_r6) ?_)
      exact h2
    · have h2 := h1.2 w2
      refine pw_p (pw_seg (by decide) (fun _ _ => cc9_r7) ?_)
      exact h2
set_option maxRecDepth 100000 in
theorem cc9_r8 {a0 : Int32} {a1 : Int32} {a2 : Int64} : ∀ G : ez_F, fx_up X 5 G 61 0 [.ref 22, .int a0, .int a1, .long a2, ez_fill] [] (ev_hp I J R T) cz kz = bif decide ((2 : Int32) ≤ (a1 - a0)) then G 61 9 [.ref 22, .int a0, .int a1, .long a2, ez_fill] [] (ev_hp I J R T) cz kz else G 61 7 [.ref 22, .int a0, .int a1, .long a2, ez_fill] [] (ev_hp I J R T) cz kz := by
  intro G
  rfl
set_option maxRecDepth 100000 in
theorem cc9_r9 {a0 : Int32} {a1 : Int32} {a2 : Int64} : ∀ G : ez_F, fx_up X 3 G 61 9 [.ref 22, .int a0, .int a1, .long a2, ez_fill] [] (ev_hp I J R T) cz kz = ev_C G 159 [.ref 23] (ev_hp I J R T) fun r h1 c1 k1 => G 61 16 [.ref 22, .int a0, .int a1, .long a2, ez_fill] (r.toList ++ []) h1 (cz + c1) (kz + k1) := by
  intro G
  rfl
set_option maxRecDepth 100000 in
theorem cc9_r10 {a0 : Int32} {a1 : Int32} {a2 : Int64} : ∀ G : ez_F, fx_up X 2 G 61 7 [.ref 22, .int a0, .int a1, .long a2, ez_fill] [] (ev_hp I J R T) cz kz = some (some (.int (-1 : Int32)), (ev_hp I J R T), cz, kz) := by
  intro G
  rfl
theorem co_0 {f e : Int32} {z : Int64}
    (H : (((2 : Int32) ≤ (e - f) → (∃ Q1 : pw_Q, pe N X 159 [.ref 23] (ev_hp I J R T) Q1 ∧ ∀ (r : Option Value) (h1 : ez_H), Q1 r h1 → pw N X 61 16 [.ref 22, .int f, .int e, .long z, ez_fill] (r.toList ++ []) h1 Q)) ∧ (¬ ((2 : Int32) ≤ (e - f)) → Q (some (.int (-1 : Int32))) (ev_hp I J R T)))) : pw (N + 1) X 61 0 [.ref 22, .int f, .int e, .long z, ez_fill] [] (ev_hp I J R T) Q := by
  refine pw_if (by decide) (fun _ _ => cc9_r8) (fun w1 => ?_) (fun w1 => ?_)
  · have h1 := H.1 w1
    obtain ⟨Q1, hc, hk⟩ := h1
    exact pw_p (pw_call (by decide) (fun _ _ => cc9_r9) hc hk)
  · have h1 := H.2 w1
    exact pw_p (pw_ret (by decide) (fun _ _ => cc9_r10) h1)
set_option maxRecDepth 100000 in
theorem cc9_r11 {a0 : Int32} {a1 : Int32} {a2 : Int64} : ∀ G : ez_F, fx_up X 2 G 61 16 [.ref 22, .int a0, .int a1, .long a2, ez_fill] [] (ev_hp I J R T) cz kz = G 61 19 [.ref 22, .int a0, .int a1, .long a2, ez_fill, .int a0] [] (ev_hp I J R T) cz kz := by
  intro G
  rfl
theorem co_16 {f e : Int32} {z : Int64}
    (H : pw N X 61 19 [.ref 22, .int f, .int e, .long z, ez_fill, .int f] [] (ev_hp I J R T) Q) : pw (N + 1) X 61 16 [.ref 22, .int f, .int e, .long z, ez_fill] [] (ev_hp I J R T) Q := by
  refine pw_seg (by decide) (fun _ _ => cc9_r11) ?_
  exact H
set_option maxRecDepth 100000 in
theorem cc9_r12 {a0 : Int32} {a1 : Int32} {a2 : Int64} {a3 : Int32} : ∀ G : ez_F, fx_up X 3 G 61 19 [.ref 22, .int a0, .int a1, .long a2, ez_fill, .int a3] [] (ev_hp I J R T) cz kz = bif decide (a1 ≤ a3) then G 61 65 [.ref 22, .int a0, .int a1, .long a2, ez_fill, .int a3] [] (ev_hp I J R T) cz kz else G 61 25 [.ref 22, .int a0, .int a1, .long a2, ez_fill, .int a3] [] (ev_hp I J R T) cz kz := by
  intro G
  rfl
set_option maxRecDepth 100000 in
theorem cc9_r13 {a0 : Int32} {a1 : Int32} {a2 : Int64} {a3 : Int32} : ∀ G : ez_F, fx_up X 5 G 61 65 [.ref 22, .int a0, .int a1, .long a2, ez_fill, .int a3] [] (ev_hp I J R T) cz kz = G 61 76 [.ref 22, .int a0, .int a1, .long a2, ez_fill, .int a3] [.int (I 1 6), .ref 23] (ev_hp I J R T) cz kz := by
  intro G
  rfl
set_option maxRecDepth 100000 in
theorem cc9_r14 {a0 : Int32} {a1 : Int32} {a2 : Int64} {a3 : Int32} {a4 : Int32} : ∀ G : ez_F, fx_up X 1 G 61 76 [.ref 22, .int a0, .int a1, .long a2, ez_fill, .int a3] [.int a4, .ref 23] (ev_hp I J R T) cz kz = ev_C G 157 [.ref 23, .int a4] (ev_hp I J R T) fun r h1 c1 k1 => G 61 79 [.ref 22, .int a0, .int a1, .long a2, ez_fill, .int a3] (r.toList ++ []) h1 (cz + c1) (kz + k1) := by
  intro G
  rfl
set_option maxRecDepth 100000 in
theorem cc9_r15 {a0 : Int32} {a1 : Int32} {a2 : Int64} {a3 : Int32} : ∀ G : ez_F, fx_up X 2 G 61 25 [.ref 22, .int a0, .int a1, .long a2, ez_fill, .int a3] [] (ev_hp I J R T) cz kz = G 61 29 [.ref 22, .int a0, .int a1, .long a2, ez_fill, .int a3] [.ref (R 4)] (ev_hp I J R T) cz kz := by
  intro G
  rfl
set_option maxRecDepth 100000 in
theorem cc9_r16 {a0 : Int32} {a1 : Int32} {a2 : Int64} {a3 : Int32} {a4 : Nat} : ∀ G : ez_F, fx_up X 2 G 61 29 [.ref 22, .int a0, .int a1, .long a2, ez_fill, .int a3] [.ref a4] (ev_hp I J R T) cz kz = ev_C G 3 [.ref a4, .int a3] (ev_hp I J R T) fun r h1 c1 k1 => G 61 34 [.ref 22, .int a0, .int a1, .long a2, ez_fill, .int a3] (r.toList ++ []) h1 (cz + c1) (kz + k1) := by
  intro G
  rfl
theorem co_19 {f e i : Int32} {z : Int64}
    (H : ((e ≤ i → (∃ Q1 : pw_Q, pe N X 157 [.ref 23, .int (I 1 6)] (ev_hp I J R T) Q1 ∧ ∀ (r : Option Value) (h1 : ez_H), Q1 r h1 → pw N X 61 79 [.ref 22, .int f, .int e, .long z, ez_fill, .int i] (r.toList ++ []) h1 Q)) ∧ (¬ (e ≤ i) → (∃ Q1 : pw_Q, pe N X 3 [.ref (R 4), .int i] (ev_hp I J R T) Q1 ∧ ∀ (r : Option Value) (h1 : ez_H), Q1 r h1 → pw N X 61 34 [.ref 22, .int f, .int e, .long z, ez_fill, .int i] (r.toList ++ []) h1 Q)))) : pw (N + 1) X 61 19 [.ref 22, .int f, .int e, .long z, ez_fill, .int i] [] (ev_hp I J R T) Q := by
  refine pw_if (by decide) (fun _ _ => cc9_r12) (fun w1 => ?_) (fun w1 => ?_)
  · have h1 := H.1 w1
    refine pw_p (pw_seg (by decide) (fun _ _ => cc9_r13) ?_)
    obtain ⟨Q1, hc, hk⟩ := h1
    exact pw_p (pw_call (by decide) (fun _ _ => cc9_r14) hc hk)
  · have h1 := H.2 w1
    refine pw_p (pw_seg (by decide) (fun _ _ => cc9_r15) ?_)
    obtain ⟨Q1, hc, hk⟩ := h1
    exact pw_p (pw_call (by decide) (fun _ _ => cc9_r16) hc hk)
set_option maxRecDepth 100000 in
theorem cc9_r17 {a0 : Int32} {a1 : Int32} {a2 : Int64} {a3 : Int32} {a4 : Int32} : ∀ G : ez_F, fx_up X 7 G 61 34 [.ref 22, .int a0, .int a1, .long a2, ez_fill, .int a3] [.int a4] (ev_hp I J R T) cz kz = ev_C G 137 [.ref 6, .int a4] (ev_hp I J R T) fun r h1 c1 k1 => G 61 49 [.ref 22, .int a0, .int a1, .long a2, ez_fill, .int a3, .int a4] (r.toList ++ [.ref 23]) h1 (cz + c1) (kz + k1) := by
  intro G
  rfl
theorem co_34 {f e i v : Int32} {z : Int64}
    (H : (∃ Q1 : pw_Q, pe N X 137 [.ref 6, .int v] (ev_hp I J R T) Q1 ∧ ∀ (r : Option Value) (h1 : ez_H), Q1 r h1 → pw N X 61 49 [.ref 22, .int f, .int e, .long z, ez_fill, .int i, .int v] (r.toList ++ [.ref 23]) h1 Q)) : pw (N + 1) X 61 34 [.ref 22, .int f, .int e, .long z, ez_fill, .int i] [.int v] (ev_hp I J R T) Q := by
  obtain ⟨Q1, hc, hk⟩ := H
  exact pw_call (by decide) (fun _ _ => cc9_r17) hc hk
set_option maxRecDepth 100000 in
theorem cc9_r18 {a0 : Int32} {a1 : Int32} {a2 : Int64} {a3 : Int32} {a4 : Int32} {a5 : Int64} : ∀ G : ez_F, fx_up X 4 G 61 49 [.ref 22, .int a0, .int a1, .long a2, ez_fill, .int a3, .int a4] [.long a5, .ref 23] (ev_hp I J R T) cz kz = ev_C G 68 [.ref 22, .int a4, .long a2] (ev_hp I J R T) fun r h1 c1 k1 => G 61 56 [.ref 22, .int a0, .int a1, .long a2, ez_fill, .int a3, .int a4] (r.toList ++ [.long a5, .ref 23]) h1 (cz + c1) (kz + k1) := by
  intro G
  rfl
theorem co_49 {f e i k : Int32} {z u : Int64}
    (H : (∃ Q1 : pw_Q, pe N X 68 [.ref 22, .int k, .long z] (ev_hp I J R T) Q1 ∧ ∀ (r : Option Value) (h1 : ez_H), Q1 r h1 → pw N X 61 56 [.ref 22, .int f, .int e, .long z, ez_fill, .int i, .int k] (r.toList ++ [.long u, .ref 23]) h1 Q)) : pw (N + 1) X 61 49 [.ref 22, .int f, .int e, .long z, ez_fill, .int i, .int k] [.long u, .ref 23] (ev_hp I J R T) Q := by
  obtain ⟨Q1, hc, hk⟩ := H
  exact pw_call (by decide) (fun _ _ => cc9_r18) hc hk
set_option maxRecDepth 100000 in
theorem cc9_r19 {a0 : Int32} {a1 : Int32} {a2 : Int64} {a3 : Int32} {a4 : Int32} {a5 : Int64} {a6 : Int64} : ∀ G : ez_F, fx_up X 1 G 61 56 [.ref 22, .int a0, .int a1, .long a2, ez_fill, .int a3, .int a4] [.long a5, .long a6, .ref 23] (ev_hp I J R T) cz kz = ev_C G 156 [.ref 23, .long a6, .long a5] (ev_hp I J R T) fun r h1 c1 k1 => G 61 59 [.ref 22, .int a0, .int a1, .long a2, ez_fill, .int a3, .int a4] (r.toList ++ []) h1 (cz + c1) (kz + k1) := by
  intro G
  rfl
theorem co_56 {f e i k : Int32} {z u v : Int64}
    (H : (∃ Q1 : pw_Q, pe N X 156 [.ref 23, .long u, .long v] (ev_hp I J R T) Q1 ∧ ∀ (r : Option Value) (h1 : ez_H), Q1 r h1 → pw N X 61 59 [.ref 22, .int f, .int e, .long z, ez_fill, .int i, .int k] (r.toList ++ []) h1 Q)) : pw (N + 1) X 61 56 [.ref 22, .int f, .int e, .long z, ez_fill, .int i, .int k] [.long v, .long u, .ref 23] (ev_hp I J R T) Q := by
  obtain ⟨Q1, hc, hk⟩ := H
  exact pw_call (by decide) (fun _ _ => cc9_r19) hc hk
set_option maxRecDepth 100000 in
theorem cc9_r20 {a0 : Int32} {a1 : Int32} {a2 : Int64} {a3 : Int32} {a4 : Int32} : ∀ G : ez_F, fx_up X 2 G 61 59 [.ref 22, .int a0, .int a1, .long a2, ez_fill, .int a3, .int a4] [] (ev_hp I J R T) cz kz = G 61 19 [.ref 22, .int a0, .int a1, .long a2, ez_fill, .int (a3 + (1 : Int32)), .int a4] [] (ev_hp I J R T) cz kz := by
  intro G
  rfl
theorem co_59 {f e i k : Int32} {z : Int64}
    (H : pw N X 61 19 [.ref 22, .int f, .int e, .long z, ez_fill, .int (i + (1 : Int32))] [] (ev_hp I J R T) Q) : pw (N + 1) X 61 59 [.ref 22, .int f, .int e, .long z, ez_fill, .int i, .int k] [] (ev_hp I J R T) Q := by
  refine pw_seg (by decide) (fun _ _ => cc9_r20) ?_
  refine pw_cutl (by rfl) ?_
  exact H
set_option maxRecDepth 100000 in
theorem cc9_r21 {a0 : Int32} {a1 : Int32} {a2 : Int64} {a3 : Int32} {a4 : Int32} : ∀ G : ez_F, fx_up X 5 G 61 79 [.ref 22, .int a0, .int a1, .long a2, ez_fill, .int a3] [.int a4] (ev_hp I J R T) cz kz = ev_C G 161 [.ref 23, .int a4] (ev_hp I J R T) fun r h1 c1 k1 => G 61 90 [.ref 22, .int a0, .int a1, .long a2, ez_fill, .int a4] (r.toList ++ []) h1 (cz + c1) (kz + k1) := by
  intro G
  rfl
set_option maxRecDepth 100000 in
theorem cc9_r22 {a0 : Int32} {a1 : Int32} {a2 : Int64} {a3 : Int32} {a4 : Int32} : ∀ G : ez_F, fx_up X 4 G 61 90 [.ref 22, .int a0, .int a1, .long a2, ez_fill, .int a3] [.int a4] (ev_hp I J R T) cz kz = bif decide ((a1 - a0) ≤ a4) then G 61 101 [.ref 22, .int a0, .int a1, .long a2, ez_fill, .int a3] [] (ev_hp I J R T) cz kz else G 61 96 [.ref 22, .int a0, .int a1, .long a2, ez_fill, .int a3] [] (ev_hp I J R T) cz kz := by
  intro G
  rfl
set_option maxRecDepth 100000 in
theorem cc9_r23 {a0 : Int32} {a1 : Int32} {a2 : Int64} {a3 : Int32} : ∀ G : ez_F, fx_up X 2 G 61 101 [.ref 22, .int a0, .int a1, .long a2, ez_fill, .int a3] [] (ev_hp I J R T) cz kz = some (some (.int (-1 : Int32)), (ev_hp I J R T), cz, kz) := by
  intro G
  rfl
set_option maxRecDepth 100000 in
theorem cc9_r24 {a0 : Int32} {a1 : Int32} {a2 : Int64} {a3 : Int32} : ∀ G : ez_F, fx_up X 3 G 61 96 [.ref 22, .int a0, .int a1, .long a2, ez_fill, .int a3] [] (ev_hp I J R T) cz kz = some (some (.int a3), (ev_hp I J R T), cz, kz) := by
  intro G
  rfl
theorem co_79 {f e i v : Int32} {z : Int64}
    (H : (((e - f) ≤ (gtF (I 23) (I 24) (I 25) v) → Q (some (.int (-1 : Int32))) (ev_hp I J R T)) ∧ (¬ ((e - f) ≤ (gtF (I 23) (I 24) (I 25) v)) → Q (some (.int v)) (ev_hp I J R T)))) : pw (N + 1) X 61 79 [.ref 22, .int f, .int e, .long z, ez_fill, .int i] [.int v] (ev_hp I J R T) Q := by
  refine pw_callp (by decide) (fun _ _ => cc9_r21) (pe_greatest3) ?_
  refine pw_p (pw_if (by decide) (fun _ _ => cc9_r22) (fun w1 => ?_) (fun w1 => ?_))
  · have h1 := H.1 w1
    exact pw_p (pw_ret (by decide) (fun _ _ => cc9_r23) h1)
  · have h1 := H.2 w1
    exact pw_p (pw_ret (by decide) (fun _ _ => cc9_r24) h1)
set_option maxRecDepth 100000 in
theorem cc9_r25 {a0 : Int32} {a1 : Int32} {a2 : Int32} {a3 : Int64} {a4 : Int32} : ∀ G : ez_F, fx_up X 4 G 63 0 [.ref 22, .int a0, .int a1, .int a2, .long a3, ez_fill, .int a4] [] (ev_hp I J R T) cz kz = G 63 6 [.ref 22, .int a0, .int a1, .int a2, .long a3, ez_fill, .int a4, .int a0, .int a0] [] (ev_hp I J R T) cz kz := by
  intro G
  rfl
theorem ga_0 {f e c a : Int32} {z : Int64}
    (H : pw N X 63 6 [.ref 22, .int f, .int e, .int c, .long z, ez_fill, .int a, .int f, .int f] [] (ev_hp I J R T) Q) : pw (N + 1) X 63 0 [.ref 22, .int f, .int e, .int c, .long z, ez_fill, .int a] [] (ev_hp I J R T) Q := by
  refine pw_seg (by decide) (fun _ _ => cc9_r25) ?_
  exact H
set_option maxRecDepth 100000 in
theorem cc9_r26 {a0 : Int32} {a1 : Int32} {a2 : Int32} {a3 : Int64} {a4 : Int32} {a5 : Int32} {a6 : Int32} : ∀ G : ez_F, fx_up X 3 G 63 6 [.ref 22, .int a0, .int a1, .int a2, .long a3, ez_fill, .int a4, .int a5, .int a6] [] (ev_hp I J R T) cz kz = bif decide (a1 ≤ a6) then G 63 53 [.ref 22, .int a0, .int a1, .int a2, .long a3, ez_fill, .int a4, .int a5, .int a6] [] (ev_hp I J R T) cz kz else G 63 12 [.ref 22, .int a0, .int a1, .int a2, .long a3, ez_fill, .int a4, .int a5, .int a6] [] (ev_hp I J R T) cz kz := by
  intro G
  rfl
set_option maxRecDepth 100000 in
theorem cc9_r27 {a0 : Int32} {a1 : Int32} {a2 : Int32} {a3 : Int64} {a4 : Int32} {a5 : Int32} {a6 : Int32} : ∀ G : ez_F, fx_up X 2 G 63 53 [.ref 22, .int a0, .int a1, .int a2, .long a3, ez_fill, .int a4, .int a5, .int a6] [] (ev_hp I J R T) cz kz = some (some (.int a5), (ev_hp I J R T), cz, kz) := by
  intro G
  rfl
set_option maxRecDepth 100000 in
theorem cc9_r28 {a0 : Int32} {a1 : Int32} {a2 : Int32} {a3 : Int64} {a4 : Int32} {a5 : Int32} {a6 : Int32} : ∀ G : ez_F, fx_up X 3 G 63 12 [.ref 22, .int a0, .int a1, .int a2, .long a3, ez_fill, .int a4, .int a5, .int a6] [] (ev_hp I J R T) cz kz = G 63 17 [.ref 22, .int a0, .int a1, .int a2, .long a3, ez_fill, .int a4, .int a5, .int a6] [.ref (R 4), .ref 22] (ev_hp I J R T) cz kz := by
  intro G
  rfl
set_option maxRecDepth 100000 in
theorem cc9_r29 {a0 : Int32} {a1 : Int32} {a2 : Int32} {a3 : Int64} {a4 : Int32} {a5 : Int32} {a6 : Int32} {a7 : Nat} : ∀ G : ez_F, fx_up X 2 G 63 17 [.ref 22, .int a0, .int a1, .int a2, .long a3, ez_fill, .int a4, .int a5, .int a6] [.ref a7, .ref 22] (ev_hp I J R T) cz kz = ev_C G 3 [.ref a7, .int a6] (ev_hp I J R T) fun r h1 c1 k1 => G 63 22 [.ref 22, .int a0, .int a1, .int a2, .long a3, ez_fill, .int a4, .int a5, .int a6] (r.toList ++ [.ref 22]) h1 (cz + c1) (kz + k1) := by
  intro G
  rfl
theorem ga_6 {f e c a t i : Int32} {z : Int64}
    (H : ((e ≤ i → Q (some (.int t)) (ev_hp I J R T)) ∧ (¬ (e ≤ i) → (∃ Q1 : pw_Q, pe N X 3 [.ref (R 4), .int i] (ev_hp I J R T) Q1 ∧ ∀ (r : Option Value) (h1 : ez_H), Q1 r h1 → pw N X 63 22 [.ref 22, .int f, .int e, .int c, .long z, ez_fill, .int a, .int t, .int i] (r.toList ++ [.ref 22]) h1 Q)))) : pw (N + 1) X 63 6 [.ref 22, .int f, .int e, .int c, .long z, ez_fill, .int a, .int t, .int i] [] (ev_hp I J R T) Q := by
  refine pw_if (by decide) (fun _ _ => cc9_r26) (fun w1 => ?_) (fun w1 => ?_)
  · have h1 := H.1 w1
    exact pw_p (pw_ret (by decide) (fun _ _ => cc9_r27) h1)
  · have h1 := H.2 w1
    refine pw_p (pw_seg (by decide) (fun _ _ => cc9_r28) ?_)
    obtain ⟨Q1, hc, hk⟩ := h1
    exact pw_p (pw_call (by decide) (fun _ _ => cc9_r29) hc hk)
set_option maxRecDepth 100000 in
theorem cc9_r30 {a0 : Int32} {a1 : Int32} {a2 : Int32} {a3 : Int64} {a4 : Int32} {a5 : Int32} {a6 : Int32} {a7 : Int32} : ∀ G : ez_F, fx_up X 3 G 63 22 [.ref 22, .int a0, .int a1, .int a2, .long a3, ez_fill, .int a4, .int a5, .int a6] [.int a7, .ref 22] (ev_hp I J R T) cz kz = ev_C G 58 [.ref 22, .int a7, .int a2, .long a3] (ev_hp I J R T) fun r h1 c1 k1 => G 63 28 [.ref 22, .int a0, .int a1, .int a2, .long a3, ez_fill, .int a4, .int a5, .int a6] (r.toList ++ []) h1 (cz + c1) (kz + k1) := by
  intro G
  rfl
theorem ga_22 {f e c a t i k : Int32} {z : Int64}
    (H : (∃ Q1 : pw_Q, pe N X 58 [.ref 22, .int k, .int c, .long z] (ev_hp I J R T) Q1 ∧ ∀ (r : Option Value) (h1 : ez_H), Q1 r h1 → pw N X 63 28 [.ref 22, .int f, .int e, .int c, .long z, ez_fill, .int a, .int t, .int i] (r.toList ++ []) h1 Q)) : pw (N + 1) X 63 22 [.ref 22, .int f, .int e, .int c, .long z, ez_fill, .int a, .int t, .int i] [.int k, .ref 22] (ev_hp I J R T) Q := by
  obtain ⟨Q1, hc, hk⟩ := H
  exact pw_call (by decide) (fun _ _ => cc9_r30) hc hk
set_option maxRecDepth 100000 in
theorem cc9_r31 {a0 : Int32} {a1 : Int32} {a2 : Int32} {a3 : Int64} {a4 : Int32} {a5 : Int32} {a6 : Int32} {a7 : Int32} : ∀ G : ez_F, fx_up X 2 G 63 28 [.ref 22, .int a0, .int a1, .int a2, .long a3, ez_fill, .int a4, .int a5, .int a6] [.int a7] (ev_hp I J R T) cz kz = bif decide (¬ a7 = a4) then G 63 47 [.ref 22, .int a0, .int a1, .int a2, .long a3, ez_fill, .int a4, .int a5, .int a6] [] (ev_hp I J R T) cz kz else G 63 33 [.ref 22, .int a0, .int a1, .int a2, .long a3, ez_fill, .int a4, .int a5, .int a6] [] (ev_hp I J R T) cz kz := by
  intro G
  rfl
set_option maxRecDepth 100000 in
theorem cc9_r32 {a0 : Int32} {a1 : Int32} {a2 : Int32} {a3 : Int64} {a4 : Int32} {a5 : Int32} {a6 : Int32} : ∀ G : ez_F, fx_up X 2 G 63 47 [.ref 22, .int a0, .int a1, .int a2, .long a3, ez_fill, .int a4, .int a5, .int a6] [] (ev_hp I J R T) cz kz = G 63 6 [.ref 22, .int a0, .int a1, .int a2, .long a3, ez_fill, .int a4, .int a5, .int (a6 + (1 : Int32))] [] (ev_hp I J R T) cz kz := by
  intro G
  rfl
set_option maxRecDepth 100000 in
theorem cc9_r33 {a0 : Int32} {a1 : Int32} {a2 : Int32} {a3 : Int64} {a4 : Int32} {a5 : Int32} {a6 : Int32} : ∀ G : ez_F, fx_up X 2 G 63 33 [.ref 22, .int a0, .int a1, .int a2, .long a3, ez_fill, .int a4, .int a5, .int a6] [] (ev_hp I J R T) cz kz = G 63 37 [.ref 22, .int a0, .int a1, .int a2, .long a3, ez_fill, .int a4, .int a5, .int a6] [.ref (R 4)] (ev_hp I J R T) cz kz := by
  intro G
  rfl
set_option maxRecDepth 100000 in
theorem cc9_r34 {a0 : Int32} {a1 : Int32} {a2 : Int32} {a3 : Int64} {a4 : Int32} {a5 : Int32} {a6 : Int32} {a7 : Nat} : ∀ G : ez_F, fx_up X 3 G 63 37 [.ref 22, .int a0, .int a1, .int a2, .long a3, ez_fill, .int a4, .int a5, .int a6] [.ref a7] (ev_hp I J R T) cz kz = ev_C G 49 [.ref a7, .int a6, .int a5] (ev_hp I J R T) fun r h1 c1 k1 => G 63 44 [.ref 22, .int a0, .int a1, .int a2, .long a3, ez_fill, .int a4, .int a5, .int a6] (r.toList ++ []) h1 (cz + c1) (kz + k1) := by
  intro G
  rfl
theorem ga_28 {f e c a t i v : Int32} {z : Int64}
    (H : ((¬ v = a → pw N X 63 6 [.ref 22, .int f, .int e, .int c, .long z, ez_fill, .int a, .int t, .int (i + (1 : Int32))] [] (ev_hp I J R T) Q) ∧ (¬ (¬ v = a) → (∃ Q1 : pw_Q, pe N X 49 [.ref (R 4), .int i, .int t] (ev_hp I J R T) Q1 ∧ ∀ (r : Option Value) (h1 : ez_H), Q1 r h1 → pw N X 63 44 [.ref 22, .int f, .int e, .int c, .long z, ez_fill, .int a, .int t, .int i] (r.toList ++ []) h1 Q)))) : pw (N + 1) X 63 28 [.ref 22, .int f, .int e, .int c, .long z, ez_fill, .int a, .int t, .int i] [.int v] (ev_hp I J R T) Q := by
  refine pw_if (by decide) (fun _ _ => cc9_r31) (fun w1 => ?_) (fun w1 => ?_)
  · have h1 := H.1 w1
    refine pw_p (pw_seg (by decide) (fun _ _ => cc9_r32) ?_)
    exact h1
  · have h1 := H.2 w1
    refine pw_p (pw_seg (by decide) (fun _ _ => cc9_r33) ?_)
    obtain ⟨Q1, hc, hk⟩ := h1
    exact pw_p (pw_call (by decide) (fun _ _ => cc9_r34) hc hk)
set_option maxRecDepth 100000 in
theorem cc9_r35 {a0 : Int32} {a1 : Int32} {a2 : Int32} {a3 : Int64} {a4 : Int32} {a5 : Int32} {a6 : Int32} : ∀ G : ez_F, fx_up X 3 G 63 44 [.ref 22, .int a0, .int a1, .int a2, .long a3, ez_fill, .int a4, .int a5, .int a6] [] (ev_hp I J R T) cz kz = G 63 6 [.ref 22, .int a0, .int a1, .int a2, .long a3, ez_fill, .int a4, .int (a5 + (1 : Int32)), .int (a6 + (1 : Int32))] [] (ev_hp I J R T) cz kz := by
  intro G
  rfl
theorem ga_44 {f e c a t i : Int32} {z : Int64}
    (H : pw N X 63 6 [.ref 22, .int f, .int e, .int c, .long z, ez_fill, .int a, .int (t + (1 : Int32)), .int (i + (1 : Int32))] [] (ev_hp I J R T) Q) : pw (N + 1) X 63 44 [.ref 22, .int f, .int e, .int c, .long z, ez_fill, .int a, .int t, .int i] [] (ev_hp I J R T) Q := by
  refine pw_seg (by decide) (fun _ _ => cc9_r35) ?_
  exact H
set_option maxRecDepth 100000 in
theorem cc9_r36 {a0 : Nat} {a1 : Int32} {a2 : Int32} : ∀ G : ez_F, fx_up X 3 G 49 0 [.ref a0, .int a1, .int a2] [] (ev_hp I J R T) cz kz = ev_C G 3 [.ref a0, .int a1] (ev_hp I J R T) fun r h1 c1 k1 => G 49 5 [.ref a0, .int a1, .int a2] (r.toList ++ []) h1 (cz + c1) (kz + k1) := by
  intro G
  rfl
theorem sp_0 {p : Nat} {i j : Int32}
    (H : (∃ Q1 : pw_Q, pe N X 3 [.ref (p), .int i] (ev_hp I J R T) Q1 ∧ ∀ (r : Option Value) (h1 : ez_H), Q1 r h1 → pw N X 49 5 [.ref (p), .int i, .int j] (r.toList ++ []) h1 Q)) : pw (N + 1) X 49 0 [.ref (p), .int i, .int j] [] (ev_hp I J R T) Q := by
  obtain ⟨Q1, hc, hk⟩ := H
  exact pw_call (by decide) (fun _ _ => cc9_r36) hc hk
set_option maxRecDepth 100000 in
theorem cc9_r37 {a0 : Nat} {a1 : Int32} {a2 : Int32} {a3 : Int32} : ∀ G : ez_F, fx_up X 6 G 49 5 [.ref a0, .int a1, .int a2] [.int a3] (ev_hp I J R T) cz kz = ev_C G 3 [.ref a0, .int a2] (ev_hp I J R T) fun r h1 c1 k1 => G 49 13 [.ref a0, .int a1, .int a2, .int a3] (r.toList ++ [.int a1, .ref a0]) h1 (cz + c1) (kz + k1) := by
  intro G
  rfl
theorem sp_5 {p : Nat} {i j v : Int32}
    (H : (∃ Q1 : pw_Q, pe N X 3 [.ref (p), .int j] (ev_hp I J R T) Q1 ∧ ∀ (r : Option Value) (h1 : ez_H), Q1 r h1 → pw N X 49 13 [.ref (p), .int i, .int j, .int v] (r.toList ++ [.int i, .ref (p)]) h1 Q)) : pw (N + 1) X 49 5 [.ref (p), .int i, .int j] [.int v] (ev_hp I J R T) Q := by
  obtain ⟨Q1, hc, hk⟩ := H
  exact pw_call (by decide) (fun _ _ => cc9_r37) hc hk
set_option maxRecDepth 100000 in
theorem cc9_r38 {a0 : Nat} {a1 : Int32} {a2 : Int32} {a3 : Int32} {a4 : Int32} {a5 : Int32} {a6 : Nat} : ∀ G : ez_F, fx_up X 1 G 49 13 [.ref a0, .int a1, .int a2, .int a3] [.int a4, .int a5, .ref a6] (ev_hp I J R T) cz kz = ev_C G 38 [.ref a6, .int a5, .int a4] (ev_hp I J R T) fun r h1 c1 k1 => G 49 16 [.ref a0, .int a1, .int a2, .int a3] (r.toList ++ []) h1 (cz + c1) (kz + k1) := by
  intro G
  rfl
theorem sp_13 {p : Nat} {i j v u : Int32}
    (H : (∃ Q1 : pw_Q, pe N X 38 [.ref (p), .int i, .int u] (ev_hp I J R T) Q1 ∧ ∀ (r : Option Value) (h1 : ez_H), Q1 r h1 → pw N X 49 16 [.ref (p), .int i, .int j, .int v] (r.toList ++ []) h1 Q)) : pw (N + 1) X 49 13 [.ref (p), .int i, .int j, .int v] [.int u, .int i, .ref (p)] (ev_hp I J R T) Q := by
  obtain ⟨Q1, hc, hk⟩ := H
  exact pw_call (by decide) (fun _ _ => cc9_r38) hc hk
set_option maxRecDepth 100000 in
theorem cc9_r39 {a0 : Nat} {a1 : Int32} {a2 : Int32} {a3 : Int32} : ∀ G : ez_F, fx_up X 4 G 49 16 [.ref a0, .int a1, .int a2, .int a3] [] (ev_hp I J R T) cz kz = ev_C G 38 [.ref a0, .int a2, .int a3] (ev_hp I J R T) fun r h1 c1 k1 => G 49 22 [.ref a0, .int a1, .int a2, .int a3] (r.toList ++ []) h1 (cz + c1) (kz + k1) := by
  intro G
  rfl
theorem sp_16 {p : Nat} {i j v : Int32}
    (H : (∃ Q1 : pw_Q, pe N X 38 [.ref (p), .int j, .int v] (ev_hp I J R T) Q1 ∧ ∀ (r : Option Value) (h1 : ez_H), Q1 r h1 → pw N X 49 22 [.ref (p), .int i, .int j, .int v] (r.toList ++ []) h1 Q)) : pw (N + 1) X 49 16 [.ref (p), .int i, .int j, .int v] [] (ev_hp I J R T) Q := by
  obtain ⟨Q1, hc, hk⟩ := H
  exact pw_call (by decide) (fun _ _ => cc9_r39) hc hk
set_option maxRecDepth 100000 in
theorem cc9_r40 {a0 : Nat} {a1 : Int32} {a2 : Int32} {a3 : Int32} : ∀ G : ez_F, fx_up X 1 G 49 22 [.ref a0, .int a1, .int a2, .int a3] [] (ev_hp I J R T) cz kz = some (none, (ev_hp I J R T), cz, kz) := by
  intro G
  rfl
theorem sp_22 {p : Nat} {i j v : Int32}
    (H : Q none (ev_hp I J R T)) : pw (N + 1) X 49 22 [.ref (p), .int i, .int j, .int v] [] (ev_hp I J R T) Q := by
  exact pw_ret (by decide) (fun _ _ => cc9_r40) H
set_option maxRecDepth 100000 in
theorem cc9_r41 {a0 : Int32} {a1 : Int32} : ∀ G : ez_F, fx_up X 3 G 59 0 [.ref 22, .int a0, .int a1] [] (ev_hp I J R T) cz kz = bif decide (a1 ≤ a0) then G 59 14 [.ref 22, .int a0, .int a1] [] (ev_hp I J R T) cz kz else G 59 5 [.ref 22, .int a0, .int a1] [] (ev_hp I J R T) cz kz := by
  intro G
  rfl
set_option maxRecDepth 100000 in
theorem cc9_r42 {a0 : Int32} {a1 : Int32} : ∀ G : ez_F, fx_up X 1 G 59 14 [.ref 22, .int a0, .int a1] [] (ev_hp I J R T) cz kz = some (none, (ev_hp I J R T), cz, kz) := by
  intro G
  rfl
set_option maxRecDepth 100000 in
theorem cc9_r43 {a0 : Int32} {a1 : Int32} : ∀ G : ez_F, fx_up X 5 G 59 5 [.ref 22, .int a0, .int a1] [] (ev_hp I J R T) cz kz = ev_C G 38 [.ref 27, .int a0, .int a1] (ev_hp I J R T) fun r h1 c1 k1 => G 59 14 [.ref 22, .int a0, .int a1] (r.toList ++ []) h1 (cz + c1) (kz + k1) := by
  intro G
  rfl
theorem bg_0 {f e : Int32}
    (H : ((e ≤ f → Q none (ev_hp I J R T)) ∧ (¬ (e ≤ f) → Q none (ev_hp (ev_sI I 27 (ev_put 400 (I 27) f e)) J R T)))) : pw (N + 1) X 59 0 [.ref 22, .int f, .int e] [] (ev_hp I J R T) Q := by
  refine pw_if (by decide) (fun _ _ => cc9_r41) (fun w1 => ?_) (fun w1 => ?_)
  · have h1 := H.1 w1
    exact pw_p (pw_ret (by decide) (fun _ _ => cc9_r42) h1)
  · have h1 := H.2 w1
    refine pw_p (pw_callp (by decide) (fun _ _ => cc9_r43) (pe_put (show cx_Ds[27]? = some (0, 400, []) from rfl) (by decide)) ?_)
    exact pw_p (pw_ret (by decide) (fun _ _ => cc9_r42) h1)
set_option maxRecDepth 100000 in
theorem cc9_r44 {a0 : Int32} {a1 : Int32} : ∀ G : ez_F, fx_up X 4 G 69 0 [.ref 22, .int a0, .int a1] [] (ev_hp I J R T) cz kz = G 69 8 [.ref 22, .int a0, .int a1] [.ref (R 4), .ref 29] (ev_hp I J R T) cz kz := by
  intro G
  rfl
set_option maxRecDepth 100000 in
theorem cc9_r45 {a0 : Int32} {a1 : Int32} {a2 : Nat} : ∀ G : ez_F, fx_up X 2 G 69 8 [.ref 22, .int a0, .int a1] [.ref a2, .ref 29] (ev_hp I J R T) cz kz = ev_C G 3 [.ref a2, .int a0] (ev_hp I J R T) fun r h1 c1 k1 => G 69 12 [.ref 22, .int a0, .int a1] (r.toList ++ [.ref 29]) h1 (cz + c1) (kz + k1) := by
  intro G
  rfl
theorem su9_0 {f e : Int32}
    (H : (∃ Q1 : pw_Q, pe N X 3 [.ref (R 4), .int f] (ev_hp I J R T) Q1 ∧ ∀ (r : Option Value) (h1 : ez_H), Q1 r h1 → pw N X 69 12 [.ref 22, .int f, .int e] (r.toList ++ [.ref 29]) h1 Q)) : pw (N + 1) X 69 0 [.ref 22, .int f, .int e] [] (ev_hp I J R T) Q := by
  refine pw_seg (by decide) (fun _ _ => cc9_r44) ?_
  obtain ⟨Q1, hc, hk⟩ := H
  exact pw_p (pw_call (by decide) (fun _ _ => cc9_r45) hc hk)
set_option maxRecDepth 100000 in
theorem cc9_r46 {a0 : Int32} {a1 : Int32} {a2 : Int32} : ∀ G : ez_F, fx_up X 1 G 69 12 [.ref 22, .int a0, .int a1] [.int a2, .ref 29] (ev_hp I J R T) cz kz = ev_C G 4 [.ref 29, .int a2] (ev_hp I J R T) fun r h1 c1 k1 => G 69 15 [.ref 22, .int a0, .int a1] (r.toList ++ []) h1 (cz + c1) (kz + k1) := by
  intro G
  rfl
set_option maxRecDepth 100000 in
theorem cc9_r47 {a0 : Int32} {a1 : Int32} {a2 : Int64} : ∀ G : ez_F, fx_up X 6 G 69 15 [.ref 22, .int a0, .int a1] [.long a2] (ev_hp I J R T) cz kz = ev_C G 61 [.ref 22, .int a0, .int a1, .long a2] (ev_hp I J R T) fun r h1 c1 k1 => G 69 23 [.ref 22, .int a0, .int a1, .long a2, ez_fill] (r.toList ++ []) h1 (cz + c1) (kz + k1) := by
  intro G
  rfl
theorem su9_12 {f e v : Int32}
    (H : (∃ Q1 : pw_Q, pe N X 61 [.ref 22, .int f, .int e, .long (ev_atJ 400 (J 29) v)] (ev_hp I J R T) Q1 ∧ ∀ (r : Option Value) (h1 : ez_H), Q1 r h1 → pw N X 69 23 [.ref 22, .int f, .int e, .long (ev_atJ 400 (J 29) v), ez_fill] (r.toList ++ []) h1 Q)) : pw (N + 1) X 69 12 [.ref 22, .int f, .int e] [.int v, .ref 29] (ev_hp I J R T) Q := by
  refine pw_callp (by decide) (fun _ _ => cc9_r46) (pe_atJ (show cx_Ds[29]? = some (1, 400, []) from rfl) (by decide)) ?_
  obtain ⟨Q1, hc, hk⟩ := H
  exact pw_p (pw_call (by decide) (fun _ _ => cc9_r47) hc hk)
set_option maxRecDepth 100000 in
theorem cc9_r48 {a0 : Int32} {a1 : Int32} {a2 : Int64} {a3 : Int32} : ∀ G : ez_F, fx_up X 4 G 69 23 [.ref 22, .int a0, .int a1, .long a2, ez_fill] [.int a3] (ev_hp I J R T) cz kz = bif decide (¬ a3 = (-1 : Int32)) then G 69 33 [.ref 22, .int a0, .int a1, .long a2, ez_fill, .int a3] [] (ev_hp I J R T) cz kz else G 69 31 [.ref 22, .int a0, .int a1, .long a2, ez_fill, .int a3] [] (ev_hp I J R T) cz kz := by
  intro G
  rfl
set_option maxRecDepth 100000 in
theorem cc9_r49 {a0 : Int32} {a1 : Int32} {a2 : Int64} {a3 : Int32} : ∀ G : ez_F, fx_up X 7 G 69 33 [.ref 22, .int a0, .int a1, .long a2, ez_fill, .int a3] [] (ev_hp I J R T) cz kz = ev_C G 63 [.ref 22, .int a0, .int a1, .int a3, .long a2, .int (0 : Int32)] (ev_hp I J R T) fun r h1 c1 k1 => G 69 43 [.ref 22, .int a0, .int a1, .long a2, ez_fill, .int a3] (r.toList ++ []) h1 (cz + c1) (kz + k1) := by
  intro G
  rfl
set_option maxRecDepth 100000 in
theorem cc9_r50 {a0 : Int32} {a1 : Int32} {a2 : Int64} {a3 : Int32} : ∀ G : ez_F, fx_up X 1 G 69 31 [.ref 22, .int a0, .int a1, .long a2, ez_fill, .int a3] [] (ev_hp I J R T) cz kz = G 69 32 [.ref 22, .int a0, .int a1, .long a2, ez_fill, .int a3] [.int (0 : Int32)] (ev_hp I J R T) cz kz := by
  intro G
  rfl
theorem su9_23 {f e v : Int32} {z : Int64}
    (H : ((¬ v = (-1 : Int32) → (∃ Q1 : pw_Q, pe N X 63 [.ref 22, .int f, .int e, .int v, .long z, .int (0 : Int32)] (ev_hp I J R T) Q1 ∧ ∀ (r : Option Value) (h1 : ez_H), Q1 r h1 → pw N X 69 43 [.ref 22, .int f, .int e, .long z, ez_fill, .int v] (r.toList ++ []) h1 Q)) ∧ (¬ (¬ v = (-1 : Int32)) → ((0 : Int32) = 0 ∨ (0 : Int32) = 1 → Q (some (.int (0 : Int32))) (ev_hp I J R T))))) : pw (N + 1) X 69 23 [.ref 22, .int f, .int e, .long z, ez_fill] [.int v] (ev_hp I J R T) Q := by
  refine pw_if (by decide) (fun _ _ => cc9_r48) (fun w1 => ?_) (fun w1 => ?_)
  · have h1 := H.1 w1
    obtain ⟨Q1, hc, hk⟩ := h1
    exact pw_p (pw_call (by decide) (fun _ _ => cc9_r49) hc hk)
  · have h1 := H.2 w1
    refine pw_p (pw_seg (by decide) (fun _ _ => cc9_r50) ?_)
    exact pw_p (pw_zret (by rfl) h1)
set_option maxRecDepth 100000 in
theorem cc9_r51 {a0 : Int32} {a1 : Int32} {a2 : Int64} {a3 : Int32} {a4 : Int32} : ∀ G : ez_F, fx_up X 8 G 69 43 [.ref 22, .int a0, .int a1, .long a2, ez_fill, .int a3] [.int a4] (ev_hp I J R T) cz kz = ev_C G 63 [.ref 22, .int a4, .int a1, .int a3, .long a2, .int (1 : Int32)] (ev_hp I J R T) fun r h1 c1 k1 => G 69 56 [.ref 22, .int a0, .int a1, .long a2, ez_fill, .int a3, .int a4] (r.toList ++ []) h1 (cz + c1) (kz + k1) := by
  intro G
  rfl
theorem su9_43 {f e c v : Int32} {z : Int64}
    (H : (∃ Q1 : pw_Q, pe N X 63 [.ref 22, .int v, .int e, .int c, .long z, .int (1 : Int32)] (ev_hp I J R T) Q1 ∧ ∀ (r : Option Value) (h1 : ez_H), Q1 r h1 → pw N X 69 56 [.ref 22, .int f, .int e, .long z, ez_fill, .int c, .int v] (r.toList ++ []) h1 Q)) : pw (N + 1) X 69 43 [.ref 22, .int f, .int e, .long z, ez_fill, .int c] [.int v] (ev_hp I J R T) Q := by
  obtain ⟨Q1, hc, hk⟩ := H
  exact pw_call (by decide) (fun _ _ => cc9_r51) hc hk
set_option maxRecDepth 100000 in
theorem cc9_r52 {a0 : Int32} {a1 : Int32} {a2 : Int64} {a3 : Int32} {a4 : Int32} {a5 : Int32} : ∀ G : ez_F, fx_up X 3 G 69 56 [.ref 22, .int a0, .int a1, .long a2, ez_fill, .int a3, .int a4] [.int a5] (ev_hp I J R T) cz kz = G 69 61 [.ref 22, .int a0, .int a1, .long a2, ez_fill, .int a3, .int a4, .int a5, .int a0] [] (ev_hp I J R T) cz kz := by
  intro G
  rfl
theorem su9_56 {f e c h v : Int32} {z : Int64}
    (H : pw N X 69 61 [.ref 22, .int f, .int e, .long z, ez_fill, .int c, .int h, .int v, .int f] [] (ev_hp I J R T) Q) : pw (N + 1) X 69 56 [.ref 22, .int f, .int e, .long z, ez_fill, .int c, .int h] [.int v] (ev_hp I J R T) Q := by
  refine pw_seg (by decide) (fun _ _ => cc9_r52) ?_
  exact H
set_option maxRecDepth 100000 in
theorem cc9_r53 {a0 : Int32} {a1 : Int32} {a2 : Int64} {a3 : Int32} {a4 : Int32} {a5 : Int32} {a6 : Int32} : ∀ G : ez_F, fx_up X 3 G 69 61 [.ref 22, .int a0, .int a1, .long a2, ez_fill, .int a3, .int a4, .int a5, .int a6] [] (ev_hp I J R T) cz kz = bif decide (a1 ≤ a6) then G 69 119 [.ref 22, .int a0, .int a1, .long a2, ez_fill, .int a3, .int a4, .int a5, .int a6] [] (ev_hp I J R T) cz kz else G 69 67 [.ref 22, .int a0, .int a1, .long a2, ez_fill, .int a3, .int a4, .int a5, .int a6] [] (ev_hp I J R T) cz kz := by
  intro G
  rfl
set_option maxRecDepth 100000 in
theorem cc9_r54 {a0 : Int32} {a1 : Int32} {a2 : Int64} {a3 : Int32} {a4 : Int32} {a5 : Int32} {a6 : Int32} : ∀ G : ez_F, fx_up X 4 G 69 119 [.ref 22, .int a0, .int a1, .long a2, ez_fill, .int a3, .int a4, .int a5, .int a6] [] (ev_hp I J R T) cz kz = ev_C G 59 [.ref 22, .int a0, .int a4] (ev_hp I J R T) fun r h1 c1 k1 => G 69 126 [.ref 22, .int a0, .int a1, .long a2, ez_fill, .int a3, .int a4, .int a5, .int a6] (r.toList ++ []) h1 (cz + c1) (kz + k1) := by
  intro G
  rfl
set_option maxRecDepth 100000 in
theorem cc9_r55 {a0 : Int32} {a1 : Int32} {a2 : Int64} {a3 : Int32} {a4 : Int32} {a5 : Int32} {a6 : Int32} : ∀ G : ez_F, fx_up X 2 G 69 67 [.ref 22, .int a0, .int a1, .long a2, ez_fill, .int a3, .int a4, .int a5, .int a6] [] (ev_hp I J R T) cz kz = G 69 71 [.ref 22, .int a0, .int a1, .long a2, ez_fill, .int a3, .int a4, .int a5, .int a6] [.ref (R 4)] (ev_hp I J R T) cz kz := by
  intro G
  rfl
set_option maxRecDepth 100000 in
theorem cc9_r56 {a0 : Int32} {a1 : Int32} {a2 : Int64} {a3 : Int32} {a4 : Int32} {a5 : Int32} {a6 : Int32} {a7 : Nat} : ∀ G : ez_F, fx_up X 2 G 69 71 [.ref 22, .int a0, .int a1, .long a2, ez_fill, .int a3, .int a4, .int a5, .int a6] [.ref a7] (ev_hp I J R T) cz kz = ev_C G 3 [.ref a7, .int a6] (ev_hp I J R T) fun r h1 c1 k1 => G 69 76 [.ref 22, .int a0, .int a1, .long a2, ez_fill, .int a3, .int a4, .int a5, .int a6] (r.toList ++ []) h1 (cz + c1) (kz + k1) := by
  intro G
  rfl
theorem su9_61 {f e c h s i : Int32} {z : Int64}
    (H : ((e ≤ i → (∃ Q1 : pw_Q, pe N X 59 [.ref 22, .int f, .int h] (ev_hp I J R T) Q1 ∧ ∀ (r : Option Value) (h1 : ez_H), Q1 r h1 → pw N X 69 126 [.ref 22, .int f, .int e, .long z, ez_fill, .int c, .int h, .int s, .int i] (r.toList ++ []) h1 Q)) ∧ (¬ (e ≤ i) → (∃ Q1 : pw_Q, pe N X 3 [.ref (R 4), .int i] (ev_hp I J R T) Q1 ∧ ∀ (r : Option Value) (h1 : ez_H), Q1 r h1 → pw N X 69 76 [.ref 22, .int f, .int e, .long z, ez_fill, .int c, .int h, .int s, .int i] (r.toList ++ []) h1 Q)))) : pw (N + 1) X 69 61 [.ref 22, .int f, .int e, .long z, ez_fill, .int c, .int h, .int s, .int i] [] (ev_hp I J R T) Q := by
  refine pw_if (by decide) (fun _ _ => cc9_r53) (fun w1 => ?_) (fun w1 => ?_)
  · have h1 := H.1 w1
    obtain ⟨Q1, hc, hk⟩ := h1
    exact pw_p (pw_call (by decide) (fun _ _ => cc9_r54) hc hk)
  · have h1 := H.2 w1
    refine pw_p (pw_seg (by decide) (fun _ _ => cc9_r55) ?_)
    obtain ⟨Q1, hc, hk⟩ := h1
    exact pw_p (pw_call (by decide) (fun _ _ => cc9_r56) hc hk)
set_option maxRecDepth 100000 in
theorem cc9_r57 {a0 : Int32} {a1 : Int32} {a2 : Int64} {a3 : Int32} {a4 : Int32} {a5 : Int32} {a6 : Int32} {a7 : Int32} : ∀ G : ez_F, fx_up X 8 G 69 76 [.ref 22, .int a0, .int a1, .long a2, ez_fill, .int a3, .int a4, .int a5, .int a6] [.int a7] (ev_hp I J R T) cz kz = ev_C G 3 [.ref 28, .int a7] (ev_hp I J R T) fun r h1 c1 k1 => G 69 93 [.ref 22, .int a0, .int a1, .long a2, ez_fill, .int a3, .int a4, .int a5, .int a6, .int a7] (r.toList ++ [.int a7, .ref 28]) h1 (cz + c1) (kz + k1) := by
  intro G
  rfl
set_option maxRecDepth 100000 in
theorem cc9_r58 {a0 : Int32} {a1 : Int32} {a2 : Int64} {a3 : Int32} {a4 : Int32} {a5 : Int32} {a6 : Int32} {a7 : Int32} {a8 : Int32} {a9 : Int32} : ∀ G : ez_F, fx_up X 3 G 69 93 [.ref 22, .int a0, .int a1, .long a2, ez_fill, .int a3, .int a4, .int a5, .int a6, .int a7] [.int a8, .int a9, .ref 28] (ev_hp I J R T) cz kz = ev_C G 38 [.ref 28, .int a9, .int (a8 + (1 : Int32))] (ev_hp I J R T) fun r h1 c1 k1 => G 69 98 [.ref 22, .int a0, .int a1, .long a2, ez_fill, .int a3, .int a4, .int a5, .int a6, .int a7] (r.toList ++ []) h1 (cz + c1) (kz + k1) := by
  intro G
  rfl
set_option maxRecDepth 100000 in
theorem cc9_r59 {a0 : Int32} {a1 : Int32} {a2 : Int64} {a3 : Int32} {a4 : Int32} {a5 : Int32} {a6 : Int32} {a7 : Int32} : ∀ G : ez_F, fx_up X 9 G 69 98 [.ref 22, .int a0, .int a1, .long a2, ez_fill, .int a3, .int a4, .int a5, .int a6, .int a7] [] (ev_hp I J R T) cz kz = ev_C G 39 [.ref 29, .int a7, .long (a2 ||| ((1 : Int64) <<< (a3.toInt64 &&& (63 : Int64))))] (ev_hp I J R T) fun r h1 c1 k1 => G 69 113 [.ref 22, .int a0, .int a1, .long a2, ez_fill, .int a3, .int a4, .int a5, .int a6, .int a7] (r.toList ++ []) h1 (cz + c1) (kz + k1) := by
  intro G
  rfl
set_option maxRecDepth 100000 in
theorem cc9_r60 {a0 : Int32} {a1 : Int32} {a2 : Int64} {a3 : Int32} {a4 : Int32} {a5 : Int32} {a6 : Int32} {a7 : Int32} : ∀ G : ez_F, fx_up X 2 G 69 113 [.ref 22, .int a0, .int a1, .long a2, ez_fill, .int a3, .int a4, .int a5, .int a6, .int a7] [] (ev_hp I J R T) cz kz = G 69 61 [.ref 22, .int a0, .int a1, .long a2, ez_fill, .int a3, .int a4, .int a5, .int (a6 + (1 : Int32)), .int a7] [] (ev_hp I J R T) cz kz := by
  intro G
  rfl
theorem su9_76 {f e c h s i k : Int32} {z : Int64}
    (H : pw N X 69 61 [.ref 22, .int f, .int e, .long z, ez_fill, .int c, .int h, .int s, .int (i + (1 : Int32))] [] (ev_hp (ev_sI I 28 (ev_put 400 (I 28) k ((ev_at 400 (I 28) k) + (1 : Int32)))) (ev_sJ J 29 (ev_putJ 400 (J 29) k (z ||| ((1 : Int64) <<< (c.toInt64 &&& (63 : Int64)))))) R T) Q) : pw (N + 1) X 69 76 [.ref 22, .int f, .int e, .long z, ez_fill, .int c, .int h, .int s, .int i] [.int k] (ev_hp I J R T) Q := by
  refine pw_callp (by decide) (fun _ _ => cc9_r57) (pe_at (show cx_Ds[28]? = some (0, 400, []) from rfl) (by decide)) ?_
  refine pw_p (pw_callp (by decide) (fun _ _ => cc9_r58) (pe_put (show cx_Ds[28]? = some (0, 400, []) from rfl) (by decide)) ?_)
  refine pw_p (pw_callp (by decide) (fun _ _ => cc9_r59) (pe_putJ (show cx_Ds[29]? = some (1, 400, []) from rfl) (by decide)) ?_)
  refine pw_p (pw_seg (by decide) (fun _ _ => cc9_r60) ?_)
  refine pw_cutl (by rfl) ?_
  exact H
set_option maxRecDepth 100000 in
theorem cc9_r61 {a0 : Int32} {a1 : Int32} {a2 : Int64} {a3 : Int32} {a4 : Int32} {a5 : Int32} {a6 : Int32} : ∀ G : ez_F, fx_up X 4 G 69 126 [.ref 22, .int a0, .int a1, .long a2, ez_fill, .int a3, .int a4, .int a5, .int a6] [] (ev_hp I J R T) cz kz = ev_C G 59 [.ref 22, .int a4, .int a5] (ev_hp I J R T) fun r h1 c1 k1 => G 69 134 [.ref 22, .int a0, .int a1, .long a2, ez_fill, .int a3, .int a4, .int a5, .int a6] (r.toList ++ []) h1 (cz + c1) (kz + k1) := by
  intro G
  rfl
theorem su9_126 {f e c h s i : Int32} {z : Int64}
    (H : (∃ Q1 : pw_Q, pe N X 59 [.ref 22, .int h, .int s] (ev_hp I J R T) Q1 ∧ ∀ (r : Option Value) (h1 : ez_H), Q1 r h1 → pw N X 69 134 [.ref 22, .int f, .int e, .long z, ez_fill, .int c, .int h, .int s, .int i] (r.toList ++ []) h1 Q)) : pw (N + 1) X 69 126 [.ref 22, .int f, .int e, .long z, ez_fill, .int c, .int h, .int s, .int i] [] (ev_hp I J R T) Q := by
  obtain ⟨Q1, hc, hk⟩ := H
  exact pw_call (by decide) (fun _ _ => cc9_r61) hc hk
set_option maxRecDepth 100000 in
theorem cc9_r62 {a0 : Int32} {a1 : Int32} {a2 : Int64} {a3 : Int32} {a4 : Int32} {a5 : Int32} {a6 : Int32} : ∀ G : ez_F, fx_up X 4 G 69 134 [.ref 22, .int a0, .int a1, .long a2, ez_fill, .int a3, .int a4, .int a5, .int a6] [] (ev_hp I J R T) cz kz = ev_C G 59 [.ref 22, .int a5, .int a1] (ev_hp I J R T) fun r h1 c1 k1 => G 69 141 [.ref 22, .int a0, .int a1, .long a2, ez_fill, .int a3, .int a4, .int a5, .int a6] (r.toList ++ []) h1 (cz + c1) (kz + k1) := by
  intro G
  rfl
theorem su9_134 {f e c h s i : Int32} {z : Int64}
    (H : (∃ Q1 : pw_Q, pe N X 59 [.ref 22, .int s, .int e] (ev_hp I J R T) Q1 ∧ ∀ (r : Option Value) (h1 : ez_H), Q1 r h1 → pw N X 69 141 [.ref 22, .int f, .int e, .long z, ez_fill, .int c, .int h, .int s, .int i] (r.toList ++ []) h1 Q)) : pw (N + 1) X 69 134 [.ref 22, .int f, .int e, .long z, ez_fill, .int c, .int h, .int s, .int i] [] (ev_hp I J R T) Q := by
  obtain ⟨Q1, hc, hk⟩ := H
  exact pw_call (by decide) (fun _ _ => cc9_r62) hc hk
set_option maxRecDepth 100000 in
theorem cc9_r63 {a0 : Int32} {a1 : Int32} {a2 : Int64} {a3 : Int32} {a4 : Int32} {a5 : Int32} {a6 : Int32} : ∀ G : ez_F, fx_up X 1 G 69 141 [.ref 22, .int a0, .int a1, .long a2, ez_fill, .int a3, .int a4, .int a5, .int a6] [] (ev_hp I J R T) cz kz = G 69 142 [.ref 22, .int a0, .int a1, .long a2, ez_fill, .int a3, .int a4, .int a5, .int a6] [.int (1 : Int32)] (ev_hp I J R T) cz kz := by
  intro G
  rfl
theorem su9_141 {f e c h s i : Int32} {z : Int64}
    (H : ((1 : Int32) = 0 ∨ (1 : Int32) = 1 → Q (some (.int (1 : Int32))) (ev_hp I J R T))) : pw (N + 1) X 69 141 [.ref 22, .int f, .int e, .long z, ez_fill, .int c, .int h, .int s, .int i] [] (ev_hp I J R T) Q := by
  refine pw_seg (by decide) (fun _ _ => cc9_r63) ?_
  exact pw_p (pw_zret (by rfl) H)
set_option maxRecDepth 100000 in
theorem cc9_r64  : ∀ G : ez_F, fx_up X 3 G 66 0 [.ref 22] [] (ev_hp I J R T) cz kz = G 66 7 [.ref 22] [.int (I 6 3)] (ev_hp I J R T) cz kz := by
  intro G
  rfl
set_option maxRecDepth 100000 in
theorem cc9_r65 {a0 : Int32} : ∀ G : ez_F, fx_up X 4 G 66 7 [.ref 22] [.int a0] (ev_hp I J R T) cz kz = G 66 13 [.ref 22, .int a0] [.ref (R 4), .int a0] (ev_hp I J R T) cz kz := by
  intro G
  rfl
theorem io9_0 
    (H : pw N X 66 13 [.ref 22, .int (I 6 3)] [.ref (R 4), .int (I 6 3)] (ev_hp I J R T) Q) : pw (N + 1) X 66 0 [.ref 22] [] (ev_hp I J R T) Q := by
  refine pw_seg (by decide) (fun _ _ => cc9_r64) ?_
  refine pw_p (pw_seg (by decide) (fun _ _ => cc9_r65) ?_)
  exact H
set_option maxRecDepth 100000 in
theorem cc9_r66 {a0 : Int32} {a1 : Int32} {a2 : Int32} : ∀ G : ez_F, fx_up X 1 G 66 14 [.ref 22, .int a0] [.int a1, .int a2] (ev_hp I J R T) cz kz = bif decide (a2 ≤ a1) then G 66 32 [.ref 22, .int a0] [] (ev_hp I J R T) cz kz else G 66 17 [.ref 22, .int a0] [] (ev_hp I J R T) cz kz := by
  intro G
  rfl
set_option maxRecDepth 100000 in
theorem cc9_r67 {a0 : Int32} : ∀ G : ez_F, fx_up X 3 G 66 17 [.ref 22, .int a0] [] (ev_hp I J R T) cz kz = G 66 22 [.ref 22, .int a0] [.ref (R 4), .ref 22] (ev_hp I J R T) cz kz := by
  intro G
  rfl
theorem io9_14 {n v : Int32}
    (H : ((n ≤ v → pw N X 66 32 [.ref 22, .int n] [] (ev_hp I J R T) Q) ∧ (¬ (n ≤ v) → pw N X 66 22 [.ref 22, .int n] [.ref (R 4), .ref 22] (ev_hp I J R T) Q))) : pw (N + 1) X 66 14 [.ref 22, .int n] [.int v, .int n] (ev_hp I J R T) Q := by
  refine pw_if (by decide) (fun _ _ => cc9_r66) (fun w1 => ?_) (fun w1 => ?_)
  · have h1 := H.1 w1
    exact h1
  · have h1 := H.2 w1
    refine pw_p (pw_seg (by decide) (fun _ _ => cc9_r67) ?_)
    exact h1
set_option maxRecDepth 100000 in
theorem cc9_r68 {a0 : Int32} {a1 : Int32} : ∀ G : ez_F, fx_up X 2 G 66 23 [.ref 22, .int a0] [.int a1, .ref 22] (ev_hp I J R T) cz kz = ev_C G 19 [.int a1, .int a0] (ev_hp I J R T) fun r h1 c1 k1 => G 66 27 [.ref 22, .int a0] (r.toList ++ [.ref 22]) h1 (cz + c1) (kz + k1) := by
  intro G
  rfl
theorem io9_23 {n v : Int32}
    (H : (∃ Q1 : pw_Q, pe N X 19 [.int v, .int n] (ev_hp I J R T) Q1 ∧ ∀ (r : Option Value) (h1 : ez_H), Q1 r h1 → pw N X 66 27 [.ref 22, .int n] (r.toList ++ [.ref 22]) h1 Q)) : pw (N + 1) X 66 23 [.ref 22, .int n] [.int v, .ref 22] (ev_hp I J R T) Q := by
  obtain ⟨Q1, hc, hk⟩ := H
  exact pw_call (by decide) (fun _ _ => cc9_r68) hc hk
set_option maxRecDepth 100000 in
theorem cc9_r69 {a0 : Int32} {a1 : Nat} : ∀ G : ez_F, fx_up X 1 G 66 29 [.ref 22, .int a0] [.ref a1, .ref 22] (ev_hp I J R T) cz kz = G 66 32 [.ref 22, .int a0] [] (ev_hp I J (ev_sR R 4 a1) T) cz kz := by
  intro G
  rfl
set_option maxRecDepth 100000 in
theorem cc9_r70 {a0 : Int32} : ∀ G : ez_F, fx_up X 2 G 66 32 [.ref 22, .int a0] [] (ev_hp I J R T) cz kz = G 66 34 [.ref 22, .int a0, .int (0 : Int32)] [] (ev_hp I J R T) cz kz := by
  intro G
  rfl
theorem io9_29 {n : Int32} {p : Nat}
    (H : pw N X 66 34 [.ref 22, .int n, .int (0 : Int32)] [] (ev_hp I J (ev_sR R 4 (p)) T) Q) : pw (N + 1) X 66 29 [.ref 22, .int n] [.ref (p), .ref 22] (ev_hp I J R T) Q := by
  refine pw_seg (by decide) (fun _ _ => cc9_r69) ?_
  refine pw_p (pw_seg (by decide) (fun _ _ => cc9_r70) ?_)
  exact H
theorem io9_32 {n : Int32}
    (H : pw N X 66 34 [.ref 22, .int n, .int (0 : Int32)] [] (ev_hp I J R T) Q) : pw (N + 1) X 66 32 [.ref 22, .int n] [] (ev_hp I J R T) Q := by
  refine pw_seg (by decide) (fun _ _ => cc9_r70) ?_
  exact H
set_option maxRecDepth 100000 in
theorem cc9_r71 {a0 : Int32} {a1 : Int32} : ∀ G : ez_F, fx_up X 3 G 66 34 [.ref 22, .int a0, .int a1] [] (ev_hp I J R T) cz kz = bif decide (a0 ≤ a1) then G 66 54 [.ref 22, .int a0, .int a1] [] (ev_hp I J R T) cz kz else G 66 39 [.ref 22, .int a0, .int a1] [] (ev_hp I J R T) cz kz := by
  intro G
  rfl
set_option maxRecDepth 100000 in
theorem cc9_r72 {a0 : Int32} {a1 : Int32} : ∀ G : ez_F, fx_up X 1 G 66 54 [.ref 22, .int a0, .int a1] [] (ev_hp I J R T) cz kz = some (none, (ev_hp I J R T), cz, kz) := by
  intro G
  rfl
set_option maxRecDepth 100000 in
theorem cc9_r73 {a0 : Int32} {a1 : Int32} : ∀ G : ez_F, fx_up X 2 G 66 39 [.ref 22, .int a0, .int a1] [] (ev_hp I J R T) cz kz = G 66 43 [.ref 22, .int a0, .int a1] [.ref (R 4)] (ev_hp I J R T) cz kz := by
  intro G
  rfl
set_option maxRecDepth 100000 in
theorem cc9_r74 {a0 : Int32} {a1 : Int32} {a2 : Nat} : ∀ G : ez_F, fx_up X 3 G 66 43 [.ref 22, .int a0, .int a1] [.ref a2] (ev_hp I J R T) cz kz = ev_C G 38 [.ref a2, .int a1, .int a1] (ev_hp I J R T) fun r h1 c1 k1 => G 66 48 [.ref 22, .int a0, .int a1] (r.toList ++ []) h1 (cz + c1) (kz + k1) := by
  intro G
  rfl
theorem io9_34 {n k : Int32}
    (H : ((n ≤ k → Q none (ev_hp I J R T)) ∧ (¬ (n ≤ k) → (∃ Q1 : pw_Q, pe N X 38 [.ref (R 4), .int k, .int k] (ev_hp I J R T) Q1 ∧ ∀ (r : Option Value) (h1 : ez_H), Q1 r h1 → pw N X 66 48 [.ref 22, .int n, .int k] (r.toList ++ []) h1 Q)))) : pw (N + 1) X 66 34 [.ref 22, .int n, .int k] [] (ev_hp I J R T) Q := by
  refine pw_if (by decide) (fun _ _ => cc9_r71) (fun w1 => ?_) (fun w1 => ?_)
  · have h1 := H.1 w1
    exact pw_p (pw_ret (by decide) (fun _ _ => cc9_r72) h1)
  · have h1 := H.2 w1
    refine pw_p (pw_seg (by decide) (fun _ _ => cc9_r73) ?_)
    obtain ⟨Q1, hc, hk⟩ := h1
    exact pw_p (pw_call (by decide) (fun _ _ => cc9_r74) hc hk)
set_option maxRecDepth 100000 in
theorem cc9_r75 {a0 : Int32} {a1 : Int32} : ∀ G : ez_F, fx_up X 2 G 66 48 [.ref 22, .int a0, .int a1] [] (ev_hp I J R T) cz kz = G 66 34 [.ref 22, .int a0, .int (a1 + (1 : Int32))] [] (ev_hp I J R T) cz kz := by
  intro G
  rfl
theorem io9_48 {n k : Int32}
    (H : pw N X 66 34 [.ref 22, .int n, .int (k + (1 : Int32))] [] (ev_hp I J R T) Q) : pw (N + 1) X 66 48 [.ref 22, .int n, .int k] [] (ev_hp I J R T) Q := by
  refine pw_seg (by decide) (fun _ _ => cc9_r75) ?_
  exact H
set_option maxRecDepth 100000 in
theorem cc9_r76  : ∀ G : ez_F, fx_up X 3 G 67 0 [.ref 22] [] (ev_hp I J R T) cz kz = G 67 7 [.ref 22] [.int (I 6 3)] (ev_hp I J R T) cz kz := by
  intro G
  rfl
set_option maxRecDepth 100000 in
theorem cc9_r77 {a0 : Int32} : ∀ G : ez_F, fx_up X 3 G 67 7 [.ref 22] [.int a0] (ev_hp I J R T) cz kz = G 67 12 [.ref 22, .int a0] [.int (I 22 8)] (ev_hp I J R T) cz kz := by
  intro G
  rfl
set_option maxRecDepth 100000 in
theorem cc9_r78 {a0 : Int32} {a1 : Int32} : ∀ G : ez_F, fx_up X 1 G 67 12 [.ref 22, .int a0] [.int a1] (ev_hp I J R T) cz kz = bif decide (¬ a1 = (0 : Int32)) then G 67 22 [.ref 22, .int a0] [] (ev_hp I J R T) cz kz else G 67 15 [.ref 22, .int a0] [] (ev_hp I J R T) cz kz := by
  intro G
  rfl
set_option maxRecDepth 100000 in
theorem cc9_r79 {a0 : Int32} : ∀ G : ez_F, fx_up X 1 G 67 22 [.ref 22, .int a0] [] (ev_hp I J R T) cz kz = some (none, (ev_hp I J R T), cz, kz) := by
  intro G
  rfl
set_option maxRecDepth 100000 in
theorem cc9_r80 {a0 : Int32} : ∀ G : ez_F, fx_up X 3 G 67 15 [.ref 22, .int a0] [] (ev_hp I J R T) cz kz = bif decide (a0 ≤ (400 : Int32)) then G 67 23 [.ref 22, .int a0] [] (ev_hp I J R T) cz kz else G 67 22 [.ref 22, .int a0] [] (ev_hp I J R T) cz kz := by
  intro G
  rfl
set_option maxRecDepth 100000 in
theorem cc9_r81 {a0 : Int32} : ∀ G : ez_F, fx_up X 2 G 67 23 [.ref 22, .int a0] [] (ev_hp I J R T) cz kz = ev_C G 66 [.ref 22] (ev_hp I J R T) fun r h1 c1 k1 => G 67 27 [.ref 22, .int a0] (r.toList ++ []) h1 (cz + c1) (kz + k1) := by
  intro G
  rfl
theorem sn_0 
    (H : ((¬ (I 22 8) = (0 : Int32) → Q none (ev_hp I J R T)) ∧ (¬ (¬ (I 22 8) = (0 : Int32)) → (((I 6 3) ≤ (400 : Int32) → (∃ Q1 : pw_Q, pe N X 66 [.ref 22] (ev_hp I J R T) Q1 ∧ ∀ (r : Option Value) (h1 : ez_H), Q1 r h1 → pw N X 67 27 [.ref 22, .int (I 6 3)] (r.toList ++ []) h1 Q)) ∧ (¬ ((I 6 3) ≤ (400 : Int32)) → Q none (ev_hp I J R T)))))) : pw (N + 1) X 67 0 [.ref 22] [] (ev_hp I J R T) Q := by
  refine pw_seg (by decide) (fun _ _ => cc9_r76) ?_
  refine pw_p (pw_seg (by decide) (fun _ _ => cc9_r77) ?_)
  refine pw_p (pw_if (by decide) (fun _ _ => cc9_r78) (fun w1 => ?_) (fun w1 => ?_))
  · have h1 := H.1 w1
    exact pw_p (pw_ret (by decide) (fun _ _ => cc9_r79) h1)
  · have h1 := H.2 w1
    refine pw_p (pw_if (by decide) (fun _ _ => cc9_r80) (fun w2 => ?_) (fun w2 => ?_))
    · have h2 := h1.1 w2
      obtain ⟨Q1, hc, hk⟩ := h2
      exact pw_p (pw_call (by decide) (fun _ _ => cc9_r81) hc hk)
    · have h2 := h1.2 w2
      exact pw_p (pw_ret (by decide) (fun _ _ => cc9_r79) h2)
set_option maxRecDepth 100000 in
theorem cc9_r82 {a0 : Int32} : ∀ G : ez_F, fx_up X 2 G 67 27 [.ref 22, .int a0] [] (ev_hp I J R T) cz kz = G 67 29 [.ref 22, .int a0, .int (0 : Int32)] [] (ev_hp I J R T) cz kz := by
  intro G
  rfl
theorem sn_27 {n : Int32}
    (H : pw N X 67 29 [.ref 22, .int n, .int (0 : Int32)] [] (ev_hp I J R T) Q) : pw (N + 1) X 67 27 [.ref 22, .int n] [] (ev_hp I J R T) Q := by
  refine pw_seg (by decide) (fun _ _ => cc9_r82) ?_
  exact H
set_option maxRecDepth 100000 in
theorem cc9_r83 {a0 : Int32} {a1 : Int32} : ∀ G : ez_F, fx_up X 3 G 67 29 [.ref 22, .int a0, .int a1] [] (ev_hp I J R T) cz kz = bif decide (a0 ≤ a1) then G 67 58 [.ref 22, .int a0, .int a1] [] (ev_hp I J R T) cz kz else G 67 34 [.ref 22, .int a0, .int a1] [] (ev_hp I J R T) cz kz := by
  intro G
  rfl
set_option maxRecDepth 100000 in
theorem cc9_r84 {a0 : Int32} {a1 : Int32} : ∀ G : ez_F, fx_up X 5 G 67 58 [.ref 22, .int a0, .int a1] [] (ev_hp I J R T) cz kz = ev_C G 38 [.ref 27, .int (0 : Int32), .int a0] (ev_hp I J R T) fun r h1 c1 k1 => G 67 67 [.ref 22, .int a0, .int a1] (r.toList ++ []) h1 (cz + c1) (kz + k1) := by
  intro G
  rfl
set_option maxRecDepth 100000 in
theorem cc9_r85 {a0 : Int32} {a1 : Int32} : ∀ G : ez_F, fx_up X 4 G 67 67 [.ref 22, .int a0, .int a1] [] (ev_hp I J R T) cz kz = G 67 71 [.ref 22, .int a0, .int (0 : Int32), .int (0 : Int32)] [] (ev_hp I J R T) cz kz := by
  intro G
  rfl
set_option maxRecDepth 100000 in
theorem cc9_r86 {a0 : Int32} {a1 : Int32} : ∀ G : ez_F, fx_up X 5 G 67 34 [.ref 22, .int a0, .int a1] [] (ev_hp I J R T) cz kz = ev_C G 38 [.ref 28, .int a1, .int (0 : Int32)] (ev_hp I J R T) fun r h1 c1 k1 => G 67 43 [.ref 22, .int a0, .int a1] (r.toList ++ []) h1 (cz + c1) (kz + k1) := by
  intro G
  rfl
set_option maxRecDepth 100000 in
theorem cc9_r87 {a0 : Int32} {a1 : Int32} : ∀ G : ez_F, fx_up X 5 G 67 43 [.ref 22, .int a0, .int a1] [] (ev_hp I J R T) cz kz = ev_C G 39 [.ref 29, .int a1, .long (0 : Int64)] (ev_hp I J R T) fun r h1 c1 k1 => G 67 52 [.ref 22, .int a0, .int a1] (r.toList ++ []) h1 (cz + c1) (kz + k1) := by
  intro G
  rfl
set_option maxRecDepth 100000 in
theorem cc9_r88 {a0 : Int32} {a1 : Int32} : ∀ G : ez_F, fx_up X 2 G 67 52 [.ref 22, .int a0, .int a1] [] (ev_hp I J R T) cz kz = G 67 29 [.ref 22, .int a0, .int (a1 + (1 : Int32))] [] (ev_hp I J R T) cz kz := by
  intro G
  rfl
theorem sn_29 {n k : Int32}
    (H : ((n ≤ k → pw N X 67 71 [.ref 22, .int n, .int (0 : Int32), .int (0 : Int32)] [] (ev_hp (ev_sI I 27 (ev_put 400 (I 27) (0 : Int32) n)) J R T) Q) ∧ (¬ (n ≤ k) → pw N X 67 29 [.ref 22, .int n, .int (k + (1 : Int32))] [] (ev_hp (ev_sI I 28 (ev_put 400 (I 28) k (0 : Int32))) (ev_sJ J 29 (ev_putJ 400 (J 29) k (0 : Int64))) R T) Q))) : pw (N + 1) X 67 29 [.ref 22, .int n, .int k] [] (ev_hp I J R T) Q := by
  refine pw_if (by decide) (fun _ _ => cc9_r83) (fun w1 => ?_) (fun w1 => ?_)
  · have h1 := H.1 w1
    refine pw_p (pw_callp (by decide) (fun _ _ => cc9_r84) (pe_put (show cx_Ds[27]? = some (0, 400, []) from rfl) (by decide)) ?_)
    refine pw_p (pw_seg (by decide) (fun _ _ => cc9_r85) ?_)
    exact h1
  · have h1 := H.2 w1
    refine pw_p (pw_callp (by decide) (fun _ _ => cc9_r86) (pe_put (show cx_Ds[28]? = some (0, 400, []) from rfl) (by decide)) ?_)
    refine pw_p (pw_callp (by decide) (fun _ _ => cc9_r87) (pe_putJ (show cx_Ds[29]? = some (1, 400, []) from rfl) (by decide)) ?_)
    refine pw_p (pw_seg (by decide) (fun _ _ => cc9_r88) ?_)
    exact h1
set_option maxRecDepth 100000 in
theorem cc9_r89 {a0 : Int32} {a1 : Int32} {a2 : Int32} : ∀ G : ez_F, fx_up X 3 G 67 71 [.ref 22, .int a0, .int a1, .int a2] [] (ev_hp I J R T) cz kz = bif decide ((800 : Int32) ≤ a2) then G 67 112 [.ref 22, .int a0, .int a1, .int a2] [] (ev_hp I J R T) cz kz else G 67 78 [.ref 22, .int a0, .int a1, .int a2] [] (ev_hp I J R T) cz kz := by
  intro G
  rfl
set_option maxRecDepth 100000 in
theorem cc9_r90 {a0 : Int32} {a1 : Int32} {a2 : Int32} : ∀ G : ez_F, fx_up X 3 G 67 112 [.ref 22, .int a0, .int a1, .int a2] [] (ev_hp I J R T) cz kz = G 67 117 [.ref 22, .int a0, .int a1, .int a2] [] (ev_hp (ev_sI I 22 (upd (I 22) 8 (1 : Int32))) J R T) cz kz := by
  intro G
  rfl
set_option maxRecDepth 100000 in
theorem cc9_r91 {a0 : Int32} {a1 : Int32} {a2 : Int32} : ∀ G : ez_F, fx_up X 1 G 67 117 [.ref 22, .int a0, .int a1, .int a2] [] (ev_hp I J R T) cz kz = some (none, (ev_hp I J R T), cz, kz) := by
  intro G
  rfl
set_option maxRecDepth 100000 in
theorem cc9_r92 {a0 : Int32} {a1 : Int32} {a2 : Int32} : ∀ G : ez_F, fx_up X 3 G 67 78 [.ref 22, .int a0, .int a1, .int a2] [] (ev_hp I J R T) cz kz = bif decide (a0 ≤ a1) then G 67 112 [.ref 22, .int a0, .int a1, .int a2] [] (ev_hp I J R T) cz kz else G 67 83 [.ref 22, .int a0, .int a1, .int a2] [] (ev_hp I J R T) cz kz := by
  intro G
  rfl
set_option maxRecDepth 100000 in
theorem cc9_r93 {a0 : Int32} {a1 : Int32} {a2 : Int32} : ∀ G : ez_F, fx_up X 4 G 67 83 [.ref 22, .int a0, .int a1, .int a2] [] (ev_hp I J R T) cz kz = ev_C G 3 [.ref 27, .int a1] (ev_hp I J R T) fun r h1 c1 k1 => G 67 91 [.ref 22, .int a0, .int a1, .int a2] (r.toList ++ []) h1 (cz + c1) (kz + k1) := by
  intro G
  rfl
set_option maxRecDepth 100000 in
theorem cc9_r94 {a0 : Int32} {a1 : Int32} {a2 : Int32} {a3 : Int32} : ∀ G : ez_F, fx_up X 5 G 67 91 [.ref 22, .int a0, .int a1, .int a2] [.int a3] (ev_hp I J R T) cz kz = ev_C G 69 [.ref 22, .int a1, .int a3] (ev_hp I J R T) fun r h1 c1 k1 => G 67 100 [.ref 22, .int a0, .int a1, .int a2, .int a3] (r.toList ++ []) h1 (cz + c1) (kz + k1) := by
  intro G
  rfl
theorem sn_71 {n f t : Int32}
    (H : (((800 : Int32) ≤ t → Q none (ev_hp (ev_sI I 22 (upd (I 22) 8 (1 : Int32))) J R T)) ∧ (¬ ((800 : Int32) ≤ t) → ((n ≤ f → Q none (ev_hp (ev_sI I 22 (upd (I 22) 8 (1 : Int32))) J R T)) ∧ (¬ (n ≤ f) → (∃ Q1 : pw_Q, pe N X 69 [.ref 22, .int f, .int (ev_at 400 (I 27) f)] (ev_hp I J R T) Q1 ∧ ∀ (r : Option Value) (h1 : ez_H), Q1 r h1 → pw N X 67 100 [.ref 22, .int n, .int f, .int t, .int (ev_at 400 (I 27) f)] (r.toList ++ []) h1 Q)))))) : pw (N + 1) X 67 71 [.ref 22, .int n, .int f, .int t] [] (ev_hp I J R T) Q := by
  refine pw_if (by decide) (fun _ _ => cc9_r89) (fun w1 => ?_) (fun w1 => ?_)
  · have h1 := H.1 w1
    refine pw_p (pw_seg (by decide) (fun _ _ => cc9_r90) ?_)
    exact pw_p (pw_ret (by decide) (fun _ _ => cc9_r91) h1)
  · have h1 := H.2 w1
    refine pw_p (pw_if (by decide) (fun _ _ => cc9_r92) (fun w2 => ?_) (fun w2 => ?_))
    · have h2 := h1.1 w2
      refine pw_p (pw_seg (by decide) (fun _ _ => cc9_r90) ?_)
      exact pw_p (pw_ret (by decide) (fun _ _ => cc9_r91) h2)
    · have h2 := h1.2 w2
      refine pw_p (pw_callp (by decide) (fun _ _ => cc9_r93) (pe_at (show cx_Ds[27]? = some (0, 400, []) from rfl) (by decide)) ?_)
      obtain ⟨Q1, hc, hk⟩ := h2
      exact pw_p (pw_call (by decide) (fun _ _ => cc9_r94) hc hk)
set_option maxRecDepth 100000 in
theorem cc9_r95 {a0 : Int32} {a1 : Int32} {a2 : Int32} {a3 : Int32} {a4 : Int32} : ∀ G : ez_F, fx_up X 1 G 67 100 [.ref 22, .int a0, .int a1, .int a2, .int a3] [.int a4] (ev_hp I J R T) cz kz = bif decide (¬ a4 = (0 : Int32)) then G 67 106 [.ref 22, .int a0, .int a1, .int a2, .int a3] [] (ev_hp I J R T) cz kz else G 67 103 [.ref 22, .int a0, .int a1, .int a2, .int a3] [] (ev_hp I J R T) cz kz := by
  intro G
  rfl
set_option maxRecDepth 100000 in
theorem cc9_r96 {a0 : Int32} {a1 : Int32} {a2 : Int32} {a3 : Int32} : ∀ G : ez_F, fx_up X 2 G 67 106 [.ref 22, .int a0, .int a1, .int a2, .int a3] [] (ev_hp I J R T) cz kz = G 67 71 [.ref 22, .int a0, .int a1, .int (a2 + (1 : Int32)), .int a3] [] (ev_hp I J R T) cz kz := by
  intro G
  rfl
set_option maxRecDepth 100000 in
theorem cc9_r97 {a0 : Int32} {a1 : Int32} {a2 : Int32} {a3 : Int32} : ∀ G : ez_F, fx_up X 4 G 67 103 [.ref 22, .int a0, .int a1, .int a2, .int a3] [] (ev_hp I J R T) cz kz = G 67 71 [.ref 22, .int a0, .int a3, .int (a2 + (1 : Int32)), .int a3] [] (ev_hp I J R T) cz kz := by
  intro G
  rfl
theorem sn_100 {n f t e v : Int32}
    (H : ((¬ v = (0 : Int32) → pw N X 67 71 [.ref 22, .int n, .int f, .int (t + (1 : Int32))] [] (ev_hp I J R T) Q) ∧ (¬ (¬ v = (0 : Int32)) → pw N X 67 71 [.ref 22, .int n, .int e, .int (t + (1 : Int32))] [] (ev_hp I J R T) Q))) : pw (N + 1) X 67 100 [.ref 22, .int n, .int f, .int t, .int e] [.int v] (ev_hp I J R T) Q := by
  refine pw_if (by decide) (fun _ _ => cc9_r95) (fun w1 => ?_) (fun w1 => ?_)
  · have h1 := H.1 w1
    refine pw_p (pw_seg (by decide) (fun _ _ => cc9_r96) ?_)
    refine pw_cutl (by rfl) ?_
    exact h1
  · have h1 := H.2 w1
    refine pw_p (pw_seg (by decide) (fun _ _ => cc9_r97) ?_)
    refine pw_cutl (by rfl) ?_
    exact h1
set_option maxRecDepth 100000 in
theorem cc9_r98 {a0 : Int32} : ∀ G : ez_F, fx_up X 4 G 65 0 [.ref 22, .int a0] [] (ev_hp I J R T) cz kz = ev_C G 3 [.ref 28, .int a0] (ev_hp I J R T) fun r h1 c1 k1 => G 65 8 [.ref 22, .int a0] (r.toList ++ []) h1 (cz + c1) (kz + k1) := by
  intro G
  rfl
set_option maxRecDepth 100000 in
theorem cc9_r99 {a0 : Int32} {a1 : Int32} : ∀ G : ez_F, fx_up X 1 G 65 8 [.ref 22, .int a0] [.int a1] (ev_hp I J R T) cz kz = some (some (.int a1), (ev_hp I J R T), cz, kz) := by
  intro G
  rfl
theorem ne9_0 {k : Int32}
    (H : Q (some (.int (ev_at 400 (I 28) k))) (ev_hp I J R T)) : pw (N + 1) X 65 0 [.ref 22, .int k] [] (ev_hp I J R T) Q := by
  refine pw_callp (by decide) (fun _ _ => cc9_r98) (pe_at (show cx_Ds[28]? = some (0, 400, []) from rfl) (by decide)) ?_
  exact pw_p (pw_ret (by decide) (fun _ _ => cc9_r99) H)
set_option maxRecDepth 100000 in
theorem cc9_r100  : ∀ G : ez_F, fx_up X 4 G 57 0 [.ref 22] [] (ev_hp I J R T) cz kz = G 57 4 [.ref 22, .int (0 : Int32), .int (0 : Int32)] [] (ev_hp I J R T) cz kz := by
  intro G
  rfl
theorem aq9_0 
    (H : pw N X 57 4 [.ref 22, .int (0 : Int32), .int (0 : Int32)] [] (ev_hp I J R T) Q) : pw (N + 1) X 57 0 [.ref 22] [] (ev_hp I J R T) Q := by
  refine pw_seg (by decide) (fun _ _ => cc9_r100) ?_
  exact H
set_option maxRecDepth 100000 in
theorem cc9_r101 {a0 : Int32} {a1 : Int32} : ∀ G : ez_F, fx_up X 4 G 57 4 [.ref 22, .int a0, .int a1] [] (ev_hp I J R T) cz kz = G 57 12 [.ref 22, .int a0, .int a1] [.int (I 6 3), .int a1] (ev_hp I J R T) cz kz := by
  intro G
  rfl
set_option maxRecDepth 100000 in
theorem cc9_r102 {a0 : Int32} {a1 : Int32} {a2 : Int32} {a3 : Int32} : ∀ G : ez_F, fx_up X 1 G 57 12 [.ref 22, .int a0, .int a1] [.int a2, .int a3] (ev_hp I J R T) cz kz = bif decide (a2 ≤ a3) then G 57 32 [.ref 22, .int a0, .int a1] [] (ev_hp I J R T) cz kz else G 57 15 [.ref 22, .int a0, .int a1] [] (ev_hp I J R T) cz kz := by
  intro G
  rfl
set_option maxRecDepth 100000 in
theorem cc9_r103 {a0 : Int32} {a1 : Int32} : ∀ G : ez_F, fx_up X 2 G 57 32 [.ref 22, .int a0, .int a1] [] (ev_hp I J R T) cz kz = some (some (.int a0), (ev_hp I J R T), cz, kz) := by
  intro G
  rfl
set_option maxRecDepth 100000 in
theorem cc9_r104 {a0 : Int32} {a1 : Int32} : ∀ G : ez_F, fx_up X 5 G 57 15 [.ref 22, .int a0, .int a1] [] (ev_hp I J R T) cz kz = ev_C G 3 [.ref 28, .int a1] (ev_hp I J R T) fun r h1 c1 k1 => G 57 24 [.ref 22, .int a0, .int a1] (r.toList ++ [.int a0]) h1 (cz + c1) (kz + k1) := by
  intro G
  rfl
set_option maxRecDepth 100000 in
theorem cc9_r105 {a0 : Int32} {a1 : Int32} {a2 : Int32} {a3 : Int32} : ∀ G : ez_F, fx_up X 4 G 57 24 [.ref 22, .int a0, .int a1] [.int a2, .int a3] (ev_hp I J R T) cz kz = G 57 4 [.ref 22, .int (a3 + a2), .int (a1 + (1 : Int32))] [] (ev_hp I J R T) cz kz := by
  intro G
  rfl
theorem aq9_4 {s k : Int32}
    (H : (((I 6 3) ≤ k → Q (some (.int s)) (ev_hp I J R T)) ∧ (¬ ((I 6 3) ≤ k) → pw N X 57 4 [.ref 22, .int (s + (ev_at 400 (I 28) k)), .int (k + (1 : Int32))] [] (ev_hp I J R T) Q))) : pw (N + 1) X 57 4 [.ref 22, .int s, .int k] [] (ev_hp I J R T) Q := by
  refine pw_seg (by decide) (fun _ _ => cc9_r101) ?_
  refine pw_p (pw_if (by decide) (fun _ _ => cc9_r102) (fun w1 => ?_) (fun w1 => ?_))
  · have h1 := H.1 w1
    exact pw_p (pw_ret (by decide) (fun _ _ => cc9_r103) h1)
  · have h1 := H.2 w1
    refine pw_p (pw_callp (by decide) (fun _ _ => cc9_r104) (pe_at (show cx_Ds[28]? = some (0, 400, []) from rfl) (by decide)) ?_)
    refine pw_p (pw_seg (by decide) (fun _ _ => cc9_r105) ?_)
    exact h1
set_option maxRecDepth 100000 in
theorem cc9_r106  : ∀ G : ez_F, fx_up X 4 G 64 0 [.ref 22] [] (ev_hp I J R T) cz kz = G 64 4 [.ref 22, .int (0 : Int32), .int (1 : Int32)] [] (ev_hp I J R T) cz kz := by
  intro G
  rfl
theorem mn_0 
    (H : pw N X 64 4 [.ref 22, .int (0 : Int32), .int (1 : Int32)] [] (ev_hp I J R T) Q) : pw (N + 1) X 64 0 [.ref 22] [] (ev_hp I J R T) Q := by
  refine pw_seg (by decide) (fun _ _ => cc9_r106) ?_
  exact H
set_option maxRecDepth 100000 in
theorem cc9_r107 {a0 : Int32} {a1 : Int32} : ∀ G : ez_F, fx_up X 4 G 64 4 [.ref 22, .int a0, .int a1] [] (ev_hp I J R T) cz kz = G 64 12 [.ref 22, .int a0, .int a1] [.int (I 6 3), .int a1] (ev_hp I J R T) cz kz := by
  intro G
  rfl
set_option maxRecDepth 100000 in
theorem cc9_r108 {a0 : Int32} {a1 : Int32} {a2 : Int32} {a3 : Int32} : ∀ G : ez_F, fx_up X 1 G 64 12 [.ref 22, .int a0, .int a1] [.int a2, .int a3] (ev_hp I J R T) cz kz = bif decide (a2 ≤ a3) then G 64 42 [.ref 22, .int a0, .int a1] [] (ev_hp I J R T) cz kz else G 64 15 [.ref 22, .int a0, .int a1] [] (ev_hp I J R T) cz kz := by
  intro G
  rfl
set_option maxRecDepth 100000 in
theorem cc9_r109 {a0 : Int32} {a1 : Int32} : ∀ G : ez_F, fx_up X 2 G 64 42 [.ref 22, .int a0, .int a1] [] (ev_hp I J R T) cz kz = some (some (.int a0), (ev_hp I J R T), cz, kz) := by
  intro G
  rfl
set_option maxRecDepth 100000 in
theorem cc9_r110 {a0 : Int32} {a1 : Int32} : ∀ G : ez_F, fx_up X 4 G 64 15 [.ref 22, .int a0, .int a1] [] (ev_hp I J R T) cz kz = ev_C G 3 [.ref 28, .int a1] (ev_hp I J R T) fun r h1 c1 k1 => G 64 23 [.ref 22, .int a0, .int a1] (r.toList ++ []) h1 (cz + c1) (kz + k1) := by
  intro G
  rfl
set_option maxRecDepth 100000 in
theorem cc9_r111 {a0 : Int32} {a1 : Int32} {a2 : Int32} : ∀ G : ez_F, fx_up X 4 G 64 23 [.ref 22, .int a0, .int a1] [.int a2] (ev_hp I J R T) cz kz = ev_C G 3 [.ref 28, .int a0] (ev_hp I J R T) fun r h1 c1 k1 => G 64 31 [.ref 22, .int a0, .int a1] (r.toList ++ [.int a2]) h1 (cz + c1) (kz + k1) := by
  intro G
  rfl
set_option maxRecDepth 100000 in
theorem cc9_r112 {a0 : Int32} {a1 : Int32} {a2 : Int32} {a3 : Int32} : ∀ G : ez_F, fx_up X 1 G 64 31 [.ref 22, .int a0, .int a1] [.int a2, .int a3] (ev_hp I J R T) cz kz = bif decide (a3 ≤ a2) then G 64 36 [.ref 22, .int a0, .int a1] [] (ev_hp I J R T) cz kz else G 64 34 [.ref 22, .int a0, .int a1] [] (ev_hp I J R T) cz kz := by
  intro G
  rfl
set_option maxRecDepth 100000 in
theorem cc9_r113 {a0 : Int32} {a1 : Int32} : ∀ G : ez_F, fx_up X 2 G 64 36 [.ref 22, .int a0, .int a1] [] (ev_hp I J R T) cz kz = G 64 4 [.ref 22, .int a0, .int (a1 + (1 : Int32))] [] (ev_hp I J R T) cz kz := by
  intro G
  rfl
set_option maxRecDepth 100000 in
theorem cc9_r114 {a0 : Int32} {a1 : Int32} : ∀ G : ez_F, fx_up X 4 G 64 34 [.ref 22, .int a0, .int a1] [] (ev_hp I J R T) cz kz = G 64 4 [.ref 22, .int a1, .int (a1 + (1 : Int32))] [] (ev_hp I J R T) cz kz := by
  intro G
  rfl
theorem mn_4 {m k : Int32}
    (H : (((I 6 3) ≤ k → Q (some (.int m)) (ev_hp I J R T)) ∧ (¬ ((I 6 3) ≤ k) → (((ev_at 400 (I 28) k) ≤ (ev_at 400 (I 28) m) → pw N X 64 4 [.ref 22, .int m, .int (k + (1 : Int32))] [] (ev_hp I J R T) Q) ∧ (¬ ((ev_at 400 (I 28) k) ≤ (ev_at 400 (I 28) m)) → pw N X 64 4 [.ref 22, .int k, .int (k + (1 : Int32))] [] (ev_hp I J R T) Q))))) : pw (N + 1) X 64 4 [.ref 22, .int m, .int k] [] (ev_hp I J R T) Q := by
  refine pw_seg (by decide) (fun _ _ => cc9_r107) ?_
  refine pw_p (pw_if (by decide) (fun _ _ => cc9_r108) (fun w1 => ?_) (fun w1 => ?_))
  · have h1 := H.1 w1
    exact pw_p (pw_ret (by decide) (fun _ _ => cc9_r109) h1)
  · have h1 := H.2 w1
    refine pw_p (pw_callp (by decide) (fun _ _ => cc9_r110) (pe_at (show cx_Ds[28]? = some (0, 400, []) from rfl) (by decide)) ?_)
    refine pw_p (pw_callp (by decide) (fun _ _ => cc9_r111) (pe_at (show cx_Ds[28]? = some (0, 400, []) from rfl) (by decide)) ?_)
    refine pw_p (pw_if (by decide) (fun _ _ => cc9_r112) (fun w2 => ?_) (fun w2 => ?_))
    · have h2 := h1.1 w2
      refine pw_p (pw_seg (by decide) (fun _ _ => cc9_r113) ?_)
      exact h2
    · have h2 := h1.2 w2
      refine pw_p (pw_seg (by decide) (fun _ _ => cc9_r114) ?_)
      exact h2
end
section
variable {N : Nat} {X : ez_X} {I : Nat → Nat → Int32} {J : Nat → Nat → Int64} {R : Nat → Nat} {T : List ez_C} {x : Int32} {z w : Int64} {n k : Nat}
theorem pe_countIn24 (hz : onp 36 z) : pe N X 160 [.ref 24, .long z] (ev_hp I J R T) (fun r h => r = none ∧ ∃ F, h = ev_hp (ev_sI I 24 F) J R T ∧ ∀ c, c < 36 → F c = I 24 c + (bif kb z c then 1 else 0)) := by
  have loop : ∀ (d b : Nat), b + d = 36 → ∀ (m : Nat) (w : Int64) (F : Nat → Int32), m ≤ b → (∀ i, kb w i = (kb z i && decide (b ≤ i))) → (∀ c, c < 36 → F c = I 24 c + (bif kb z c && decide (c < b) then 1 else 0)) → ∀ N, pw N X 160 5 [.ref 24, .long z, ez_fill, .long w, ez_fill, .int (Int32.ofNat m)] [] (ev_hp (ev_sI I 24 F) J R T) (fun r h => r = none ∧ ∃ F, h = ev_hp (ev_sI I 24 F) J R T ∧ ∀ c, c < 36 → F c = I 24 c + (bif kb z c then 1 else 0)) := by
    intro d
    induction d using Nat.strongRecOn with
    | _ d ih =>
      intro b hbd m w F hm hw hF N
      have done : w = 0 → (none : Option Value) = none ∧ ∃ F', ev_hp (ev_sI I 24 F) J R T = ev_hp (ev_sI I 24 F') J R T ∧ ∀ c, c < 36 → F' c = I 24 c + (bif kb z c then 1 else 0) := by
        rintro rfl
        refine ⟨rfl, F, rfl, fun c hc => ?_⟩
        rw [hF c hc]
        have h1 := hw c
        rw [kb_0] at h1
        cases hk : kb z c
        · rfl
        · rw [hk, Bool.true_and] at h1
          have h2 := of_decide_eq_false h1.symm
          rw [decide_eq_true (show c < b by omega)]
          rfl
      have none36 : 36 ≤ b → w = 0 := fun hb => kb_ext fun i _ => by
        rw [hw i, kb_0]
        by_cases h1 : b ≤ i
        · rw [hz i (by omega), Bool.false_and]
        · rw [decide_eq_false h1, Bool.and_false]
      refine pw_p (ci24_5 ?_)
      rw [lg_eq]
      refine ⟨fun g => done (none36 ?_), fun g => ⟨fun g2 => done g2, fun g2 => ?_⟩⟩
      · rw [show (36 : Int32) = Int32.ofNat 36 from rfl, io_le (by omega) (by omega)] at g
        omega
      · obtain ⟨j, j1, j2, j3⟩ := low_bit g2
        refine ⟨_, pe_ntz j2 j3 j1, ?_⟩
        rintro r h ⟨rfl, rfl⟩
        have hj : kb z j = true ∧ b ≤ j := by
          have h1 := hw j
          rw [j2] at h1
          obtain ⟨h2, h3⟩ := Bool.and_eq_true_iff.mp h1.symm
          exact ⟨h2, of_decide_eq_true h3⟩
        have hj36 : j < 36 := by
          apply Classical.byContradiction
          intro h1
          have h2 := hz j (by omega)
          rw [hj.1] at h2
          cases h2
        refine pw_p (ci24_22 ?_)
        rw [cx_sI_s, at_in hj36 (by decide), put_in hj36 (by decide), sI2, io_1]
        refine ih (36 - (j + 1)) (by omega) (j + 1) (by omega) (m + 1) _ _ (by omega) (fun i => ?_) (fun c hc => ?_) N
        · rw [kb_less j2 j3, hw i]
          by_cases h1 : j + 1 ≤ i
          · rw [decide_eq_true (show b ≤ i by omega), decide_eq_true (p := i ≠ j) (by omega), decide_eq_true h1, Bool.and_true]
          · rw [decide_eq_false h1, Bool.and_false]
            by_cases h2 : i = j
            · rw [decide_eq_false (p := i ≠ j) (fun z => z h2), Bool.and_false]
            · have h3 := j3 i (by omega)
              rw [hw i] at h3
              rw [h3, Bool.false_and]
        · by_cases h1 : c = j
          · subst h1
            rw [upd_s, hF c hc, hj.1, decide_eq_false (show ¬ c < b by omega), decide_eq_true (show c < c + 1 by omega)]
            show I 24 c + 0 + 1 = I 24 c + 1
            rw [Int32.add_zero]
          · rw [upd_n _ _ h1, hF c hc]
            by_cases h2 : c < b
            · rw [decide_eq_true h2, decide_eq_true (show c < j + 1 by omega)]
            · rw [decide_eq_false h2, Bool.and_false]
              by_cases h3 : c < j
              · have h4 := j3 c h3
                rw [hw c, decide_eq_true (show b ≤ c by omega), Bool.and_true] at h4
                rw [h4, Bool.false_and]
              · rw [decide_eq_false (show ¬ c < j + 1 by omega), Bool.and_false]
  refine pe_of (pw_p (ci24_0 ?_))
  have h0 := loop 36 0 (by omega) 0 z (I 24) (Nat.le_refl 0) (fun i => by rw [decide_eq_true (Nat.zero_le i), Bool.and_true]) (fun c _ => by
    rw [decide_eq_false (Nat.not_lt_zero c), Bool.and_false]
    exact (Int32.add_zero _).symm) N
  rw [sI_self] at h0
  exact h0
theorem pe_countIn25 (hz : onp 36 z) : pe N X 160 [.ref 25, .long z] (ev_hp I J R T) (fun r h => r = none ∧ ∃ F, h = ev_hp (ev_sI I 25 F) J R T ∧ ∀ c, c < 36 → F c = I 25 c + (bif kb z c then 1 else 0)) := by
  have loop : ∀ (d b : Nat), b + d = 36 → ∀ (m : Nat) (w : Int64) (F : Nat → Int32), m ≤ b → (∀ i, kb w i = (kb z i && decide (b ≤ i))) → (∀ c, c < 36 → F c = I 25 c + (bif kb z c && decide (c < b) then 1 else 0)) → ∀ N, pw N X 160 5 [.ref 25, .long z, ez_fill, .long w, ez_fill, .int (Int32.ofNat m)] [] (ev_hp (ev_sI I 25 F) J R T) (fun r h => r = none ∧ ∃ F, h = ev_hp (ev_sI I 25 F) J R T ∧ ∀ c, c < 36 → F c = I 25 c + (bif kb z c then 1 else 0)) := by
    intro d
    induction d using Nat.strongRecOn with
    | _ d ih =>
      intro b hbd m w F hm hw hF N
      have done : w = 0 → (none : Option Value) = none ∧ ∃ F', ev_hp (ev_sI I 25 F) J R T = ev_hp (ev_sI I 25 F') J R T ∧ ∀ c, c < 36 → F' c = I 25 c + (bif kb z c then 1 else 0) := by
        rintro rfl
        refine ⟨rfl, F, rfl, fun c hc => ?_⟩
        rw [hF c hc]
        have h1 := hw c
        rw [kb_0] at h1
        cases hk : kb z c
        · rfl
        · rw [hk, Bool.true_and] at h1
          have h2 := of_decide_eq_false h1.symm
          rw [decide_eq_true (show c < b by omega)]
          rfl
      have none36 : 36 ≤ b → w = 0 := fun hb => kb_ext fun i _ => by
        rw [hw i, kb_0]
        by_cases h1 : b ≤ i
        · rw [hz i (by omega), Bool.false_and]
        · rw [decide_eq_false h1, Bool.and_false]
      refine pw_p (ci25_5 ?_)
      rw [lg_eq]
      refine ⟨fun g => done (none36 ?_), fun g => ⟨fun g2 => done g2, fun g2 => ?_⟩⟩
      · rw [show (36 : Int32) = Int32.ofNat 36 from rfl, io_le (by omega) (by omega)] at g
        omega
      · obtain ⟨j, j1, j2, j3⟩ := low_bit g2
        refine ⟨_, pe_ntz j2 j3 j1, ?_⟩
        rintro r h ⟨rfl, rfl⟩
        have hj : kb z j = true ∧ b ≤ j := by
          have h1 := hw j
          rw [j2] at h1
          obtain ⟨h2, h3⟩ := Bool.and_eq_true_iff.mp h1.symm
          exact ⟨h2, of_decide_eq_true h3⟩
        have hj36 : j < 36 := by
          apply Classical.byContradiction
          intro h1
          have h2 := hz j (by omega)
          rw [hj.1] at h2
          cases h2
        refine pw_p (ci25_22 ?_)
        rw [cx_sI_s, at_in hj36 (by decide), put_in hj36 (by decide), sI2, io_1]
        refine ih (36 - (j + 1)) (by omega) (j + 1) (by omega) (m + 1) _ _ (by omega) (fun i => ?_) (fun c hc => ?_) N
        · rw [kb_less j2 j3, hw i]
          by_cases h1 : j + 1 ≤ i
          · rw [decide_eq_true (show b ≤ i by omega), decide_eq_true (p := i ≠ j) (by omega), decide_eq_true h1, Bool.and_true]
          · rw [decide_eq_false h1, Bool.and_false]
            by_cases h2 : i = j
            · rw [decide_eq_false (p := i ≠ j) (fun z => z h2), Bool.and_false]
            · have h3 := j3 i (by omega)
              rw [hw i] at h3
              rw [h3, Bool.false_and]
        · by_cases h1 : c = j
          · subst h1
            rw [upd_s, hF c hc, hj.1, decide_eq_false (show ¬ c < b by omega), decide_eq_true (show c < c + 1 by omega)]
            show I 25 c + 0 + 1 = I 25 c + 1
            rw [Int32.add_zero]
          · rw [upd_n _ _ h1, hF c hc]
            by_cases h2 : c < b
            · rw [decide_eq_true h2, decide_eq_true (show c < j + 1 by omega)]
            · rw [decide_eq_false h2, Bool.and_false]
              by_cases h3 : c < j
              · have h4 := j3 c h3
                rw [hw c, decide_eq_true (show b ≤ c by omega), Bool.and_true] at h4
                rw [h4, Bool.false_and]
              · rw [decide_eq_false (show ¬ c < j + 1 by omega), Bool.and_false]
  refine pe_of (pw_p (ci25_0 ?_))
  have h0 := loop 36 0 (by omega) 0 z (I 25) (Nat.le_refl 0) (fun i => by rw [decide_eq_true (Nat.zero_le i), Bool.and_true]) (fun c _ => by
    rw [decide_eq_false (Nat.not_lt_zero c), Bool.and_false]
    exact (Int32.add_zero _).symm) N
  rw [sI_self] at h0
  exact h0
/-- one more -/
theorem pe_tadd3 (hz : onp 36 z) (hw : onp 36 w) : pe N X 156 [.ref 23, .long z, .long w] (ev_hp I J R T) (fun r h => r = none ∧ ∃ A, h = ev_hp A J R T ∧ (∀ a, a ≠ 23 → a ≠ 24 → a ≠ 25 → A a = I a) ∧ A 23 2 = I 23 2 + 1 ∧ ∀ c, c < 36 → A 24 c = I 24 c + (bif kb z c then 1 else 0) ∧ A 25 c = I 25 c + (bif kb w c then 1 else 0)) := by
  refine pe_of (pw_p (td3_0 ⟨_, pe_countIn24 hz, ?_⟩))
  rintro r h ⟨rfl, F, rfl, hF⟩
  refine pw_p (td3_18 ⟨_, pe_countIn25 hw, ?_⟩)
  rintro r h ⟨rfl, G, rfl, hG⟩
  rw [cx_sI_n _ _ (show (24 : Nat) ≠ 23 by decide)] at hF
  rw [cx_sI_n _ _ (show (25 : Nat) ≠ 24 by decide), cx_sI_n _ _ (show (25 : Nat) ≠ 23 by decide)] at hG
  refine pw_p (td3_26 ⟨rfl, _, rfl, fun a h1 h2 h3 => ?_, ?_, fun c hc => ⟨?_, ?_⟩⟩)
  · rw [cx_sI_n _ _ h3, cx_sI_n _ _ h2, cx_sI_n _ _ h1]
  · rw [cx_sI_n _ _ (by decide), cx_sI_n _ _ (by decide), cx_sI_s, upd_s]
  · rw [cx_sI_n _ _ (by decide), cx_sI_s]
    exact hF c hc
  · rw [cx_sI_s]
    exact hG c hc
theorem pe_tclear3 : pe N X 159 [.ref 23] (ev_hp I J R T) (fun r h => r = none ∧ ∃ A, h = ev_hp A J R T ∧ (∀ a, a ≠ 23 → a ≠ 24 → a ≠ 25 → A a = I a) ∧ A 23 2 = 0 ∧ ∀ c, c < 36 → A 24 c = 0 ∧ A 25 c = 0) := by
  have loop : ∀ (d c : Nat), c + d = 36 → ∀ A : Nat → Nat → Int32, (∀ a, a ≠ 23 → a ≠ 24 → a ≠ 25 → A a = I a) → A 23 2 = 0 → (∀ i, i < c → A 24 i = 0 ∧ A 25 i = 0) → ∀ N, pw N X 159 7 [.ref 23, .int (Int32.ofNat c)] [] (ev_hp A J R T) (fun r h => r = none ∧ ∃ A, h = ev_hp A J R T ∧ (∀ a, a ≠ 23 → a ≠ 24 → a ≠ 25 → A a = I a) ∧ A 23 2 = 0 ∧ ∀ c, c < 36 → A 24 c = 0 ∧ A 25 c = 0) := by
    intro d
    induction d with
    | zero =>
      intro c hc A h1 h2 h3 N
      obtain rfl : c = 36 := by omega
      exact pw_p (tl3_7 ⟨fun _ => ⟨rfl, A, rfl, h1, h2, h3⟩, fun g => absurd (by decide) g⟩)
    | succ d ih =>
      intro c hcd A h1 h2 h3 N
      refine pw_p (tl3_7 ⟨fun g => ?_, fun _ => ?_⟩)
      · rw [show (36 : Int32) = Int32.ofNat 36 from rfl, io_le (by omega) (by omega)] at g
        omega
      · rw [put_in (by omega) (by decide), put_in (by omega) (by decide), io_1]
        refine ih (c + 1) (by omega) _ (fun a g1 g2 g3 => ?_) ?_ (fun i hi => ?_) N
        · rw [cx_sI_n _ _ g3, cx_sI_n _ _ g2]
          exact h1 a g1 g2 g3
        · rw [cx_sI_n _ _ (by decide), cx_sI_n _ _ (by decide)]
          exact h2
        · rw [cx_sI_n _ _ (show (24 : Nat) ≠ 25 by decide), cx_sI_s, cx_sI_s]
          by_cases hic : i = c
          · subst hic
            rw [upd_s, upd_s]
            exact ⟨rfl, rfl⟩
          · rw [upd_n _ _ hic, upd_n _ _ hic]
            exact h3 i (by omega)
  refine pe_of (pw_p (tl3_0 (loop 36 0 (by omega) _ (fun a h1 h2 h3 => cx_sI_n _ _ h1) ?_ (fun i hi => absurd hi (by omega)) _)))
  rw [cx_sI_s, upd_s]
end
/-! the caller's world -/
noncomputable def kw (I : Nat → Nat → Int32) (J : Nat → Nat → Int64) (L : List ly_t) (n : Nat) (f : Nat → Int32) (nc : Nat) : Prop := I 6 3 = Int32.ofNat L.length ∧ L.length ≤ n ∧ n ≤ 10000 ∧ ly_row f L ∧ (0 ≤ (I 3 3).toInt ∧ (I 3 3).toInt ≤ 3) ∧ (∀ t, t ∈ L → t512 t) ∧ (∀ t, t ∈ L → ∀ s, s < (I 3 3).toInt.toNat → ly_at t s < 288) ∧ I 1 6 = Int32.ofNat nc ∧ (4 ≤ nc ∧ nc ≤ 36) ∧ ∀ t, t ∈ L → onp 36 (ly_w I J t)
/-- but for the caller's own cells -/
noncomputable def ko (I A : Nat → Nat → Int32) : Prop := ∀ a, a ≠ 22 → a ≠ 23 → a ≠ 24 → a ≠ 25 → a ≠ 27 → a ≠ 28 → A a = I a
noncomputable def kj (J B : Nat → Nat → Int64) : Prop := ∀ a, a ≠ 29 → B a = J a
noncomputable def snk (I : Nat → Nat → Int32) (J : Nat → Nat → Int64) (t : ly_t) (z : Int64) : Int64 := if I 2 1 = 0 then 0 else skF (ly_s I J t) (fun _ => z)
noncomputable def anL (I : Nat → Nat → Int32) (J : Nat → Nat → Int64) (L : List ly_t) (z : Int64) (c k : Nat) : Nat := bif kb (ly_w I J (L.getD k (0, 0, 0))) c then (bif kb (snk I J (L.getD k (0, 0, 0)) z) c then 2 else 1) else 0
section
variable {I A : Nat → Nat → Int32} {J B : Nat → Nat → Int64} {L : List ly_t} {n nc : Nat} {f : Nat → Int32} {z : Int64} {c : Nat} {t : ly_t}
theorem ko_r : ko I I := fun _ _ _ _ _ _ _ => rfl
theorem kj_r : kj J J := fun _ _ => rfl
theorem ko_t {A' : Nat → Nat → Int32} (h : ko I A) (h' : ko A A') : ko I A' := fun a h1 h2 h3 h4 h5 h6 => (h' a h1 h2 h3 h4 h5 h6).trans (h a h1 h2 h3 h4 h5 h6)
theorem lys_k (h : ko I A) (h' : kj J B) : ly_s A B t = ly_s I J t ∧ ly_w A B t = ly_w I J t := by
  have e : ly_s A B t = ly_s I J t := funext fun s => by
    unfold ly_s
    rw [h 3 (by decide) (by decide) (by decide) (by decide) (by decide) (by decide), h' 4 (by decide)]
  refine ⟨e, ?_⟩
  unfold ly_w
  rw [e]
theorem kw_c (hW : kw I J L n f nc) (h : ko I A) (h' : kj J B) : kw A B L n f nc := by
  obtain ⟨h1, h2, h3, h4, h5, h6, h7, h8, h9, h10⟩ := hW
  have e3 := h 3 (by decide) (by decide) (by decide) (by decide) (by decide) (by decide)
  refine ⟨?_, h2, h3, h4, ?_, h6, ?_, ?_, h9, fun t ht => ?_⟩
  · rw [h 6 (by decide) (by decide) (by decide) (by decide) (by decide) (by decide)]
    exact h1
  · rw [e3]
    exact h5
  · rw [e3]
    exact h7
  · rw [h 1 (by decide) (by decide) (by decide) (by decide) (by decide) (by decide)]
    exact h8
  · rw [(lys_k h h').2]
    exact h10 t ht
theorem snk_c (h : ko I A) (h' : kj J B) : snk A B t z = snk I J t z := by
  unfold snk
  rw [h 2 (by decide) (by decide) (by decide) (by decide) (by decide) (by decide), (lys_k h h').1]
theorem anL_c (h : ko I A) (h' : kj J B) : anL A B L = anL I J L := funext fun z => funext fun c => funext fun k => by
  unfold anL
  rw [(lys_k h h').2, snk_c h h']
theorem anL_2 (z : Int64) (c k : Nat) : anL I J L z c k ≤ 2 := by
  unfold anL
  cases kb (ly_w I J (L.getD k (0, 0, 0))) c <;> cases kb (snk I J (L.getD k (0, 0, 0)) z) c <;> decide
theorem snk_w (h : kb (snk I J t z) c = true) : kb (ly_w I J t) c = true := by
  unfold snk at h
  split at h
  · rw [kb_0] at h
    cases h
  · exact sk_sub h
theorem snk_on (h : onp 36 (ly_w I J t)) : onp 36 (snk I J t z) := fun i hi => by
  cases hs : kb (snk I J t z) i
  · rfl
  · have h2 := h i hi
    rw [snk_w hs] at h2
    cases h2
end
theorem imx_n {a b : Nat} (ha : a < 2147483648) (hb : b < 2147483648) : imx (Int32.ofNat a) (Int32.ofNat b) = Int32.ofNat (max a b) := by
  unfold imx
  by_cases h : a < b
  · rw [if_pos ((io_lt ha hb).mpr h), Nat.max_eq_right (by omega)]
  · rw [if_neg (fun z => h ((io_lt ha hb).mp z)), Nat.max_eq_left (by omega)]
/-- the tally's greatest part -/
theorem gt_k {I J : Nat → Nat → Int32} {w s : Nat → Nat → Bool} {G : Nat → Bool} {an : Nat → Nat → Nat} {l c : Nat} {F1 F2 F3 : Nat → Int32} (hl : l ≤ 10000) (hc : c < 36) (han : ∀ k, k < l → an c k = bif w c k then (bif s c k then 2 else 1) else 0) (hs : ∀ k, k < l → s c k = true → w c k = true) (h1 : F1 2 = Int32.ofNat (cq G l)) (h2 : F2 c = Int32.ofNat (cq (fun k => G k && w c k) l)) (h3 : F3 c = Int32.ofNat (cq (fun k => G k && s c k) l)) : gtF F1 F2 F3 (Int32.ofNat c) = Int32.ofNat (mx3 (cq (fun k => G k && decide (an c k = 0)) l) (cq (fun k => G k && decide (an c k = 1)) l) (cq (fun k => G k && decide (an c k = 2)) l)) := by
  have e0 : cq (fun k => G k && decide (an c k = 0)) l = cq (fun k => G k && !w c k) l := cq_c _ fun k hk => by
    rw [han k hk]
    cases w c k <;> cases s c k <;> rfl
  have e1 : cq (fun k => G k && decide (an c k = 1)) l = cq (fun k => (G k && w c k) && !s c k) l := cq_c _ fun k hk => by
    rw [han k hk]
    cases G k <;> cases w c k <;> cases s c k <;> rfl
  have e2 : cq (fun k => G k && decide (an c k = 2)) l = cq (fun k => G k && s c k) l := cq_c _ fun k hk => by
    have h := hs k hk
    rw [han k hk]
    cases hsk : s c k
    · cases w c k <;> rfl
    · rw [h hsk]
      rfl
  have e3 : cq (fun k => (G k && w c k) && s c k) l = cq (fun k => G k && s c k) l := cq_c _ fun k hk => by
    have h := hs k hk
    cases hsk : s c k
    · rw [Bool.and_false, Bool.and_false]
    · rw [h hsk, Bool.and_true]
  have s1 := cq_split G (fun k => w c k) l
  have s2 := cq_split (fun k => G k && w c k) (fun k => s c k) l
  have b := cq_le G l
  rw [e3] at s2
  unfold gtF ipF
  rw [if_pos rfl, if_neg (by decide), if_pos rfl, if_neg (by decide), if_neg (by decide), at_in hc (by decide), at_in hc (by decide), h1, h2, h3, io_sub (by omega), io_sub (by omega), imx_n (by omega) (by omega), imx_n (by omega) (by omega), e0, e1, e2]
  unfold mx3
  exact congrArg Int32.ofNat (by omega)
section
variable {N : Nat} {X : ez_X} {I A : Nat → Nat → Int32} {J B : Nat → Nat → Int64} {R : Nat → Nat} {T : List ez_C} {L : List ly_t} {n m nc a b : Nat} {f o : Nat → Int32} {q : Nat → Nat} {x y v : Int32} {z : Int64}
theorem pe_kcell (hW : kw I J L n f nc) (g0 : rowT (R 0) T n f) {k : Nat} (hk : k < L.length) (hx : x = Int32.ofNat k) : pe N X 137 [.ref 6, .int x] (ev_hp I J R T) (fun r h => r = some (.long (ly_w I J (L.getD k (0, 0, 0)))) ∧ h = ev_hp I J R T) := by
  subst hx
  obtain ⟨-, g4, g5, g6, hns, hb, hin, -⟩ := hW
  have hm := List.getElem_mem hk
  obtain ⟨b0, b1, b2⟩ := hb _ hm
  rw [ly_gd hk]
  exact pe_cellsOf (t := L[k]) g0 g5 (by rw [at_k (by omega) g5, g6 k hk]) hns b0 b1 b2 (hin _ hm)
theorem pe_sinkIn (hW : kw I J L n f nc) (g0 : rowT (R 0) T n f) {k : Nat} (hk : k < L.length) (hx : x = Int32.ofNat k) : pe N X 68 [.ref 22, .int x, .long z] (ev_hp I J R T) (fun r h => r = some (.long (snk I J (L.getD k (0, 0, 0)) z)) ∧ h = ev_hp I J R T) := by
  subst hx
  obtain ⟨-, g4, g5, g6, hns, hb, hin, -⟩ := hW
  have hm := List.getElem_mem hk
  obtain ⟨b0, b1, b2⟩ := hb _ hm
  rw [ly_gd hk]
  refine pe_of (pw_p (si_0 ?_))
  rw [show ev_at 3 (I 2) (1 : Int32) = I 2 1 from at_in (j := 1) (by decide) (by decide)]
  unfold snk
  refine ⟨fun g => ⟨_, pe_code g0 g5, ?_⟩, fun g => ⟨?_, rfl⟩⟩
  · rw [if_neg g]
    rintro r h ⟨rfl, rfl⟩
    rw [at_k (by omega) g5, g6 k hk]
    refine pw_p (si_21 (pw_p (si_29 ⟨fun z => absurd z (by decide), fun _ => ⟨_, pe_cellsIn (t := L[k]) (s := 0) rfl hns b0 b1 b2 (by decide) (hin _ hm 0), ?_⟩⟩)))
    rintro r h ⟨rfl, rfl⟩
    refine pw_p (si_48 (pw_p (si_29 ⟨fun z => absurd z (by decide), fun _ => ⟨_, pe_cellsIn (t := L[k]) (s := 1) rfl hns b0 b1 b2 (by decide) (hin _ hm 1), ?_⟩⟩)))
    rintro r h ⟨rfl, rfl⟩
    refine pw_p (si_48 (pw_p (si_29 ⟨fun z => absurd z (by decide), fun _ => ⟨_, pe_cellsIn (t := L[k]) (s := 2) rfl hns b0 b1 b2 (by decide) (hin _ hm 2), ?_⟩⟩)))
    rintro r h ⟨rfl, rfl⟩
    exact pw_p (si_48 (pw_p (si_29 ⟨fun _ => ⟨rfl, rfl⟩, fun z => absurd (by decide) z⟩)))
  · rw [if_pos (Classical.not_not.mp g)]
theorem ush_0 (u : Int64) {c : Nat} (hc : c < 64) : ((u.toUInt64 >>> ((Int32.ofNat c).toInt64.toUInt64 &&& Int64.toUInt64 63)).toInt64 &&& (1 : Int64) = 0) ↔ kb u c = false := by
  rw [kb_and0, kb_ushr _ hc]
  exact Iff.rfl
theorem pe_answerOf (hW : kw I J L n f nc) (g0 : rowT (R 0) T n f) {k c : Nat} (hk : k < L.length) (hc : c < 64) (hx : x = Int32.ofNat k) (hy : y = Int32.ofNat c) : pe N X 58 [.ref 22, .int x, .int y, .long z] (ev_hp I J R T) (fun r h => r = some (.int (Int32.ofNat (anL I J L z c k))) ∧ h = ev_hp I J R T) := by
  subst hy
  refine pe_of (pw_p (aw_0 ⟨_, pe_kcell hW g0 hk hx, ?_⟩))
  rintro r h ⟨rfl, rfl⟩
  unfold anL
  refine pw_p (aw_8 ?_)
  rw [lg_eq, ush_0 _ hc]
  refine ⟨fun g => ⟨_, pe_sinkIn hW g0 hk hx, ?_⟩, fun g => ⟨?_, rfl⟩⟩
  · have g : kb (ly_w I J (L.getD k (0, 0, 0))) c = true := by
      cases hb : kb (ly_w I J (L.getD k (0, 0, 0))) c
      · exact absurd hb g
      · rfl
    rintro r h ⟨rfl, rfl⟩
    rw [g]
    refine pw_p (aw_25 ?_)
    rw [lg_eq, ush_0 _ hc]
    refine ⟨fun g2 => ⟨?_, rfl⟩, fun g2 => ⟨?_, rfl⟩⟩
    · cases hb : kb (snk I J (L.getD k (0, 0, 0)) z) c
      · exact absurd hb g2
      · rfl
    · rw [Classical.not_not.mp g2]
      rfl
  · rw [Classical.not_not.mp g]
    rfl
theorem pe_bestCell3 {M : Nat → Nat} (hM : ∀ c, c < nc → gtF (I 23) (I 24) (I 25) (Int32.ofNat c) = Int32.ofNat (M c) ∧ M c ≤ 10000) (h0 : 0 < nc) (hn : nc ≤ 36) (hx : x = Int32.ofNat nc) : pe N X 157 [.ref 23, .int x] (ev_hp I J R T) (fun r h => r = some (.int (Int32.ofNat (bN M nc))) ∧ h = ev_hp I J R T) := by
  subst hx
  have loop : ∀ (d c : Nat), c + d = nc → 0 < c → ∀ N, pw N X 157 4 [.ref 23, .int (Int32.ofNat nc), .int (Int32.ofNat (bN M c)), .int (Int32.ofNat c)] [] (ev_hp I J R T) (fun r h => r = some (.int (Int32.ofNat (bN M nc))) ∧ h = ev_hp I J R T) := by
    intro d
    induction d with
    | zero =>
      intro c hc _ N
      obtain rfl : c = nc := by omega
      exact pw_p (be3_4 ⟨fun _ => ⟨rfl, rfl⟩, fun g => absurd (Int32.le_refl _) g⟩)
    | succ d ih =>
      intro c hcd hc0 N
      have hb := bN_lt M c hc0
      have e : bN M (c + 1) = if M c < M (bN M c) then c else bN M c := rfl
      have h5 := fun N => ih (c + 1) (by omega) (by omega) N
      rw [e] at h5
      obtain ⟨m1, m2⟩ := hM c (by omega)
      obtain ⟨m3, m4⟩ := hM (bN M c) (by omega)
      refine pw_p (be3_4 ?_)
      rw [m1, m3, io_1, io_le (by omega) (by omega), io_le (by omega) (by omega)]
      refine ⟨fun g => absurd g (by omega), fun _ => ⟨fun g => ?_, fun g => ?_⟩⟩
      · rw [if_neg (by omega)] at h5
        exact h5 _
      · rw [if_pos (by omega)] at h5
        exact h5 _
  refine pe_of (pw_p (be3_0 ?_))
  have e1 : bN M 1 = 0 := by
    show (if M 0 < M 0 then 0 else 0) = 0
    split <;> rfl
  have h5 := loop (nc - 1) 1 (by omega) (by omega) N
  rw [e1] at h5
  exact h5
/-- but for the tally -/
noncomputable def kt3 (I A : Nat → Nat → Int32) : Prop := ∀ w, w ≠ 23 → w ≠ 24 → w ≠ 25 → A w = I w
theorem kt_ko (h : kt3 I A) : ko I A := fun a _ h2 h3 h4 _ _ => h a h2 h3 h4
theorem pe_chosen (hW : kw I J L n f nc) (g0 : rowT (R 0) T n f) (r4 : rowT (R 4) T m o) (hm : L.length ≤ m ∧ m ≤ 10000) (hq : ord q L.length) (ho : ∀ i, i < L.length → o i = Int32.ofNat (q i)) (hab : a ≤ b) (hb : b ≤ L.length) (hx : x = Int32.ofNat a) (hy : y = Int32.ofNat b) : pe N X 61 [.ref 22, .int x, .int y, .long z] (ev_hp I J R T) (fun r h => r = some (.int (if spl (anL I J L) (seg q a b) L.length nc z = true then Int32.ofNat (bst (anL I J L) (seg q a b) L.length nc z) else -1)) ∧ ∃ A, h = ev_hp A J R T ∧ kt3 I A) := by
  subst hx hy
  have hW0 := hW
  obtain ⟨-, g4, g5, -, -, -, -, h16, hnc, hon⟩ := hW
  have hsz := seg_sz hq hb hab
  refine pe_of (pw_p (co_0 ?_))
  rw [io_sub hab, show (2 : Int32) = Int32.ofNat 2 from rfl, io_le (by omega) (by omega)]
  refine ⟨fun g => ⟨_, pe_tclear3, ?_⟩, fun g => ⟨?_, I, rfl, fun _ _ _ _ => rfl⟩⟩
  rotate_left
  · rw [spl_few anL_2 (by omega)]
    rfl
  rintro r h ⟨rfl, A, rfl, a1, a2, a3⟩
  refine pw_p (co_16 ?_)
  have ez : ∀ (p : Nat → Bool) j, cq p (j + 1) = cq p j + (bif p j then 1 else 0) := fun _ _ => rfl
  have loop : ∀ (d j : Nat), j + d = b - a → ∀ A, kt3 I A → A 23 2 = Int32.ofNat j → (∀ c, c < 36 → A 24 c = Int32.ofNat (cq (fun t => kb (ly_w I J (L.getD (q (a + t)) (0, 0, 0))) c) j) ∧ A 25 c = Int32.ofNat (cq (fun t => kb (snk I J (L.getD (q (a + t)) (0, 0, 0)) z) c) j)) → ∀ N, pw N X 61 19 [.ref 22, .int (Int32.ofNat a), .int (Int32.ofNat b), .long z, ez_fill, .int (Int32.ofNat (a + j))] [] (ev_hp A J R T) (fun r h => r = some (.int (if spl (anL I J L) (seg q a b) L.length nc z = true then Int32.ofNat (bst (anL I J L) (seg q a b) L.length nc z) else -1)) ∧ ∃ A, h = ev_hp A J R T ∧ kt3 I A) := by
    intro d
    induction d with
    | zero =>
      intro j hj A hA h23 h2 N
      obtain rfl : j = b - a := by omega
      have hgt : ∀ c, c < nc → gtF (A 23) (A 24) (A 25) (Int32.ofNat c) = Int32.ofNat (mst (anL I J L) (seg q a b) L.length z c) ∧ mst (anL I J L) (seg q a b) L.length z c ≤ 10000 := fun c hc => by
        refine ⟨gt_k (I := I) (J := I) (w := fun c k => kb (ly_w I J (L.getD k (0, 0, 0))) c) (s := fun c k => kb (snk I J (L.getD k (0, 0, 0)) z) c) (G := seg q a b) (an := anL I J L z) (l := L.length) (by omega) (by omega) (fun k _ => rfl) (fun k _ hs => snk_w hs) ?_ ?_ ?_, ?_⟩
        · rw [h23, hsz]
        · rw [(h2 c (by omega)).1, ← seg_cq (p := fun k => kb (ly_w I J (L.getD k (0, 0, 0))) c) hq hb hab]
        · rw [(h2 c (by omega)).2, ← seg_cq (p := fun k => kb (snk I J (L.getD k (0, 0, 0)) z) c) hq hb hab]
        · have := mst_le (an := anL I J L) (G := seg q a b) (l := L.length) (z := z) anL_2 c
          have := cq_le (seg q a b) L.length
          omega
      refine pw_p (co_19 ⟨fun _ => ⟨_, pe_bestCell3 (M := mst (anL I J L) (seg q a b) L.length z) hgt (by omega) hnc.2 (by rw [hA 1 (by decide) (by decide) (by decide)]; exact h16), ?_⟩, fun g => ?_⟩)
      · rintro r h ⟨rfl, rfl⟩
        have hbl := bN_lt (mst (anL I J L) (seg q a b) L.length z) nc (by omega)
        obtain ⟨m1, m2⟩ := hgt _ hbl
        refine pw_p (co_79 ?_)
        rw [m1, io_sub hab, io_le (by omega) (by omega)]
        have es : spl (anL I J L) (seg q a b) L.length nc z = decide (mst (anL I J L) (seg q a b) L.length z (bN (mst (anL I J L) (seg q a b) L.length z) nc) < b - a) := by
          rw [← hsz]
          rfl
        rw [es]
        refine ⟨fun g => ⟨?_, A, rfl, hA⟩, fun g => ⟨?_, A, rfl, hA⟩⟩
        · rw [decide_eq_false (by omega)]
          rfl
        · rw [decide_eq_true (by omega)]
          rfl
      · rw [io_le (by omega) (by omega)] at g
        omega
    | succ d ih =>
      intro j hjd A hA h23 h2 N
      have hWA := kw_c hW0 (kt_ko hA) kj_r
      have hk := hq.1 (a + j) (by omega)
      refine pw_p (co_19 ⟨fun g => ?_, fun _ => ⟨_, pe_atR r4 (by omega), ?_⟩⟩)
      · rw [io_le (by omega) (by omega)] at g
        omega
      rintro r h ⟨rfl, rfl⟩
      rw [at_in (show a + j < m by omega) (by omega), ho _ (by omega)]
      refine pw_p (co_34 ⟨_, pe_kcell hWA g0 hk rfl, ?_⟩)
      rintro r h ⟨rfl, rfl⟩
      refine pw_p (co_49 ⟨_, pe_sinkIn hWA g0 hk rfl, ?_⟩)
      rintro r h ⟨rfl, rfl⟩
      rw [(lys_k (kt_ko hA) kj_r).2, snk_c (kt_ko hA) kj_r]
      have hont : onp 36 (ly_w I J (L.getD (q (a + j)) (0, 0, 0))) := by
        rw [ly_gd hk]
        exact hon _ (List.getElem_mem hk)
      refine pw_p (co_56 ⟨_, pe_tadd3 hont (snk_on hont), ?_⟩)
      rintro r h ⟨rfl, A', rfl, b1, b2, b3⟩
      refine pw_p (co_59 ?_)
      rw [io_1]
      refine ih (j + 1) (by omega) A' (fun w h1 h2 h3 => (b1 w h1 h2 h3).trans (hA w h1 h2 h3)) ?_ (fun c hc => ?_) N
      · rw [b2, h23, io_1]
      · rw [ez, ez, (b3 c hc).1, (b3 c hc).2, (h2 c hc).1, (h2 c hc).2]
        constructor
        · cases kb (ly_w I J (L.getD (q (a + j)) (0, 0, 0))) c
          · exact Int32.add_zero _
          · exact io_1 _
        · cases kb (snk I J (L.getD (q (a + j)) (0, 0, 0)) z) c
          · exact Int32.add_zero _
          · exact io_1 _
  exact loop (b - a) 0 (by omega) A a1 a2 (fun c hc => ⟨(a3 c hc).1, (a3 c hc).2⟩) _
end
end
section
/-! The class: a group split. -/
/-! two places of a row changed about -/
noncomputable def sgx (i j x : Nat) : Nat := if x = j then i else if x = i then j else x
theorem sgx_j (i j : Nat) : sgx i j j = i := if_pos rfl
theorem sgx_i (i j : Nat) : sgx i j i = j := by
  unfold sgx
  by_cases h : i = j
  · rw [if_pos h]
    exact h
  · rw [if_neg h, if_pos rfl]
theorem sgx_n {i j x : Nat} (h1 : x ≠ i) (h2 : x ≠ j) : sgx i j x = x := by
  unfold sgx
  rw [if_neg h2, if_neg h1]
theorem sgx_sg (i j x : Nat) : sgx i j (sgx i j x) = x := by
  by_cases h1 : x = i
  · rw [h1, sgx_i, sgx_j]
  · by_cases h2 : x = j
    · rw [h2, sgx_j, sgx_i]
    · rw [sgx_n h1 h2, sgx_n h1 h2]
theorem sgx_in {i j x a b : Nat} (hi : a ≤ i ∧ i < b) (hj : a ≤ j ∧ j < b) (hx : a ≤ x ∧ x < b) : a ≤ sgx i j x ∧ sgx i j x < b := by
  by_cases h1 : x = i
  · rw [h1, sgx_i]
    exact hj
  · by_cases h2 : x = j
    · rw [h2, sgx_j]
      exact hi
    · rw [sgx_n h1 h2]
      exact hx
noncomputable def qsw (q : Nat → Nat) (i j x : Nat) : Nat := q (sgx i j x)
theorem ord_sw {q : Nat → Nat} {l i j : Nat} (h : ord q l) (hi : i < l) (hj : j < l) : ord (qsw q i j) l := by
  have hin : ∀ x, x < l → sgx i j x < l := fun x hx => (sgx_in (a := 0) ⟨Nat.zero_le _, hi⟩ ⟨Nat.zero_le _, hj⟩ ⟨Nat.zero_le _, hx⟩).2
  refine ⟨fun x hx => h.1 _ (hin x hx), fun x y hx hy e => ?_, fun k hk => ?_⟩
  · have e2 := h.2.1 _ _ (hin x hx) (hin y hy) e
    have e3 := congrArg (sgx i j) e2
    rw [sgx_sg, sgx_sg] at e3
    exact e3
  · obtain ⟨x, x1, x2⟩ := h.2.2 k hk
    refine ⟨sgx i j x, hin x x1, ?_⟩
    show q (sgx i j (sgx i j x)) = k
    rw [sgx_sg]
    exact x2
theorem seg_sw {q : Nat → Nat} {a b i j : Nat} (hi : a ≤ i ∧ i < b) (hj : a ≤ j ∧ j < b) : seg (qsw q i j) a b = seg q a b := funext fun k => Bool.eq_iff_iff.mpr (by
  rw [seg_iff, seg_iff]
  constructor
  · rintro ⟨x, x1, x2, x3⟩
    have h := sgx_in hi hj ⟨x1, x2⟩
    exact ⟨sgx i j x, h.1, h.2, x3⟩
  · rintro ⟨x, x1, x2, x3⟩
    have h := sgx_in hi hj ⟨x1, x2⟩
    refine ⟨sgx i j x, h.1, h.2, ?_⟩
    show q (sgx i j (sgx i j x)) = k
    rw [sgx_sg]
    exact x3)
/-- gathered so far -/
noncomputable def gqi (an : Nat → Nat) (v a b l : Nat) (q q' : Nat → Nat) (t i : Nat) : Prop := ord q' l ∧ (a ≤ t ∧ t ≤ i ∧ i ≤ b) ∧ (∀ x, x < a ∨ b ≤ x → q' x = q x) ∧ seg q' a b = seg q a b ∧ (∀ x, a ≤ x → x < t → an (q' x) = v) ∧ ∀ x, t ≤ x → x < i → ¬ an (q' x) = v
theorem gqi_no {an : Nat → Nat} {v a b l : Nat} {q q' : Nat → Nat} {t i : Nat} (h : gqi an v a b l q q' t i) (hi : i < b) (hv : ¬ an (q' i) = v) : gqi an v a b l q q' t (i + 1) := by
  obtain ⟨h1, h2, h3, h4, h5, h6⟩ := h
  refine ⟨h1, by omega, h3, h4, h5, fun x x1 x2 => ?_⟩
  by_cases e : x = i
  · rw [e]
    exact hv
  · exact h6 x x1 (by omega)
theorem gqi_yes {an : Nat → Nat} {v a b l : Nat} {q q' : Nat → Nat} {t i : Nat} (h : gqi an v a b l q q' t i) (hi : i < b) (hbl : b ≤ l) (hv : an (q' i) = v) : gqi an v a b l q (qsw q' i t) (t + 1) (i + 1) := by
  obtain ⟨h1, h2, h3, h4, h5, h6⟩ := h
  refine ⟨ord_sw h1 (by omega) (by omega), by omega, fun x hx => ?_, ?_, fun x x1 x2 => ?_, fun x x1 x2 => ?_⟩
  · show q' (sgx i t x) = q x
    rw [sgx_n (by omega) (by omega)]
    exact h3 x hx
  · rw [seg_sw ⟨by omega, hi⟩ ⟨by omega, by omega⟩]
    exact h4
  · show an (q' (sgx i t x)) = v
    by_cases e : x = t
    · rw [e, sgx_j]
      exact hv
    · rw [sgx_n (by omega) e]
      exact h5 x x1 (by omega)
  · show ¬ an (q' (sgx i t x)) = v
    by_cases e : x = i
    · rw [e, sgx_i]
      exact h6 t (Nat.le_refl _) (by omega)
    · rw [sgx_n e (by omega)]
      exact h6 x (by omega) (by omega)
section
variable {N : Nat} {X : ez_X} {I A : Nat → Nat → Int32} {J B : Nat → Nat → Int64} {R : Nat → Nat} {T : List ez_C} {L : List ly_t} {n m nc a b : Nat} {f o : Nat → Int32} {q : Nat → Nat} {x y v w0 : Int32} {z : Int64}
theorem pe_swap {p i j : Nat} (h : rowT p T m o) (hm : m ≤ 10000) (hi : i < m) (hj : j < m) (hx : x = Int32.ofNat i) (hy : y = Int32.ofNat j) : pe N X 49 [.ref p, .int x, .int y] (ev_hp I J R T) (fun r h => r = none ∧ ∃ T', h = ev_hp I J R T' ∧ rowT p T' m (upd (upd o i (o j)) j (o i)) ∧ keepT p T T') := by
  subst hx hy
  refine pe_of (pw_p (sp_0 ⟨_, pe_atR h (by omega), ?_⟩))
  rintro r h' ⟨rfl, rfl⟩
  rw [at_in hi (by omega)]
  refine pw_p (sp_5 ⟨_, pe_atR h (by omega), ?_⟩)
  rintro r h' ⟨rfl, rfl⟩
  rw [at_in hj (by omega)]
  refine pw_p (sp_13 ⟨_, pe_putR h (by omega), ?_⟩)
  rintro r h' ⟨rfl, T1, rfl, w1, k1⟩
  rw [put_in hi (by omega)] at w1
  refine pw_p (sp_16 ⟨_, pe_putR w1 (by omega), ?_⟩)
  rintro r h' ⟨rfl, T2, rfl, w2, k2⟩
  rw [put_in hj (by omega)] at w2
  exact pw_p (sp_22 ⟨rfl, T2, rfl, w2, keepT_t k1 k2⟩)
noncomputable def ga_Q (an : Nat → Nat) (v a b l m : Nat) (q : Nat → Nat) (I : Nat → Nat → Int32) (J : Nat → Nat → Int64) (R : Nat → Nat) (T : List ez_C) : pw_Q := fun r h => ∃ t q' o' T', r = some (.int (Int32.ofNat t)) ∧ h = ev_hp I J R T' ∧ keepT (R 4) T T' ∧ rowT (R 4) T' m o' ∧ (∀ i, i < l → o' i = Int32.ofNat (q' i)) ∧ gqi an v a b l q q' t b
theorem pe_gathered {c u : Nat} (hW : kw I J L n f nc) (ne : R 0 ≠ R 4) (g0 : rowT (R 0) T n f) (r4 : rowT (R 4) T m o) (hm : L.length ≤ m ∧ m ≤ 10000) (hq : ord q L.length) (ho : ∀ i, i < L.length → o i = Int32.ofNat (q i)) (hab : a ≤ b) (hb : b ≤ L.length) (hc : c < 64) (hu : u ≤ 2) (hx : x = Int32.ofNat a) (hy : y = Int32.ofNat b) (hv : v = Int32.ofNat c) (hw : w0 = Int32.ofNat u) : pe N X 63 [.ref 22, .int x, .int y, .int v, .long z, .int w0] (ev_hp I J R T) (ga_Q (anL I J L z c) u a b L.length m q I J R T) := by
  subst hx hy hv hw
  have loop : ∀ (d i : Nat), i + d = b → ∀ (T1 : List ez_C) (o1 : Nat → Int32) (q1 : Nat → Nat) (t : Nat), keepT (R 4) T T1 → rowT (R 4) T1 m o1 → (∀ i, i < L.length → o1 i = Int32.ofNat (q1 i)) → gqi (anL I J L z c) u a b L.length q q1 t i → ∀ N, pw N X 63 6 [.ref 22, .int (Int32.ofNat a), .int (Int32.ofNat b), .int (Int32.ofNat c), .long z, ez_fill, .int (Int32.ofNat u), .int (Int32.ofNat t), .int (Int32.ofNat i)] [] (ev_hp I J R T1) (ga_Q (anL I J L z c) u a b L.length m q I J R T) := by
    intro d
    induction d with
    | zero =>
      intro i hi T1 o1 q1 t hk h4 ho1 hg N
      obtain rfl : i = b := by omega
      exact pw_p (ga_6 ⟨fun _ => ⟨t, q1, o1, T1, rfl, rfl, hk, h4, ho1, hg⟩, fun g => absurd (Int32.le_refl _) g⟩)
    | succ d ih =>
      intro i hid T1 o1 q1 t hk h4 ho1 hg N
      have g1 : rowT (R 0) T1 n f := rowT_keep g0 ne hk
      have hkl := hg.1.1 i (by omega)
      have han := anL_2 (I := I) (J := J) (L := L) z c (q1 i)
      have ht := hg.2.1
      refine pw_p (ga_6 ⟨fun g => ?_, fun _ => ⟨_, pe_atR h4 (by omega), ?_⟩⟩)
      · rw [io_le (by omega) (by omega)] at g
        omega
      rintro r h ⟨rfl, rfl⟩
      rw [at_in (show i < m by omega) (by omega), ho1 i (by omega)]
      refine pw_p (ga_22 ⟨_, pe_answerOf hW g1 hkl hc rfl rfl, ?_⟩)
      rintro r h ⟨rfl, rfl⟩
      refine pw_p (ga_28 ?_)
      rw [io_eq (by omega) (by omega)]
      refine ⟨fun g => ?_, fun g => ?_⟩
      · rw [io_1]
        exact ih (i + 1) (by omega) T1 o1 q1 t hk h4 ho1 (gqi_no hg (by omega) g) _
      · have g := Classical.not_not.mp g
        refine ⟨_, pe_swap (i := i) (j := t) h4 hm.2 (by omega) (by omega) rfl rfl, ?_⟩
        rintro r h ⟨rfl, T2, rfl, w2, k2⟩
        refine pw_p (ga_44 ?_)
        rw [io_1, io_1]
        refine ih (i + 1) (by omega) T2 _ (qsw q1 i t) (t + 1) (keepT_t hk k2) w2 (fun s hs => ?_) (gqi_yes hg (by omega) hb g) _
        show upd (upd o1 i (o1 t)) t (o1 i) s = Int32.ofNat (q1 (sgx i t s))
        by_cases e1 : s = t
        · rw [e1, upd_s, sgx_j]
          exact ho1 i (by omega)
        · rw [upd_n _ _ e1]
          by_cases e2 : s = i
          · rw [e2, upd_s, sgx_i]
            exact ho1 t (by omega)
          · rw [upd_n _ _ e2, sgx_n e2 e1]
            exact ho1 s hs
  refine pe_of (pw_p (ga_0 (loop (b - a) a (by omega) T o q a (keepT_r _ _) r4 ho ⟨hq, by omega, fun _ _ => rfl, rfl, fun x x1 x2 => absurd x2 (by omega), fun x x1 x2 => absurd x2 (by omega)⟩ _)))
/-- a group begins -/
theorem pe_begin (ha : a ≤ 400) (hb : b ≤ 400) (hx : x = Int32.ofNat a) (hy : y = Int32.ofNat b) : pe N X 59 [.ref 22, .int x, .int y] (ev_hp I J R T) (fun r h => r = none ∧ ∃ F, h = ev_hp (ev_sI I 27 F) J R T ∧ (a < b → F a = Int32.ofNat b) ∧ ∀ i, (i ≠ a ∨ ¬ a < b) → F i = I 27 i) := by
  subst hx hy
  refine pe_of (pw_p (bg_0 ?_))
  rw [io_le (by omega) (by omega)]
  refine ⟨fun g => ⟨rfl, I 27, by rw [sI_self], fun z => absurd z (by omega), fun _ _ => rfl⟩, fun g => ?_⟩
  rw [put_in (by omega) (by decide)]
  refine ⟨rfl, _, rfl, fun _ => upd_s _ _ _, fun i hi => ?_⟩
  rcases hi with hi | hi
  · exact upd_n _ _ hi
  · exact absurd (show a < b by omega) hi
/-- a group split in three -/
noncomputable def sp3 (an : Nat → Nat) (a b l : Nat) (q q' : Nat → Nat) (s1 s2 : Nat) : Prop := ord q' l ∧ (a ≤ s1 ∧ s1 ≤ s2 ∧ s2 ≤ b) ∧ (∀ x, x < a ∨ b ≤ x → q' x = q x) ∧ seg q' a b = seg q a b ∧ (∀ x, a ≤ x → x < s1 → an (q' x) = 0) ∧ (∀ x, s1 ≤ x → x < s2 → an (q' x) = 1) ∧ ∀ x, s2 ≤ x → x < b → an (q' x) = 2
theorem seg_in2 {q q1 : Nat → Nat} {a s b : Nat} (has : a ≤ s) (h : seg q1 s b = seg q s b) (he : ∀ x, x < s → q1 x = q x) : seg q1 a b = seg q a b := funext fun k => Bool.eq_iff_iff.mpr (by
  rw [seg_iff, seg_iff]
  have hk : (∃ i, s ≤ i ∧ i < b ∧ q1 i = k) ↔ ∃ i, s ≤ i ∧ i < b ∧ q i = k := by
    rw [← seg_iff, ← seg_iff, h]
  constructor
  · rintro ⟨x, x1, x2, x3⟩
    by_cases e : x < s
    · exact ⟨x, x1, x2, by rw [← he x e]; exact x3⟩
    · obtain ⟨y, y1, y2, y3⟩ := hk.mp ⟨x, by omega, x2, x3⟩
      exact ⟨y, by omega, y2, y3⟩
  · rintro ⟨x, x1, x2, x3⟩
    by_cases e : x < s
    · exact ⟨x, x1, x2, by rw [he x e]; exact x3⟩
    · obtain ⟨y, y1, y2, y3⟩ := hk.mpr ⟨x, by omega, x2, x3⟩
      exact ⟨y, by omega, y2, y3⟩)
theorem sp3_of {an : Nat → Nat} {l s1 s2 : Nat} {q1 q2 : Nat → Nat} (h2 : ∀ k, an k ≤ 2) (g1 : gqi an 0 a b l q q1 s1 b) (g2 : gqi an 1 s1 b l q1 q2 s2 b) : sp3 an a b l q q2 s1 s2 := by
  obtain ⟨a1, a2, a3, a4, a5, a6⟩ := g1
  obtain ⟨b1, b2, b3, b4, b5, b6⟩ := g2
  refine ⟨b1, by omega, fun x hx => ?_, ?_, fun x x1 x2 => ?_, fun x x1 x2 => b5 x x1 x2, fun x x1 x2 => ?_⟩
  · rw [b3 x (by omega)]
    exact a3 x hx
  · rw [seg_in2 a2.1 b4 (fun x hx => b3 x (Or.inl hx))]
    exact a4
  · rw [b3 x (Or.inl x2)]
    exact a5 x x1 x2
  · have h3 := b6 x x1 x2
    have h4 : ¬ an (q2 x) = 0 := by
      have hs : seg q2 s1 b (q2 x) = true := seg_in (by omega) x2
      rw [b4] at hs
      obtain ⟨y, y1, y2, y3⟩ := seg_iff.mp hs
      rw [← y3]
      exact a6 y y1 y2
    have := h2 (q2 x)
    omega
noncomputable def st_Q (I : Nat → Nat → Int32) (J : Nat → Nat → Int64) (R : Nat → Nat) (T : List ez_C) (L : List ly_t) (nc m a b : Nat) (q : Nat → Nat) (z : Int64) : pw_Q := fun r h => (spl (anL I J L) (seg q a b) L.length nc z = false ∧ r = some (.int 0) ∧ ∃ A, h = ev_hp A J R T ∧ kt3 I A) ∨ (spl (anL I J L) (seg q a b) L.length nc z = true ∧ r = some (.int 1) ∧ ∃ A B T' q' o' s1 s2, h = ev_hp A B R T' ∧ keepT (R 4) T T' ∧ rowT (R 4) T' m o' ∧ (∀ i, i < L.length → o' i = Int32.ofNat (q' i)) ∧ sp3 (anL I J L z (bst (anL I J L) (seg q a b) L.length nc z)) a b L.length q q' s1 s2 ∧ (∀ w, w ≠ 23 → w ≠ 24 → w ≠ 25 → w ≠ 27 → w ≠ 28 → A w = I w) ∧ (∀ w, w ≠ 29 → B w = J w) ∧ (∀ k, k < L.length → A 28 k = (if seg q a b k = true then I 28 k + 1 else I 28 k) ∧ B 29 k = if seg q a b k = true then z ||| cell1 (bst (anL I J L) (seg q a b) L.length nc z) else J 29 k) ∧ (a < s1 → A 27 a = Int32.ofNat s1) ∧ (s1 < s2 → A 27 s1 = Int32.ofNat s2) ∧ (s2 < b → A 27 s2 = Int32.ofNat b) ∧ ∀ i, i < a ∨ b ≤ i → A 27 i = I 27 i)
theorem pe_split (hW : kw I J L n f nc) (ne : R 0 ≠ R 4) (g0 : rowT (R 0) T n f) (r4 : rowT (R 4) T m o) (hm : L.length ≤ m ∧ m ≤ 10000) (hl : L.length ≤ 400) (hq : ord q L.length) (ho : ∀ i, i < L.length → o i = Int32.ofNat (q i)) (hab : a < b) (hb : b ≤ L.length) (hz : J 29 (q a) = z) (hx : x = Int32.ofNat a) (hy : y = Int32.ofNat b) : pe N X 69 [.ref 22, .int x, .int y] (ev_hp I J R T) (st_Q I J R T L nc m a b q z) := by
  subst hx hy
  have hnc := hW.2.2.2.2.2.2.2.2.1
  have hqa := hq.1 a (by omega)
  refine pe_of (pw_p (su9_0 ⟨_, pe_atR r4 (by omega), ?_⟩))
  rintro r h ⟨rfl, rfl⟩
  rw [at_in (show a < m by omega) (by omega), ho a (by omega)]
  refine pw_p (su9_12 ?_)
  rw [atJ_in (show q a < 400 by omega) (by decide), hz]
  refine ⟨_, pe_chosen hW g0 r4 hm hq ho (by omega) hb rfl rfl, ?_⟩
  rintro r h ⟨rfl, A, rfl, hA⟩
  have hbl : bst (anL I J L) (seg q a b) L.length nc z < nc := bN_lt _ nc (by omega)
  by_cases hs : spl (anL I J L) (seg q a b) L.length nc z = true
  rotate_left
  · rw [if_neg hs]
    refine pw_p (su9_23 ⟨fun g => absurd rfl g, fun _ _ => Or.inl ⟨Bool.eq_false_iff.mpr hs, rfl, A, rfl, hA⟩⟩)
  · rw [if_pos hs]
    have hst : st_Q I J R T L nc m a b q z = st_Q I J R T L nc m a b q z := rfl
    unfold st_Q at hst ⊢
    generalize hcE : bst (anL I J L) (seg q a b) L.length nc z = c at hbl ⊢
    have hnm : ¬ Int32.ofNat c = -1 := fun e => by
      have e2 := congrArg Int32.toInt e
      rw [io_ti (by omega), show ((-1 : Int32)).toInt = -1 from by decide] at e2
      omega
    have hWA := kw_c hW (kt_ko hA) kj_r
    have eA : anL A J L = anL I J L := anL_c (kt_ko hA) kj_r
    refine pw_p (su9_23 ⟨fun _ => ⟨_, pe_gathered (c := c) (u := 0) hWA ne g0 r4 hm hq ho (by omega) hb (by omega) (by decide) rfl rfl rfl rfl, ?_⟩, fun g => absurd hnm g⟩)
    rw [eA]
    rintro r h ⟨s1, q1, o1, T1, rfl, rfl, k1, w1, ho1, G1⟩
    have g1 : rowT (R 0) T1 n f := rowT_keep g0 ne k1
    have hs1 := G1.2.1
    refine pw_p (su9_43 ⟨_, pe_gathered (c := c) (u := 1) hWA ne g1 w1 hm G1.1 ho1 (by omega) hb (by omega) (by decide) rfl rfl rfl rfl, ?_⟩)
    rw [eA]
    rintro r h ⟨s2, q2, o2, T2, rfl, rfl, k2, w2, ho2, G2⟩
    have hs2 := G2.2.1
    have S := sp3_of (anL_2 z c) G1 G2
    obtain ⟨S1, S2, S3, S4, S5, S6, S7⟩ := S
    refine pw_p (su9_56 ?_)
    have loop : ∀ (d i : Nat), i + d = b → a ≤ i → ∀ A2 B2, (∀ w, w ≠ 23 → w ≠ 24 → w ≠ 25 → w ≠ 28 → A2 w = I w) → (∀ w, w ≠ 29 → B2 w = J w) → (∀ k, k < L.length → A2 28 k = (if seg q2 a i k = true then I 28 k + 1 else I 28 k) ∧ B2 29 k = if seg q2 a i k = true then z ||| cell1 c else J 29 k) → ∀ N, pw N X 69 61 [.ref 22, .int (Int32.ofNat a), .int (Int32.ofNat b), .long z, ez_fill, .int (Int32.ofNat c), .int (Int32.ofNat s1), .int (Int32.ofNat s2), .int (Int32.ofNat i)] [] (ev_hp A2 B2 R T2) (fun r h => (spl (anL I J L) (seg q a b) L.length nc z = false ∧ r = some (.int 0) ∧ ∃ A, h = ev_hp A J R T ∧ kt3 I A) ∨ (spl (anL I J L) (seg q a b) L.length nc z = true ∧ r = some (.int 1) ∧ ∃ A B T' q' o' s1 s2, h = ev_hp A B R T' ∧ keepT (R 4) T T' ∧ rowT (R 4) T' m o' ∧ (∀ i, i < L.length → o' i = Int32.ofNat (q' i)) ∧ sp3 (anL I J L z c) a b L.length q q' s1 s2 ∧ (∀ w, w ≠ 23 → w ≠ 24 → w ≠ 25 → w ≠ 27 → w ≠ 28 → A w = I w) ∧ (∀ w, w ≠ 29 → B w = J w) ∧ (∀ k, k < L.length → A 28 k = (if seg q a b k = true then I 28 k + 1 else I 28 k) ∧ B 29 k = if seg q a b k = true then z ||| cell1 c else J 29 k) ∧ (a < s1 → A 27 a = Int32.ofNat s1) ∧ (s1 < s2 → A 27 s1 = Int32.ofNat s2) ∧ (s2 < b → A 27 s2 = Int32.ofNat b) ∧ ∀ i, i < a ∨ b ≤ i → A 27 i = I 27 i)) := by
      intro d
      induction d with
      | zero =>
        intro i hi hai A2 B2 hA2 hB2 hN N
        obtain rfl : i = b := by omega
        refine pw_p (su9_61 ⟨fun _ => ⟨_, pe_begin (a := a) (b := s1) (by omega) (by omega) rfl rfl, ?_⟩, fun g => absurd (Int32.le_refl _) g⟩)
        rintro r h ⟨rfl, F1, rfl, f1, f2⟩
        refine pw_p (su9_126 ⟨_, pe_begin (a := s1) (b := s2) (by omega) (by omega) rfl rfl, ?_⟩)
        rintro r h ⟨rfl, F2, rfl, f3, f4⟩
        rw [cx_sI_s] at f4
        refine pw_p (su9_134 ⟨_, pe_begin (a := s2) (b := i) (by omega) (by omega) rfl rfl, ?_⟩)
        rintro r h ⟨rfl, F3, rfl, f5, f6⟩
        rw [cx_sI_s] at f6
        refine pw_p (su9_141 fun _ => Or.inr ⟨hs, rfl, _, B2, T2, q2, o2, s1, s2, rfl, keepT_t k1 k2, w2, ho2, ⟨S1, S2, S3, S4, S5, S6, S7⟩, fun w x1 x2 x3 x4 x5 => ?_, hB2, fun k hk => ?_, fun g => ?_, fun g => ?_, fun g => ?_, fun s hs => ?_⟩)
        · rw [cx_sI_n _ _ x4, cx_sI_n _ _ x4, cx_sI_n _ _ x4]
          exact hA2 w x1 x2 x3 x5
        · rw [cx_sI_n _ _ (show (28 : Nat) ≠ 27 by decide), cx_sI_n _ _ (show (28 : Nat) ≠ 27 by decide), cx_sI_n _ _ (show (28 : Nat) ≠ 27 by decide), ← S4]
          exact hN k hk
        · rw [cx_sI_s, f6 a (Or.inl (by omega)), f4 a (Or.inl (by omega))]
          exact f1 g
        · rw [cx_sI_s, f6 s1 (Or.inl (by omega))]
          exact f3 g
        · rw [cx_sI_s]
          exact f5 g
        · have h1 : s ≠ a ∨ ¬ a < s1 := by omega
          have h2 : s ≠ s1 ∨ ¬ s1 < s2 := by omega
          have h3 : s ≠ s2 ∨ ¬ s2 < i := by omega
          rw [cx_sI_s, f6 s h3, f4 s h2, f2 s h1, hA2 27 (by decide) (by decide) (by decide) (by decide)]
      | succ d ih =>
        intro i hid hai A2 B2 hA2 hB2 hN N
        have hk := S1.1 i (by omega)
        have hno : seg q2 a i (q2 i) = false := seg_no S1 (by omega) (by omega) (Or.inr (Nat.le_refl _))
        obtain ⟨n1, n2⟩ := hN _ hk
        rw [hno, if_neg (by decide)] at n1 n2
        refine pw_p (su9_61 ⟨fun g => ?_, fun _ => ⟨_, pe_atR w2 (by omega), ?_⟩⟩)
        · rw [io_le (by omega) (by omega)] at g
          omega
        rintro r h ⟨rfl, rfl⟩
        rw [at_in (show i < m by omega) (by omega), ho2 i (by omega)]
        refine pw_p (su9_76 ?_)
        rw [at_in (show q2 i < 400 by omega) (by decide), put_in (show q2 i < 400 by omega) (by decide), putJ_in (show q2 i < 400 by omega) (by decide), n1, io_1]
        refine ih (i + 1) (by omega) (by omega) _ _ (fun w x1 x2 x3 x4 => ?_) (fun w x1 => ?_) (fun k hkl => ?_) _
        · rw [cx_sI_n _ _ x4]
          exact hA2 w x1 x2 x3 x4
        · rw [cx_sJ_n _ _ x1]
          exact hB2 w x1
        · rw [cx_sI_s, cx_sJ_s]
          by_cases e : k = q2 i
          · subst e
            rw [upd_s, pv_s, if_pos (seg_in hai (Nat.lt_succ_self i)), if_pos (seg_in hai (Nat.lt_succ_self i))]
            exact ⟨rfl, rfl⟩
          · have es : seg q2 a (i + 1) k = seg q2 a i k := Bool.eq_iff_iff.mpr (by
              rw [seg_iff, seg_iff]
              constructor
              · rintro ⟨j, j1, j2, j3⟩
                by_cases ej : j = i
                · subst ej
                  exact absurd j3.symm e
                · exact ⟨j, j1, by omega, j3⟩
              · rintro ⟨j, j1, j2, j3⟩
                exact ⟨j, j1, by omega, j3⟩)
            rw [upd_n _ _ e, pv_n _ _ e, es]
            exact hN k hkl
    refine loop (b - a) a (by omega) (Nat.le_refl _) A J (fun w x1 x2 x3 _ => hA w x1 x2 x3) (fun _ _ => rfl) (fun k hk => ?_) _
    have es : seg q2 a a k = false := by
      cases hs : seg q2 a a k
      · rfl
      · obtain ⟨j, j1, j2, -⟩ := seg_iff.mp hs
        omega
    rw [es, if_neg (by decide), if_neg (by decide), hA 28 (by decide) (by decide) (by decide)]
    exact ⟨rfl, rfl⟩
end
end
section
/-! The class: all needs. -/
theorem rowT_ap9 {p n : Nat} {f : Nat → Int32} {T : List ez_C} {x : ez_C} (h : rowT p T n f) : rowT p (T ++ [x]) n f := by
  rcases h with h | ⟨h1, h2⟩
  · exact Or.inl h
  · exact Or.inr ⟨h1, by rw [List.getElem?_append_left (List.getElem?_eq_some_iff.mp h2).1]; exact h2⟩
theorem rowT_lt {p n : Nat} {f : Nat → Int32} {T : List ez_C} (h : rowT p T n f) : p < 65 + T.length := by
  rcases h with ⟨-, t, h⟩ | ⟨h1, h2⟩
  · have := (List.getElem?_eq_some_iff.mp h).1
    have e2 : cx_Ds.length = 65 := rfl
    omega
  · have := (List.getElem?_eq_some_iff.mp h2).1
    omega
theorem rowT_kR {p n : Nat} {f : Nat → Int32} {R R' : Nat → Nat} {T T' : List ez_C} (h : rowT p T n f) (hp : p ≠ R 0) (hk : keepR R T R' T') : rowT p T' n f := by
  rcases h with h | ⟨h1, h2⟩
  · exact Or.inl h
  · refine Or.inr ⟨h1, ?_⟩
    rw [hk.2.2.2 (p - 65) (List.getElem?_eq_some_iff.mp h2).1 (by omega)]
    exact h2
/-- groups one behind the other, from a place to the end -/
noncomputable def gpg (an : Int64 → Nat → Nat → Nat) (l nc : Nat) (fin q : Nat → Nat) (D : Nat → Int32) (Z : Nat → Int64) (a b : Nat) : Prop := ∃ z, ∀ i, a ≤ i → i < b → Z (q i) = z ∧ ∃ d, D (q i) = Int32.ofNat d ∧ fin (q i) = d + nd an l nc (seg q a b) z (q i)
noncomputable def chn (an : Int64 → Nat → Nat → Nat) (l nc : Nat) (fin q : Nat → Nat) (D : Nat → Int32) (Z : Nat → Int64) (E : Nat → Int32) : Nat → Nat → Prop
  | 0, a => a = l
  | g + 1, a => ∃ b, E a = Int32.ofNat b ∧ a < b ∧ b ≤ l ∧ gpg an l nc fin q D Z a b ∧ chn an l nc fin q D Z E g b
theorem part_nxt {ank : Nat → Nat} {q : Nat → Nat} {a b x y v : Nat} (hx : a ≤ x) (hy : y ≤ b) (h1 : ∀ i, x ≤ i → i < y → ank (q i) = v) (h2 : ∀ i, a ≤ i → i < b → (i < x ∨ y ≤ i) → ¬ ank (q i) = v) : seg q x y = fun k => seg q a b k && decide (ank k = v) := funext fun k => Bool.eq_iff_iff.mpr (by
  rw [seg_iff, Bool.and_eq_true, seg_iff, decide_eq_true_iff]
  constructor
  · rintro ⟨i, i1, i2, i3⟩
    exact ⟨⟨i, by omega, by omega, i3⟩, by rw [← i3]; exact h1 i i1 i2⟩
  · rintro ⟨⟨i, i1, i2, i3⟩, h⟩
    have hn : ¬ (i < x ∨ y ≤ i) := fun z => h2 i i1 i2 z (by rw [i3]; exact h)
    exact ⟨i, by omega, by omega, i3⟩)
theorem seg_c {q q' : Nat → Nat} {a b : Nat} (h : ∀ i, a ≤ i → i < b → q' i = q i) : seg q' a b = seg q a b := funext fun k => Bool.eq_iff_iff.mpr (by
  rw [seg_iff, seg_iff]
  constructor
  · rintro ⟨i, i1, i2, i3⟩
    exact ⟨i, i1, i2, by rw [← h i i1 i2]; exact i3⟩
  · rintro ⟨i, i1, i2, i3⟩
    exact ⟨i, i1, i2, by rw [h i i1 i2]; exact i3⟩)
section
variable {an : Int64 → Nat → Nat → Nat} {l nc : Nat} {fin q q' : Nat → Nat} {D D' : Nat → Int32} {Z Z' : Nat → Int64} {E E' : Nat → Int32}
theorem chn_le : ∀ g a, chn an l nc fin q D Z E g a → g + a ≤ l := by
  intro g
  induction g with
  | zero =>
    intro a h
    have h : a = l := h
    omega
  | succ g ih =>
    rintro a ⟨b, h1, h2, h3, h4, h5⟩
    have := ih b h5
    omega
theorem chn_c : ∀ g a, (∀ i, a ≤ i → E' i = E i) → (∀ i, a ≤ i → i < l → q' i = q i ∧ D' (q i) = D (q i) ∧ Z' (q i) = Z (q i)) → chn an l nc fin q D Z E g a → chn an l nc fin q' D' Z' E' g a := by
  intro g
  induction g with
  | zero => exact fun a _ _ h => h
  | succ g ih =>
    rintro a he hq ⟨b, h1, h2, h3, ⟨z, hz⟩, h5⟩
    refine ⟨b, by rw [he a (Nat.le_refl _)]; exact h1, h2, h3, ⟨z, fun i i1 i2 => ?_⟩, ih b (fun i hi => he i (by omega)) (fun i hi => hq i (by omega)) h5⟩
    obtain ⟨e1, e2, e3⟩ := hq i i1 (by omega)
    obtain ⟨z1, d, z2, z3⟩ := hz i i1 i2
    rw [e1, e2, e3, seg_c (fun j j1 j2 => (hq j j1 (by omega)).1)]
    exact ⟨z1, d, z2, z3⟩
theorem chn_cons {x y g : Nat} (hxy : x ≤ y) (hy : y ≤ l) (hE : x < y → E x = Int32.ofNat y) (hg : x < y → gpg an l nc fin q D Z x y) (hc : chn an l nc fin q D Z E g y) : ∃ g', chn an l nc fin q D Z E g' x ∧ (x < y → g' = g + 1) ∧ (¬ x < y → g' = g) := by
  by_cases h : x < y
  · exact ⟨g + 1, ⟨y, hE h, h, hy, hg h, hc⟩, fun _ => rfl, fun z => absurd h z⟩
  · obtain rfl : x = y := by omega
    exact ⟨g, hc, fun z => absurd z h, fun _ => rfl⟩
theorem chn_split {a b c s1 s2 g : Nat} {z : Int64} (h2 : ∀ z c k, an z c k ≤ 2) (hq : ord q l) (hab : a < b) (hb : b ≤ l) (hgz : ∀ i, a ≤ i → i < b → Z (q i) = z ∧ ∃ d, D (q i) = Int32.ofNat d ∧ fin (q i) = d + nd an l nc (seg q a b) z (q i)) (hs : spl an (seg q a b) l nc z = true) (hcE : bst an (seg q a b) l nc z = c) (hS : sp3 (an z c) a b l q q' s1 s2) (hN : ∀ k, k < l → D' k = (if seg q a b k = true then D k + 1 else D k) ∧ Z' k = if seg q a b k = true then z ||| cell1 c else Z k) (hE1 : a < s1 → E' a = Int32.ofNat s1) (hE2 : s1 < s2 → E' s1 = Int32.ofNat s2) (hE3 : s2 < b → E' s2 = Int32.ofNat b) (hE4 : ∀ i, i < a ∨ b ≤ i → E' i = E i) (hc : chn an l nc fin q D Z E g b) : ∃ g', g + 2 ≤ g' ∧ chn an l nc fin q' D' Z' E' g' a ∧ ∀ i, i < a → q' i = q i ∧ D' (q i) = D (q i) := by
  obtain ⟨S1, S2, S3, S4, S5, S6, S7⟩ := hS
  have out : ∀ i, i < l → i < a ∨ b ≤ i → D' (q i) = D (q i) ∧ Z' (q i) = Z (q i) := fun i hi ho => by
    have h := seg_no hq hb hi ho
    obtain ⟨n1, n2⟩ := hN _ (hq.1 i hi)
    rw [h, if_neg (by decide)] at n1 n2
    exact ⟨n1, n2⟩
  have P0 : seg q' a s1 = nxt an (seg q a b) l nc z 0 := by
    have h := part_nxt (ank := an z c) (q := q') (a := a) (b := b) (x := a) (y := s1) (v := 0) (Nat.le_refl _) (by omega) S5 (fun i i1 i2 i3 => by
      by_cases h : i < s2
      · rw [S6 i (by omega) h]
        decide
      · rw [S7 i (by omega) i2]
        decide)
    rw [h, S4, ← hcE]
    rfl
  have P1 : seg q' s1 s2 = nxt an (seg q a b) l nc z 1 := by
    have h := part_nxt (ank := an z c) (q := q') (a := a) (b := b) (x := s1) (y := s2) (v := 1) (by omega) (by omega) S6 (fun i i1 i2 i3 => by
      by_cases h : i < s1
      · rw [S5 i i1 h]
        decide
      · rw [S7 i (by omega) i2]
        decide)
    rw [h, S4, ← hcE]
    rfl
  have P2 : seg q' s2 b = nxt an (seg q a b) l nc z 2 := by
    have h := part_nxt (ank := an z c) (q := q') (a := a) (b := b) (x := s2) (y := b) (v := 2) (by omega) (Nat.le_refl _) S7 (fun i i1 i2 i3 => by
      by_cases h : i < s1
      · rw [S5 i i1 h]
        decide
      · rw [S6 i (by omega) (by omega)]
        decide)
    rw [h, S4, ← hcE]
    rfl
  have part : ∀ x y v, v ≤ 2 → a ≤ x → y ≤ b → seg q' x y = nxt an (seg q a b) l nc z v → (∀ i, x ≤ i → i < y → an z c (q' i) = v) → gpg an l nc fin q' D' Z' x y := by
    intro x y v hv hx hy e hv2
    refine ⟨z ||| cell1 c, fun i i1 i2 => ?_⟩
    have hin : seg q' a b (q' i) = true := seg_in (by omega) (by omega)
    rw [S4] at hin
    have hk := S1.1 i (by omega)
    obtain ⟨n1, n2⟩ := hN _ hk
    rw [if_pos hin] at n1 n2
    obtain ⟨j, j1, j2, j3⟩ := seg_iff.mp hin
    obtain ⟨-, d, d1, d2⟩ := hgz j j1 j2
    rw [j3] at d1 d2
    refine ⟨n2, d + 1, by rw [n1, d1, io_1], ?_⟩
    rw [d2, nd_eq h2 (seg q a b) z (q' i), if_pos hs, hcE, hv2 i i1 i2, e]
    omega
  have z0 := nxt_lt h2 hs (v := 0) (by decide)
  have z1 := nxt_lt h2 hs (v := 1) (by decide)
  have z2 := nxt_lt h2 hs (v := 2) (by decide)
  rw [← P0, seg_sz S1 (by omega) (by omega), seg_sz hq hb (by omega)] at z0
  rw [← P1, seg_sz S1 (by omega) (by omega), seg_sz hq hb (by omega)] at z1
  rw [← P2, seg_sz S1 (by omega) (by omega), seg_sz hq hb (by omega)] at z2
  have hc' : chn an l nc fin q' D' Z' E' g b := chn_c g b (fun i hi => hE4 i (Or.inr hi)) (fun i hi hl => ⟨S3 i (Or.inr hi), out i hl (Or.inr hi)⟩) hc
  obtain ⟨g1, c1, u1, w1⟩ := chn_cons (x := s2) (by omega) hb hE3 (fun _ => part s2 b 2 (by decide) (by omega) (Nat.le_refl _) P2 S7) hc'
  obtain ⟨g2, c2, u2, w2⟩ := chn_cons (x := s1) (by omega) (by omega) hE2 (fun _ => part s1 s2 1 (by decide) (by omega) (by omega) P1 S6) c1
  obtain ⟨g3, c3, u3, w3⟩ := chn_cons (x := a) (by omega) (by omega) hE1 (fun _ => part a s1 0 (by decide) (Nat.le_refl _) (by omega) P0 S5) c2
  refine ⟨g3, ?_, c3, fun i hi => ⟨S3 i (Or.inl hi), (out i (by omega) (Or.inl hi)).1⟩⟩
  by_cases k1 : a < s1
  · by_cases k2 : s1 < s2
    · have := u3 k1
      have := u2 k2
      by_cases k3 : s2 < b
      · have := u1 k3
        omega
      · have := w1 k3
        omega
    · have := u3 k1
      have := w2 k2
      have := u1 (by omega)
      omega
  · have := w3 k1
    have := u2 (by omega)
    have := u1 (by omega)
    omega
end
/-- how many calls a laying needs -/
noncomputable def ndN (I : Nat → Nat → Int32) (J : Nat → Nat → Int64) (k : Nat) : Nat := nd (anL I J (ls I J)) (ls I J).length (I 1 6).toInt.toNat (seg (fun i => i) 0 (ls I J).length) 0 k
noncomputable def suN (f : Nat → Nat) : Nat → Nat
  | 0 => 0
  | k + 1 => suN f k + f k
noncomputable def mnN (f : Nat → Nat) : Nat → Nat
  | 0 => 0
  | k + 1 => if f (mnN f k) < f k then k else mnN f k
theorem mnN_lt (f : Nat → Nat) : ∀ k, 0 < k → mnN f k < k := by
  intro k
  induction k with
  | zero => intro h; omega
  | succ k ih =>
    intro _
    unfold mnN
    split
    · omega
    · by_cases h : k = 0
      · subst h
        exact Nat.zero_lt_one
      · have := ih (by omega)
        omega
theorem suN_le {f : Nat → Nat} {m : Nat} (h : ∀ k, f k ≤ m) : ∀ k, suN f k ≤ k * m := by
  intro k
  induction k with
  | zero => exact Nat.zero_le _
  | succ k ih =>
    have e : suN f (k + 1) = suN f k + f k := rfl
    have := h k
    rw [e, Nat.succ_mul]
    omega
theorem ord_id (l : Nat) : ord (fun i => i) l := ⟨fun _ h => h, fun _ _ _ _ e => e, fun k h => ⟨k, h, rfl⟩⟩
section
variable {N : Nat} {X : ez_X} {I A : Nat → Nat → Int32} {J B : Nat → Nat → Int64} {R : Nat → Nat} {T : List ez_C} {L : List ly_t} {n m nc l : Nat} {f o : Nat → Int32} {x : Int32}
noncomputable def io_Q (I : Nat → Nat → Int32) (J : Nat → Nat → Int64) (R : Nat → Nat) (T : List ez_C) (l : Nat) : pw_Q := fun r h => r = none ∧ ∃ R' T' m' o', h = ev_hp I J R' T' ∧ rowT (R' 4) T' m' o' ∧ l ≤ m' ∧ m' ≤ 10000 ∧ (∀ i, i < l → o' i = Int32.ofNat i) ∧ (∀ i, i ≠ 4 → R' i = R i) ∧ (R' 4 = R 4 ∨ R' 4 = 65 + T.length) ∧ ∀ p n f, p ≠ R 4 → rowT p T n f → rowT p T' n f
theorem pe_putInOrder (e63 : I 6 3 = Int32.ofNat l) (hl : l ≤ 10000) (r4 : rowT (R 4) T m o) (hm : m ≤ 10000) : pe N X 66 [.ref 22] (ev_hp I J R T) (io_Q I J R T l) := by
  refine pe_of (pw_p (io9_0 ?_))
  obtain ⟨f', g1, -⟩ := rowT_hp (I := I) (J := J) (R := R) r4
  refine pw_p (pw_alenI (by rfl) g1 ?_)
  rw [e63]
  have go : ∀ (R1 : Nat → Nat) (T1 : List ez_C) (m1 : Nat) (o1 : Nat → Int32), rowT (R1 4) T1 m1 o1 → l ≤ m1 → m1 ≤ 10000 → (∀ i, i ≠ 4 → R1 i = R i) → (R1 4 = R 4 ∨ R1 4 = 65 + T.length) → (∀ p n f, p ≠ R 4 → rowT p T n f → rowT p T1 n f) → ∀ N, pw N X 66 34 [.ref 22, .int (Int32.ofNat l), .int (0 : Int32)] [] (ev_hp I J R1 T1) (io_Q I J R T l) := by
    intro R1 T1 m1 o1 h1 h2 h3 h4 h5 h6
    have loop : ∀ (d i : Nat), i + d = l → ∀ (T2 : List ez_C) (o2 : Nat → Int32), keepT (R1 4) T1 T2 → rowT (R1 4) T2 m1 o2 → (∀ j, j < i → o2 j = Int32.ofNat j) → ∀ N, pw N X 66 34 [.ref 22, .int (Int32.ofNat l), .int (Int32.ofNat i)] [] (ev_hp I J R1 T2) (io_Q I J R T l) := by
      intro d
      induction d with
      | zero =>
        intro i hi T2 o2 hk hr ho N
        obtain rfl : i = l := by omega
        refine pw_p (io9_34 ⟨fun _ => ⟨rfl, R1, T2, m1, o2, rfl, hr, h2, h3, ho, h4, h5, fun p n f hp hpr => ?_⟩, fun g => absurd (Int32.le_refl _) g⟩)
        have hne : p ≠ R1 4 := by
          have := rowT_lt hpr
          rcases h5 with h5 | h5
          · rw [h5]
            exact hp
          · omega
        exact rowT_keep (h6 p n f hp hpr) hne hk
      | succ d ih =>
        intro i hid T2 o2 hk hr ho N
        refine pw_p (io9_34 ⟨fun g => ?_, fun _ => ⟨_, pe_putR hr (by omega), ?_⟩⟩)
        · rw [io_le (by omega) (by omega)] at g
          omega
        rintro r h ⟨rfl, T3, rfl, w3, k3⟩
        rw [put_in (show i < m1 by omega) (by omega)] at w3
        refine pw_p (io9_48 ?_)
        rw [io_1]
        refine ih (i + 1) (by omega) T3 _ (keepT_t hk k3) w3 (fun j hj => ?_) _
        by_cases e : j = i
        · rw [e, upd_s]
        · rw [upd_n _ _ e]
          exact ho j (by omega)
    exact loop l 0 (by omega) T1 o1 (keepT_r _ _) h1 (fun j hj => absurd hj (Nat.not_lt_zero j))
  refine pw_p (io9_14 ⟨fun g => ?_, fun g => ?_⟩)
  · rw [io_le (by omega) (by omega)] at g
    exact pw_p (io9_32 (go R T m o r4 g hm (fun _ _ => rfl) (Or.inl rfl) (fun _ _ _ _ h => h) _))
  · obtain ⟨f3, g3, -⟩ := rowT_hp (I := I) (J := J) (R := R) r4
    refine pw_p (pw_alenI (by rfl) g3 ?_)
    refine pw_p (io9_23 ⟨_, pe_grown, ?_⟩)
    rintro r h ⟨rfl, rfl⟩
    obtain ⟨n', e', k1, k2⟩ := gw_n (h := m) (w := l) hm hl
    rw [e']
    refine pw_p (pw_new (by rfl) (by omega) ?_)
    refine pw_p (io9_29 ?_)
    refine go (ev_sR R 4 (65 + T.length)) _ n' (fun _ => 0) ?_ k1 k2 (fun i hi => ?_) (Or.inr rfl) (fun p n f _ h => rowT_ap9 h) _
    · refine Or.inr ⟨?_, ?_⟩
      · have e0 : ev_sR R 4 (65 + T.length) 4 = 65 + T.length := rfl
        omega
      · have e0 : ev_sR R 4 (65 + T.length) 4 = 65 + T.length := rfl
        rw [e0, show 65 + T.length - 65 = T.length by omega, List.getElem?_append_right (Nat.le_refl _), Nat.sub_self]
        rfl
    · unfold ev_sR
      rw [cx_beqf hi]
      rfl
noncomputable def sn_Q (I : Nat → Nat → Int32) (J : Nat → Nat → Int64) (R : Nat → Nat) (L : List ly_t) (nc : Nat) : pw_Q := fun r h => r = none ∧ ∃ A B R' T', h = ev_hp A B R' T' ∧ A 22 8 = 1 ∧ (∀ k, k < L.length → A 28 k = Int32.ofNat (nd (anL I J L) L.length nc (seg (fun i => i) 0 L.length) 0 k)) ∧ ko I A ∧ kj J B
theorem pe_searchNeeds (hW : kw I J L n f nc) (ne : R 0 ≠ R 4) (g0 : rowT (R 0) T n f) (r4 : rowT (R 4) T m o) (hm : m ≤ 10000) (hl : L.length ≤ 400) (hk : I 22 8 = 0 ∨ (I 22 8 = 1 ∧ ∀ k, k < L.length → I 28 k = Int32.ofNat (nd (anL I J L) L.length nc (seg (fun i => i) 0 L.length) 0 k))) : pe N X 67 [.ref 22] (ev_hp I J R T) (sn_Q I J R L nc) := by
  have e63 := hW.1
  have h2 := anL_2 (I := I) (J := J) (L := L)
  refine pe_of (pw_p (sn_0 ⟨fun g => ?_, fun g => ⟨fun _ => ⟨_, pe_putInOrder e63 (by omega) r4 hm, ?_⟩, fun z => ?_⟩⟩))
  · obtain ⟨k1, k2⟩ := hk.resolve_left g
    exact ⟨rfl, I, J, R, T, rfl, k1, k2, ko_r, kj_r⟩
  rotate_left
  · rw [e63, show (400 : Int32) = Int32.ofNat 400 from rfl, io_le (by omega) (by omega)] at z
    omega
  rintro r h ⟨rfl, R1, T1, m1, o1, rfl, r41, m11, m12, ho1, hR1, hR4, hT1⟩
  have g01 : rowT (R1 0) T1 n f := by
    rw [hR1 0 (by decide)]
    exact hT1 _ _ _ ne g0
  have ne1 : R1 0 ≠ R1 4 := by
    rw [hR1 0 (by decide)]
    have := rowT_lt g0
    rcases hR4 with h | h
    · rw [h]
      exact ne
    · omega
  refine pw_p (sn_27 ?_)
  rw [e63]
  -- the turns
  have loop : ∀ (dd g fr t : Nat), 2 * (L.length - fr) = dd + g → t + 2 * (L.length - fr) ≤ 2 * L.length + g → ∀ A B T2 o2 q2, ko I A → kj J B → keepT (R1 4) T1 T2 → rowT (R1 4) T2 m1 o2 → (∀ i, i < L.length → o2 i = Int32.ofNat (q2 i)) → ord q2 L.length → chn (anL I J L) L.length nc (nd (anL I J L) L.length nc (seg (fun i => i) 0 L.length) 0) q2 (A 28) (B 29) (A 27) g fr → (∀ i, i < fr → A 28 (q2 i) = Int32.ofNat (nd (anL I J L) L.length nc (seg (fun i => i) 0 L.length) 0 (q2 i))) → ∀ N, pw N X 67 71 [.ref 22, .int (Int32.ofNat L.length), .int (Int32.ofNat fr), .int (Int32.ofNat t)] [] (ev_hp A B R1 T2) (sn_Q I J R L nc) := by
    intro dd
    induction dd using Nat.strongRecOn with
    | _ dd ih =>
      intro g fr t hdd htt A B T2 o2 q2 hA hB hkT hr4 ho2 hq2 hch hfin N
      have hle := chn_le g fr hch
      have done : fr = L.length → sn_Q I J R L nc none (ev_hp (ev_sI A 22 (upd (A 22) 8 (1 : Int32))) B R1 T2) := by
        intro hfr
        refine ⟨rfl, _, B, R1, T2, rfl, by rw [cx_sI_s, upd_s], fun k hkl => ?_, fun a a1 a2 a3 a4 a5 a6 => ?_, hB⟩
        · obtain ⟨i, i1, i2⟩ := hq2.2.2 k hkl
          rw [cx_sI_n _ _ (show (28 : Nat) ≠ 22 by decide), ← i2]
          exact hfin i (by omega)
        · rw [cx_sI_n _ _ a1]
          exact hA a a1 a2 a3 a4 a5 a6
      refine pw_p (sn_71 ⟨fun c => ?_, fun _ => ⟨fun c => ?_, fun c => ?_⟩⟩)
      · rw [show (800 : Int32) = Int32.ofNat 800 from rfl, io_le (by omega) (by omega)] at c
        exact done (by omega)
      · rw [io_le (by omega) (by omega)] at c
        exact done (by omega)
      · rw [io_le (by omega) (by omega)] at c
        cases g with
        | zero =>
          have h : fr = L.length := hch
          omega
        | succ g =>
          obtain ⟨b, b1, b2, b3, ⟨z, hz⟩, b5⟩ := hch
          have hle2 := chn_le g b b5
          rw [at_in (show fr < 400 by omega) (by decide), b1]
          have eA : anL A B L = anL I J L := anL_c hA hB
          refine ⟨_, pe_split (a := fr) (b := b) (z := z) (kw_c hW hA hB) ne1 (rowT_keep g01 ne1 hkT) hr4 ⟨m11, m12⟩ hl hq2 ho2 b2 b3 (hz fr (Nat.le_refl _) b2).1 rfl rfl, ?_⟩
          unfold st_Q
          rw [eA]
          rintro r h (⟨c1, rfl, A2, rfl, hA2⟩ | ⟨c1, rfl, A2, B2, T3, q3, o3, s1, s2, rfl, k3, w3, ho3, S, f1, f2, f3, f4, f5, f6, f7⟩)
          · refine pw_p (sn_100 ⟨fun v => absurd rfl v, fun _ => ?_⟩)
            have e27 : A2 27 = A 27 := hA2 27 (by decide) (by decide) (by decide)
            have e28 : A2 28 = A 28 := hA2 28 (by decide) (by decide) (by decide)
            rw [io_1]
            refine ih (2 * (L.length - b) - g) (by omega) g b (t + 1) (by omega) (by omega) A2 B T2 o2 q2 (ko_t hA (kt_ko hA2)) hB hkT hr4 ho2 hq2 (by rw [e27, e28]; exact b5) (fun i hi => ?_) _
            rw [e28]
            by_cases hif : i < fr
            · exact hfin i hif
            · obtain ⟨-, d, d1, d2⟩ := hz i (by omega) hi
              rw [d1, d2, nd_eq h2 (seg q2 fr b) z (q2 i), c1]
              rfl
          · refine pw_p (sn_100 ⟨fun _ => ?_, fun v => absurd (by decide) v⟩)
            obtain ⟨g', u1, u2, u3⟩ := chn_split (D' := A2 28) (Z' := B2 29) (E' := A2 27) h2 hq2 b2 b3 hz c1 rfl S f3 f4 f5 f6 f7 b5
            have hle3 := chn_le g' fr u2
            rw [io_1]
            refine ih (2 * (L.length - fr) - g') (by omega) g' fr (t + 1) (by omega) (by omega) A2 B2 T3 o3 q3 (fun a a1 a2 a3 a4 a5 a6 => (f1 a a2 a3 a4 a5 a6).trans (hA a a1 a2 a3 a4 a5 a6)) (fun a a1 => (f2 a a1).trans (hB a a1)) (keepT_t hkT k3) w3 ho3 S.1 u2 (fun i hi => ?_) _
            rw [(u3 i hi).1, (u3 i hi).2]
            exact hfin i hi
  -- all begin anew
  have clear : ∀ (d k : Nat), k + d = L.length → ∀ A B, ko I A → kj J B → (∀ j, j < k → A 28 j = 0 ∧ B 29 j = 0) → ∀ N, pw N X 67 29 [.ref 22, .int (Int32.ofNat L.length), .int (Int32.ofNat k)] [] (ev_hp A B R1 T1) (sn_Q I J R L nc) := by
    intro d
    induction d with
    | zero =>
      intro k hkd A B hA hB hz N
      obtain rfl : k = L.length := by omega
      refine pw_p (sn_29 ⟨fun _ => ?_, fun g => absurd (Int32.le_refl _) g⟩)
      rw [show ev_put 400 (A 27) (0 : Int32) (Int32.ofNat L.length) = upd (A 27) 0 (Int32.ofNat L.length) from put_in (j := 0) (by decide) (by decide)]
      have hA' : ko I (ev_sI A 27 (upd (A 27) 0 (Int32.ofNat L.length))) := fun a a1 a2 a3 a4 a5 a6 => by
        rw [cx_sI_n _ _ a5]
        exact hA a a1 a2 a3 a4 a5 a6
      by_cases h0 : L.length = 0
      · exact loop 0 0 0 0 (by omega) (by omega) _ B T1 o1 (fun i => i) hA' hB (keepT_r _ _) r41 ho1 (ord_id _) h0.symm (fun i hi => absurd hi (Nat.not_lt_zero i)) _
      · refine loop (2 * L.length - 1) 1 0 0 (by omega) (by omega) _ B T1 o1 (fun i => i) hA' hB (keepT_r _ _) r41 ho1 (ord_id _) ⟨L.length, by rw [cx_sI_s, upd_s], by omega, Nat.le_refl _, ⟨0, fun i _ hi => ?_⟩, rfl⟩ (fun i hi => absurd hi (Nat.not_lt_zero i)) _
        refine ⟨(hz i hi).2, 0, ?_, (Nat.zero_add _).symm⟩
        rw [cx_sI_n _ _ (show (28 : Nat) ≠ 27 by decide)]
        exact (hz i hi).1
    | succ d ih =>
      intro k hkd A B hA hB hz N
      refine pw_p (sn_29 ⟨fun g => ?_, fun _ => ?_⟩)
      · rw [io_le (by omega) (by omega)] at g
        omega
      · rw [put_in (show k < 400 by omega) (by decide), putJ_in (show k < 400 by omega) (by decide), io_1]
        refine ih (k + 1) (by omega) _ _ (fun a a1 a2 a3 a4 a5 a6 => ?_) (fun a a1 => ?_) (fun j hj => ?_) _
        · rw [cx_sI_n _ _ a6]
          exact hA a a1 a2 a3 a4 a5 a6
        · rw [cx_sJ_n _ _ a1]
          exact hB a a1
        · rw [cx_sI_s, cx_sJ_s]
          by_cases e : j = k
          · rw [e, upd_s, pv_s]
            exact ⟨rfl, rfl⟩
          · rw [upd_n _ _ e, pv_n _ _ e]
            exact hz j (by omega)
  exact clear L.length 0 (by omega) I J ko_r kj_r (fun j hj => absurd hj (Nat.not_lt_zero j)) _
theorem pe_needOf : pe N X 65 [.ref 22, .int x] (ev_hp I J R T) (fun r h => r = some (.int (ev_at 400 (I 28) x)) ∧ h = ev_hp I J R T) := pe_of (pw_p (ne9_0 ⟨rfl, rfl⟩))
theorem pe_allNeeds {F : Nat → Nat} (e63 : I 6 3 = Int32.ofNat l) (hl : l ≤ 400) (hF : ∀ k, k < l → I 28 k = Int32.ofNat (F k)) : pe N X 57 [.ref 22] (ev_hp I J R T) (fun r h => r = some (.int (Int32.ofNat (suN F l))) ∧ h = ev_hp I J R T) := by
  have loop : ∀ (d k : Nat), k + d = l → ∀ N, pw N X 57 4 [.ref 22, .int (Int32.ofNat (suN F k)), .int (Int32.ofNat k)] [] (ev_hp I J R T) (fun r h => r = some (.int (Int32.ofNat (suN F l))) ∧ h = ev_hp I J R T) := by
    intro d
    induction d with
    | zero =>
      intro k hk N
      obtain rfl : k = l := by omega
      refine pw_p (aq9_4 ?_)
      rw [e63]
      exact ⟨fun _ => ⟨rfl, rfl⟩, fun g => absurd (Int32.le_refl _) g⟩
    | succ d ih =>
      intro k hk N
      refine pw_p (aq9_4 ?_)
      rw [e63, io_le (by omega) (by omega), at_in (show k < 400 by omega) (by decide), hF k (by omega), io_add, io_1]
      exact ⟨fun g => absurd g (by omega), fun _ => ih (k + 1) (by omega) _⟩
  exact pe_of (pw_p (aq9_0 (loop l 0 (by omega) _)))
theorem pe_mostNeedy {F : Nat → Nat} (e63 : I 6 3 = Int32.ofNat l) (h0 : 0 < l) (hl : l ≤ 400) (hF : ∀ k, k < l → I 28 k = Int32.ofNat (F k) ∧ F k ≤ 400) : pe N X 64 [.ref 22] (ev_hp I J R T) (fun r h => r = some (.int (Int32.ofNat (mnN F l))) ∧ h = ev_hp I J R T) := by
  have loop : ∀ (d k : Nat), k + d = l → 0 < k → ∀ N, pw N X 64 4 [.ref 22, .int (Int32.ofNat (mnN F k)), .int (Int32.ofNat k)] [] (ev_hp I J R T) (fun r h => r = some (.int (Int32.ofNat (mnN F l))) ∧ h = ev_hp I J R T) := by
    intro d
    induction d with
    | zero =>
      intro k hk _ N
      obtain rfl : k = l := by omega
      refine pw_p (mn_4 ?_)
      rw [e63]
      exact ⟨fun _ => ⟨rfl, rfl⟩, fun g => absurd (Int32.le_refl _) g⟩
    | succ d ih =>
      intro k hk hk0 N
      have hb := mnN_lt F k hk0
      have e : mnN F (k + 1) = if F (mnN F k) < F k then k else mnN F k := rfl
      have h5 := fun N => ih (k + 1) (by omega) (by omega) N
      rw [e] at h5
      obtain ⟨m1, m2⟩ := hF k (by omega)
      obtain ⟨m3, m4⟩ := hF (mnN F k) (by omega)
      refine pw_p (mn_4 ?_)
      rw [e63, io_le (by omega) (by omega), at_in (show k < 400 by omega) (by decide), at_in (show mnN F k < 400 by omega) (by decide), m1, m3, io_le (by omega) (by omega), io_1]
      refine ⟨fun g => absurd g (by omega), fun _ => ⟨fun g => ?_, fun g => ?_⟩⟩
      · rw [if_neg (by omega)] at h5
        exact h5 _
      · rw [if_pos (by omega)] at h5
        exact h5 _
  refine pe_of (pw_p (mn_0 ?_))
  have e1 : mnN F 1 = 0 := by
    show (if F 0 < F 0 then 0 else 0) = 0
    split <;> rfl
  have h5 := loop (l - 1) 1 (by omega) (by omega) N
  rw [e1] at h5
  exact h5
end
section
variable {N : Nat} {X : ez_X} {I : Nat → Nat → Int32} {J : Nat → Nat → Int64} {R : Nat → Nat} {T : List ez_C} {Q : pw_Q} {cz kz : Nat}
set_option maxRecDepth 100000 in
theorem ct9_r0 {a0 : Int32} : ∀ G : ez_F, fx_up X 2 G 34 0 [.ref 0, .int a0] [] (ev_hp I J R T) cz kz = ev_C G 15 [.ref 0] (ev_hp I J R T) fun r h1 c1 k1 => G 34 4 [.ref 0, .int a0] (r.toList ++ []) h1 (cz + c1) (kz + k1) := by
  intro G
  rfl
theorem nn_0 {x : Int32}
    (H : (∃ Q1 : pw_Q, pe N X 15 [.ref 0] (ev_hp I J R T) Q1 ∧ ∀ (r : Option Value) (h1 : ez_H), Q1 r h1 → pw N X 34 4 [.ref 0, .int x] (r.toList ++ []) h1 Q)) : pw (N + 1) X 34 0 [.ref 0, .int x] [] (ev_hp I J R T) Q := by
  obtain ⟨Q1, hc, hk⟩ := H
  exact pw_call (by decide) (fun _ _ => ct9_r0) hc hk
set_option maxRecDepth 100000 in
theorem ct9_r1 {a0 : Int32} {a1 : Int32} : ∀ G : ez_F, fx_up X 1 G 34 4 [.ref 0, .int a0] [.int a1] (ev_hp I J R T) cz kz = bif decide (a1 = (0 : Int32)) then G 34 10 [.ref 0, .int a0] [] (ev_hp I J R T) cz kz else G 34 7 [.ref 0, .int a0] [] (ev_hp I J R T) cz kz := by
  intro G
  rfl
set_option maxRecDepth 100000 in
theorem ct9_r2 {a0 : Int32} : ∀ G : ez_F, fx_up X 3 G 34 10 [.ref 0, .int a0] [] (ev_hp I J R T) cz kz = ev_C G 23 [.ref 0, .int a0] (ev_hp I J R T) fun r h1 c1 k1 => G 34 15 [.ref 0, .int a0] (r.toList ++ []) h1 (cz + c1) (kz + k1) := by
  intro G
  rfl
set_option maxRecDepth 100000 in
theorem ct9_r3 {a0 : Int32} {a1 : Int32} : ∀ G : ez_F, fx_up X 1 G 34 15 [.ref 0, .int a0] [.int a1] (ev_hp I J R T) cz kz = bif decide (¬ a1 = (0 : Int32)) then G 34 21 [.ref 0, .int a0] [] (ev_hp I J R T) cz kz else G 34 18 [.ref 0, .int a0] [] (ev_hp I J R T) cz kz := by
  intro G
  rfl
set_option maxRecDepth 100000 in
theorem ct9_r4 {a0 : Int32} : ∀ G : ez_F, fx_up X 3 G 34 21 [.ref 0, .int a0] [] (ev_hp I J R T) cz kz = ev_C G 67 [.ref 22] (ev_hp I J R T) fun r h1 c1 k1 => G 34 28 [.ref 0, .int a0] (r.toList ++ []) h1 (cz + c1) (kz + k1) := by
  intro G
  rfl
set_option maxRecDepth 100000 in
theorem ct9_r5 {a0 : Int32} : ∀ G : ez_F, fx_up X 2 G 34 18 [.ref 0, .int a0] [] (ev_hp I J R T) cz kz = some (some (.int (-2 : Int32)), (ev_hp I J R T), cz, kz) := by
  intro G
  rfl
set_option maxRecDepth 100000 in
theorem ct9_r6 {a0 : Int32} : ∀ G : ez_F, fx_up X 2 G 34 7 [.ref 0, .int a0] [] (ev_hp I J R T) cz kz = some (some (.int (-6 : Int32)), (ev_hp I J R T), cz, kz) := by
  intro G
  rfl
theorem nn_4 {x v : Int32}
    (H : ((v = (0 : Int32) → ((¬ (ev_wi x (0 : Int32) ((I 6 3) - (1 : Int32))) = (0 : Int32) → (∃ Q1 : pw_Q, pe N X 67 [.ref 22] (ev_hp I J R T) Q1 ∧ ∀ (r : Option Value) (h1 : ez_H), Q1 r h1 → pw N X 34 28 [.ref 0, .int x] (r.toList ++ []) h1 Q)) ∧ (¬ (¬ (ev_wi x (0 : Int32) ((I 6 3) - (1 : Int32))) = (0 : Int32)) → Q (some (.int (-2 : Int32))) (ev_hp I J R T)))) ∧ (¬ (v = (0 : Int32)) → Q (some (.int (-6 : Int32))) (ev_hp I J R T)))) : pw (N + 1) X 34 4 [.ref 0, .int x] [.int v] (ev_hp I J R T) Q := by
  refine pw_if (by decide) (fun _ _ => ct9_r1) (fun w1 => ?_) (fun w1 => ?_)
  · have h1 := H.1 w1
    refine pw_p (pw_callp (by decide) (fun _ _ => ct9_r2) (pe_is (eg_isLaying _ _ _ _ _ _)) ?_)
    refine pw_p (pw_if (by decide) (fun _ _ => ct9_r3) (fun w2 => ?_) (fun w2 => ?_))
    · have h2 := h1.1 w2
      obtain ⟨Q1, hc, hk⟩ := h2
      exact pw_p (pw_call (by decide) (fun _ _ => ct9_r4) hc hk)
    · have h2 := h1.2 w2
      exact pw_p (pw_ret (by decide) (fun _ _ => ct9_r5) h2)
  · have h1 := H.2 w1
    exact pw_p (pw_ret (by decide) (fun _ _ => ct9_r6) h1)
set_option maxRecDepth 100000 in
theorem ct9_r7 {a0 : Int32} : ∀ G : ez_F, fx_up X 4 G 34 28 [.ref 0, .int a0] [] (ev_hp I J R T) cz kz = ev_C G 65 [.ref 22, .int a0] (ev_hp I J R T) fun r h1 c1 k1 => G 34 36 [.ref 0, .int a0] (r.toList ++ []) h1 (cz + c1) (kz + k1) := by
  intro G
  rfl
set_option maxRecDepth 100000 in
theorem ct9_r8 {a0 : Int32} {a1 : Int32} : ∀ G : ez_F, fx_up X 1 G 34 36 [.ref 0, .int a0] [.int a1] (ev_hp I J R T) cz kz = some (some (.int a1), (ev_hp I J R T), cz, kz) := by
  intro G
  rfl
theorem nn_28 {x : Int32}
    (H : Q (some (.int (ev_at 400 (I 28) x))) (ev_hp I J R T)) : pw (N + 1) X 34 28 [.ref 0, .int x] [] (ev_hp I J R T) Q := by
  refine pw_callp (by decide) (fun _ _ => ct9_r7) (pe_needOf) ?_
  exact pw_p (pw_ret (by decide) (fun _ _ => ct9_r8) H)
set_option maxRecDepth 100000 in
theorem ct9_r9 {a0 : Int32} : ∀ G : ez_F, fx_up X 4 G 20 0 [.ref 0, .int a0] [] (ev_hp I J R T) cz kz = ev_C G 55 [.int a0, .int (0 : Int32), .int (2 : Int32)] (ev_hp I J R T) fun r h1 c1 k1 => G 20 6 [.ref 0, .int a0] (r.toList ++ []) h1 (cz + c1) (kz + k1) := by
  intro G
  rfl
set_option maxRecDepth 100000 in
theorem ct9_r10 {a0 : Int32} {a1 : Int32} : ∀ G : ez_F, fx_up X 1 G 20 6 [.ref 0, .int a0] [.int a1] (ev_hp I J R T) cz kz = bif decide (¬ a1 = (0 : Int32)) then G 20 12 [.ref 0, .int a0] [] (ev_hp I J R T) cz kz else G 20 9 [.ref 0, .int a0] [] (ev_hp I J R T) cz kz := by
  intro G
  rfl
set_option maxRecDepth 100000 in
theorem ct9_r11 {a0 : Int32} : ∀ G : ez_F, fx_up X 2 G 20 12 [.ref 0, .int a0] [] (ev_hp I J R T) cz kz = ev_C G 15 [.ref 0] (ev_hp I J R T) fun r h1 c1 k1 => G 20 16 [.ref 0, .int a0] (r.toList ++ []) h1 (cz + c1) (kz + k1) := by
  intro G
  rfl
set_option maxRecDepth 100000 in
theorem ct9_r12 {a0 : Int32} : ∀ G : ez_F, fx_up X 2 G 20 9 [.ref 0, .int a0] [] (ev_hp I J R T) cz kz = some (some (.int (-3 : Int32)), (ev_hp I J R T), cz, kz) := by
  intro G
  rfl
theorem hh_0 {x : Int32}
    (H : ((¬ (ev_wi x (0 : Int32) (2 : Int32)) = (0 : Int32) → (∃ Q1 : pw_Q, pe N X 15 [.ref 0] (ev_hp I J R T) Q1 ∧ ∀ (r : Option Value) (h1 : ez_H), Q1 r h1 → pw N X 20 16 [.ref 0, .int x] (r.toList ++ []) h1 Q)) ∧ (¬ (¬ (ev_wi x (0 : Int32) (2 : Int32)) = (0 : Int32)) → Q (some (.int (-3 : Int32))) (ev_hp I J R T)))) : pw (N + 1) X 20 0 [.ref 0, .int x] [] (ev_hp I J R T) Q := by
  refine pw_callp (by decide) (fun _ _ => ct9_r9) (pe_is (ec_within _ _ _ _ _)) ?_
  refine pw_p (pw_if (by decide) (fun _ _ => ct9_r10) (fun w1 => ?_) (fun w1 => ?_))
  · have h1 := H.1 w1
    obtain ⟨Q1, hc, hk⟩ := h1
    exact pw_p (pw_call (by decide) (fun _ _ => ct9_r11) hc hk)
  · have h1 := H.2 w1
    exact pw_p (pw_ret (by decide) (fun _ _ => ct9_r12) h1)
set_option maxRecDepth 100000 in
theorem ct9_r13 {a0 : Int32} {a1 : Int32} : ∀ G : ez_F, fx_up X 1 G 20 16 [.ref 0, .int a0] [.int a1] (ev_hp I J R T) cz kz = bif decide (a1 = (0 : Int32)) then G 20 22 [.ref 0, .int a0] [] (ev_hp I J R T) cz kz else G 20 19 [.ref 0, .int a0] [] (ev_hp I J R T) cz kz := by
  intro G
  rfl
set_option maxRecDepth 100000 in
theorem ct9_r14 {a0 : Int32} : ∀ G : ez_F, fx_up X 3 G 20 22 [.ref 0, .int a0] [] (ev_hp I J R T) cz kz = G 20 29 [.ref 0, .int a0] [.int (I 6 3)] (ev_hp I J R T) cz kz := by
  intro G
  rfl
set_option maxRecDepth 100000 in
theorem ct9_r15 {a0 : Int32} {a1 : Int32} : ∀ G : ez_F, fx_up X 1 G 20 29 [.ref 0, .int a0] [.int a1] (ev_hp I J R T) cz kz = bif decide (¬ a1 = (0 : Int32)) then G 20 34 [.ref 0, .int a0] [] (ev_hp I J R T) cz kz else G 20 32 [.ref 0, .int a0] [] (ev_hp I J R T) cz kz := by
  intro G
  rfl
set_option maxRecDepth 100000 in
theorem ct9_r16 {a0 : Int32} : ∀ G : ez_F, fx_up X 3 G 20 34 [.ref 0, .int a0] [] (ev_hp I J R T) cz kz = ev_C G 67 [.ref 22] (ev_hp I J R T) fun r h1 c1 k1 => G 20 41 [.ref 0, .int a0] (r.toList ++ []) h1 (cz + c1) (kz + k1) := by
  intro G
  rfl
set_option maxRecDepth 100000 in
theorem ct9_r17 {a0 : Int32} : ∀ G : ez_F, fx_up X 2 G 20 32 [.ref 0, .int a0] [] (ev_hp I J R T) cz kz = some (some (.int (-1 : Int32)), (ev_hp I J R T), cz, kz) := by
  intro G
  rfl
set_option maxRecDepth 100000 in
theorem ct9_r18 {a0 : Int32} : ∀ G : ez_F, fx_up X 2 G 20 19 [.ref 0, .int a0] [] (ev_hp I J R T) cz kz = some (some (.int (-6 : Int32)), (ev_hp I J R T), cz, kz) := by
  intro G
  rfl
theorem hh_16 {x v : Int32}
    (H : ((v = (0 : Int32) → ((¬ (I 6 3) = (0 : Int32) → (∃ Q1 : pw_Q, pe N X 67 [.ref 22] (ev_hp I J R T) Q1 ∧ ∀ (r : Option Value) (h1 : ez_H), Q1 r h1 → pw N X 20 41 [.ref 0, .int x] (r.toList ++ []) h1 Q)) ∧ (¬ (¬ (I 6 3) = (0 : Int32)) → Q (some (.int (-1 : Int32))) (ev_hp I J R T)))) ∧ (¬ (v = (0 : Int32)) → Q (some (.int (-6 : Int32))) (ev_hp I J R T)))) : pw (N + 1) X 20 16 [.ref 0, .int x] [.int v] (ev_hp I J R T) Q := by
  refine pw_if (by decide) (fun _ _ => ct9_r13) (fun w1 => ?_) (fun w1 => ?_)
  · have h1 := H.1 w1
    refine pw_p (pw_seg (by decide) (fun _ _ => ct9_r14) ?_)
    refine pw_p (pw_if (by decide) (fun _ _ => ct9_r15) (fun w2 => ?_) (fun w2 => ?_))
    · have h2 := h1.1 w2
      obtain ⟨Q1, hc, hk⟩ := h2
      exact pw_p (pw_call (by decide) (fun _ _ => ct9_r16) hc hk)
    · have h2 := h1.2 w2
      exact pw_p (pw_ret (by decide) (fun _ _ => ct9_r17) h2)
  · have h1 := H.2 w1
    exact pw_p (pw_ret (by decide) (fun _ _ => ct9_r18) h1)
set_option maxRecDepth 100000 in
theorem ct9_r19 {a0 : Int32} : ∀ G : ez_F, fx_up X 3 G 20 41 [.ref 0, .int a0] [] (ev_hp I J R T) cz kz = bif decide (¬ a0 = (2 : Int32)) then G 20 54 [.ref 0, .int a0] [] (ev_hp I J R T) cz kz else G 20 46 [.ref 0, .int a0] [] (ev_hp I J R T) cz kz := by
  intro G
  rfl
set_option maxRecDepth 100000 in
theorem ct9_r20 {a0 : Int32} : ∀ G : ez_F, fx_up X 3 G 20 54 [.ref 0, .int a0] [] (ev_hp I J R T) cz kz = ev_C G 64 [.ref 22] (ev_hp I J R T) fun r h1 c1 k1 => G 20 61 [.ref 0, .int a0] (r.toList ++ []) h1 (cz + c1) (kz + k1) := by
  intro G
  rfl
set_option maxRecDepth 100000 in
theorem ct9_r21 {a0 : Int32} : ∀ G : ez_F, fx_up X 3 G 20 46 [.ref 0, .int a0] [] (ev_hp I J R T) cz kz = ev_C G 57 [.ref 22] (ev_hp I J R T) fun r h1 c1 k1 => G 20 53 [.ref 0, .int a0] (r.toList ++ []) h1 (cz + c1) (kz + k1) := by
  intro G
  rfl
theorem hh_41 {x : Int32}
    (H : ((¬ x = (2 : Int32) → (∃ Q1 : pw_Q, pe N X 64 [.ref 22] (ev_hp I J R T) Q1 ∧ ∀ (r : Option Value) (h1 : ez_H), Q1 r h1 → pw N X 20 61 [.ref 0, .int x] (r.toList ++ []) h1 Q)) ∧ (¬ (¬ x = (2 : Int32)) → (∃ Q1 : pw_Q, pe N X 57 [.ref 22] (ev_hp I J R T) Q1 ∧ ∀ (r : Option Value) (h1 : ez_H), Q1 r h1 → pw N X 20 53 [.ref 0, .int x] (r.toList ++ []) h1 Q)))) : pw (N + 1) X 20 41 [.ref 0, .int x] [] (ev_hp I J R T) Q := by
  refine pw_if (by decide) (fun _ _ => ct9_r19) (fun w1 => ?_) (fun w1 => ?_)
  · have h1 := H.1 w1
    obtain ⟨Q1, hc, hk⟩ := h1
    exact pw_p (pw_call (by decide) (fun _ _ => ct9_r20) hc hk)
  · have h1 := H.2 w1
    obtain ⟨Q1, hc, hk⟩ := h1
    exact pw_p (pw_call (by decide) (fun _ _ => ct9_r21) hc hk)
set_option maxRecDepth 100000 in
theorem ct9_r22 {a0 : Int32} {a1 : Int32} : ∀ G : ez_F, fx_up X 1 G 20 53 [.ref 0, .int a0] [.int a1] (ev_hp I J R T) cz kz = some (some (.int a1), (ev_hp I J R T), cz, kz) := by
  intro G
  rfl
theorem hh_53 {x v : Int32}
    (H : Q (some (.int v)) (ev_hp I J R T)) : pw (N + 1) X 20 53 [.ref 0, .int x] [.int v] (ev_hp I J R T) Q := by
  exact pw_ret (by decide) (fun _ _ => ct9_r22) H
set_option maxRecDepth 100000 in
theorem ct9_r23 {a0 : Int32} {a1 : Int32} : ∀ G : ez_F, fx_up X 3 G 20 61 [.ref 0, .int a0] [.int a1] (ev_hp I J R T) cz kz = bif decide (¬ a0 = (0 : Int32)) then G 20 70 [.ref 0, .int a0, .int a1] [] (ev_hp I J R T) cz kz else G 20 66 [.ref 0, .int a0, .int a1] [] (ev_hp I J R T) cz kz := by
  intro G
  rfl
set_option maxRecDepth 100000 in
theorem ct9_r24 {a0 : Int32} {a1 : Int32} : ∀ G : ez_F, fx_up X 4 G 20 70 [.ref 0, .int a0, .int a1] [] (ev_hp I J R T) cz kz = ev_C G 65 [.ref 22, .int a1] (ev_hp I J R T) fun r h1 c1 k1 => G 20 78 [.ref 0, .int a0, .int a1] (r.toList ++ []) h1 (cz + c1) (kz + k1) := by
  intro G
  rfl
set_option maxRecDepth 100000 in
theorem ct9_r25 {a0 : Int32} {a1 : Int32} {a2 : Int32} : ∀ G : ez_F, fx_up X 1 G 20 78 [.ref 0, .int a0, .int a1] [.int a2] (ev_hp I J R T) cz kz = some (some (.int a2), (ev_hp I J R T), cz, kz) := by
  intro G
  rfl
set_option maxRecDepth 100000 in
theorem ct9_r26 {a0 : Int32} {a1 : Int32} : ∀ G : ez_F, fx_up X 3 G 20 66 [.ref 0, .int a0, .int a1] [] (ev_hp I J R T) cz kz = some (some (.int a1), (ev_hp I J R T), cz, kz) := by
  intro G
  rfl
theorem hh_61 {x v : Int32}
    (H : ((¬ x = (0 : Int32) → Q (some (.int (ev_at 400 (I 28) v))) (ev_hp I J R T)) ∧ (¬ (¬ x = (0 : Int32)) → Q (some (.int v)) (ev_hp I J R T)))) : pw (N + 1) X 20 61 [.ref 0, .int x] [.int v] (ev_hp I J R T) Q := by
  refine pw_if (by decide) (fun _ _ => ct9_r23) (fun w1 => ?_) (fun w1 => ?_)
  · have h1 := H.1 w1
    refine pw_p (pw_callp (by decide) (fun _ _ => ct9_r24) (pe_needOf) ?_)
    exact pw_p (pw_ret (by decide) (fun _ _ => ct9_r25) h1)
  · have h1 := H.2 w1
    exact pw_p (pw_ret (by decide) (fun _ _ => ct9_r26) h1)
end
section
variable {N : Nat} {X : ez_X} {I A : Nat → Nat → Int32} {J B : Nat → Nat → Int64} {R : Nat → Nat} {T : List ez_C} {x : Int32} {f6 : Nat → Int32}
/-- what the class's caller holds is right -/
noncomputable def d6 (I : Nat → Nat → Int32) (J : Nat → Nat → Int64) : Prop := I 22 8 = 0 ∨ (I 22 8 = 1 ∧ ∀ k, k < (ls I J).length → I 28 k = Int32.ofNat (ndN I J k))
noncomputable def v_need (I : Nat → Nat → Int32) (J : Nat → Nat → Int64) (x : Int32) : Int32 := if sn I 0 * (sn I 1 * sn I 2) ≤ 10000 ∧ (ls I J).length ≤ 400 then (if ev_wi x 0 (Int32.ofNat (ls I J).length - 1) = 0 then -2 else Int32.ofNat (ndN I J x.toInt.toNat)) else -6
noncomputable def v_hardest (I : Nat → Nat → Int32) (J : Nat → Nat → Int64) (x : Int32) : Int32 := if ev_wi x 0 2 = 0 then -3 else if sn I 0 * (sn I 1 * sn I 2) ≤ 10000 ∧ (ls I J).length ≤ 400 then (if (ls I J).length = 0 then -1 else if x = 2 then Int32.ofNat (suN (ndN I J) (ls I J).length) else if x = 0 then Int32.ofNat (mnN (ndN I J) (ls I J).length) else Int32.ofNat (ndN I J (mnN (ndN I J) (ls I J).length))) else -6
theorem anL_6 (L : List ly_t) : anL (ev_sI I 6 f6) J L = anL I J L := funext fun z => funext fun c => funext fun k => by
  have c2 : ev_sI I 6 f6 2 = I 2 := cx_sI_n _ _ (by decide)
  have c3 : ev_sI I 6 f6 3 = I 3 := cx_sI_n _ _ (by decide)
  unfold anL snk
  rw [ly_w_6, c2]
  unfold ly_s
  rw [c3]
theorem ls_69 : ls (ev_sI I 6 f6) J = ls I J := ls_eq (by rw [cx_sI_n _ _ (show (3 : Nat) ≠ 6 by decide)]) (cx_sI_n _ _ (by decide)) rfl (by rw [cx_sI_n _ _ (show (1 : Nat) ≠ 6 by decide)]) (by rw [cx_sI_n _ _ (show (1 : Nat) ≠ 6 by decide)]) (by rw [cx_sI_n _ _ (show (1 : Nat) ≠ 6 by decide)]) rfl rfl rfl (by rw [cx_sI_n _ _ (show (2 : Nat) ≠ 6 by decide)])
theorem ko_b (h : ko I A) (h' : kj J B) : ls A B = ls I J ∧ ∀ k, ndN A B k = ndN I J k := by
  have e : ∀ a, a < 20 → A a = I a := fun a ha => h a (by omega) (by omega) (by omega) (by omega) (by omega) (by omega)
  have el : ls A B = ls I J := ls_eq (by rw [e 3 (by decide)]) (e 5 (by decide)) (h' 4 (by decide)) (by rw [e 1 (by decide)]) (by rw [e 1 (by decide)]) (by rw [e 1 (by decide)]) (by rw [h' 1 (by decide)]) (by rw [h' 1 (by decide)]) (by rw [h' 1 (by decide)]) (by rw [e 2 (by decide)])
  refine ⟨el, fun k => ?_⟩
  unfold ndN
  rw [el, anL_c h h', e 1 (by decide)]
theorem nd_6 (k : Nat) : ndN (ev_sI I 6 f6) J k = ndN I J k := by
  unfold ndN
  rw [ls_69, anL_6, cx_sI_n _ _ (show (1 : Nat) ≠ 6 by decide)]
/-- behind the search for layings: all needs -/
theorem pe_sneeds {h0 : ez_H} (h : rl3 I J R T) (hd : d6 I J) (hh : cx_hok cx_B0 I R T) (h400 : (ls I J).length ≤ 400) (hs : se_Q I J R T (ls I J) h0) : pe N X 67 [.ref 22] h0 (fun r h => r = none ∧ ∃ A B R' T', h = ev_hp A B R' T' ∧ A 6 3 = Int32.ofNat (ls I J).length ∧ (∀ k, k < (ls I J).length → A 28 k = Int32.ofNat (ndN I J k)) ∧ d6 A B) := by
  obtain ⟨f6, R', T', rfl, hcp, ⟨g2, n, f, g3, g4, g5, g6⟩, hk⟩ := cp_se hh h.1.2 hs
  obtain ⟨nc, e16, n1, n2⟩ := b_16 hh.1
  have c1 : ev_sI I 6 f6 1 = I 1 := cx_sI_n _ _ (by decide)
  have c3 : ev_sI I 6 f6 3 = I 3 := cx_sI_n _ _ (by decide)
  have c22 : ev_sI I 6 f6 22 = I 22 := cx_sI_n _ _ (by decide)
  have c28 : ev_sI I 6 f6 28 = I 28 := cx_sI_n _ _ (by decide)
  have enc : (I 1 6).toInt.toNat = nc := by
    rw [e16, io_ti (by omega)]
    exact Int.toNat_natCast nc
  obtain ⟨-, n0', n1', n4, -, -, -, -, a4, -, -, b4, -⟩ := hh.2
  obtain ⟨o, r4⟩ := rowT_of a4
  have r4' : rowT (R' 4) T' n4 o := by
    rw [hk.1 4 (by decide)]
    exact rowT_kR r4 (fun z => h.1.2.2.2.2.2 z.symm) hk
  have hns := (b_sh hh.1).1
  have eA := anL_6 (I := I) (J := J) (f6 := f6) (ls I J)
  refine pe_mono (pe_searchNeeds (L := ls I J) (n := n) (f := f) (nc := nc) ⟨g2, g4, g5, g6, by rw [c3]; exact hns, fun t ht => ls_512 h.1.1 hh.1 ht, fun t ht s hs => ?_, by rw [c1]; exact e16, ⟨n1, n2⟩, fun t ht => by rw [ly_w_6]; exact (xps_on h hh.1 ht 0).1⟩ hcp.2.2.2.2 g3 r4' b4 h400 ?_) ?_
  · rw [c3] at hs
    have := ly_in h.1.1 hh.1 ht hs
    have := (fi_n h.1.1 hs).2.1
    omega
  · rw [c22, c28, eA]
    rcases hd with hd | ⟨hd1, hd2⟩
    · exact Or.inl hd
    · refine Or.inr ⟨hd1, fun k hk => ?_⟩
      have h5 := hd2 k hk
      unfold ndN at h5
      rw [enc] at h5
      exact h5
  · rintro r h' ⟨rfl, A, B, R2, T2, rfl, q1, q2, q3, q4⟩
    rw [eA] at q2
    have hq : ∀ k, k < (ls I J).length → A 28 k = Int32.ofNat (ndN I J k) := fun k hk => by
      unfold ndN
      rw [enc]
      exact q2 k hk
    obtain ⟨b1, b2⟩ := ko_b q3 q4
    refine ⟨rfl, A, B, R2, T2, rfl, ?_, hq, Or.inr ⟨q1, fun k hk => ?_⟩⟩
    · rw [q3 6 (by decide) (by decide) (by decide) (by decide) (by decide) (by decide)]
      exact g2
    · rw [b1, ls_69] at hk
      rw [b2, nd_6]
      exact hq k hk
theorem ndN_le (k : Nat) : ndN I J k ≤ (ls I J).length := nd_le _ _ _
noncomputable def F6 (h : ez_H) : Prop := ∃ A B R' T', h = ev_hp A B R' T' ∧ d6 A B
theorem pe_xneed (h : rl3 I J R T) (hd : d6 I J) (hh : cx_hok cx_B0 I R T) : pe N X 34 [.ref 0, .int x] (ev_hp I J R T) (fun r h => r = some (.int (v_need I J x)) ∧ F6 h) := by
  refine pe_of (pw_p (nn_0 ⟨_, pe_crowded h.1.1 hh h.1.2, ?_⟩))
  rintro r h' (⟨h1, rfl, rfl⟩ | ⟨h1, rfl, h2⟩)
  · refine pw_p (nn_4 ⟨fun z => absurd z (by decide), fun _ => ⟨?_, I, J, R, T, rfl, hd⟩⟩)
    unfold v_need
    rw [if_neg (fun z => by have := z.1; omega)]
  · have hsn := fun N (h400 : (ls I J).length ≤ 400) => pe_sneeds (N := N) (X := X) h hd hh h400 h2
    obtain ⟨f6, R', T', rfl, g1, ⟨g2, g3⟩, g7⟩ := h2
    have d6' : F6 (ev_hp (ev_sI I 6 f6) J R' T') := by
      refine ⟨_, _, _, _, rfl, ?_⟩
      unfold d6
      rw [cx_sI_n _ _ (show (22 : Nat) ≠ 6 by decide), cx_sI_n _ _ (show (28 : Nat) ≠ 6 by decide), ls_69]
      simp only [nd_6]
      exact hd
    refine pw_p (nn_4 ⟨fun g => ?_, fun g => ?_⟩)
    · have h400 : (ls I J).length ≤ 400 := by
        apply Classical.byContradiction
        intro z
        rw [if_neg z] at g
        exact absurd g (by decide)
      rw [g2]
      refine ⟨fun hx => ⟨_, hsn _ h400, ?_⟩, fun hx => ⟨?_, d6'⟩⟩
      · rintro r h' ⟨rfl, A, B, R2, T2, rfl, q0, q1, q2⟩
        obtain ⟨k, rfl, hk⟩ := wi_len (by omega) hx
        refine pw_p (nn_28 ⟨?_, A, B, R2, T2, rfl, q2⟩)
        unfold v_need
        rw [if_pos ⟨h1, h400⟩, if_neg hx, at_in (show k < 400 by omega) (by decide), q1 k hk, io_ti (by omega), Int.toNat_natCast]
      · unfold v_need
        rw [if_pos ⟨h1, h400⟩, if_pos (Classical.not_not.mp hx)]
    · have h400 : ¬ (ls I J).length ≤ 400 := fun z => g (by rw [if_pos z])
      refine ⟨?_, d6'⟩
      unfold v_need
      rw [if_neg (fun z => h400 z.2)]
theorem pe_xhardest (h : rl3 I J R T) (hd : d6 I J) (hh : cx_hok cx_B0 I R T) : pe N X 20 [.ref 0, .int x] (ev_hp I J R T) (fun r h => r = some (.int (v_hardest I J x)) ∧ F6 h) := by
  refine pe_of (pw_p (hh_0 ⟨fun hx => ⟨_, pe_crowded h.1.1 hh h.1.2, ?_⟩, fun hx => ⟨?_, I, J, R, T, rfl, hd⟩⟩))
  rotate_left
  · unfold v_hardest
    rw [if_pos (Classical.not_not.mp hx)]
  rintro r h' (⟨h1, rfl, rfl⟩ | ⟨h1, rfl, h2⟩)
  · refine pw_p (hh_16 ⟨fun z => absurd z (by decide), fun _ => ⟨?_, I, J, R, T, rfl, hd⟩⟩)
    unfold v_hardest
    rw [if_neg hx, if_neg (fun z => by have := z.1; omega)]
  · have hsn := fun N (h400 : (ls I J).length ≤ 400) => pe_sneeds (N := N) (X := X) h hd hh h400 h2
    obtain ⟨f6, R', T', rfl, g1, ⟨g2, g3⟩, g7⟩ := h2
    have d6' : F6 (ev_hp (ev_sI I 6 f6) J R' T') := by
      refine ⟨_, _, _, _, rfl, ?_⟩
      unfold d6
      rw [cx_sI_n _ _ (show (22 : Nat) ≠ 6 by decide), cx_sI_n _ _ (show (28 : Nat) ≠ 6 by decide), ls_69]
      simp only [nd_6]
      exact hd
    refine pw_p (hh_16 ⟨fun g => ?_, fun g => ?_⟩)
    · have h400 : (ls I J).length ≤ 400 := by
        apply Classical.byContradiction
        intro z
        rw [if_neg z] at g
        exact absurd g (by decide)
      rw [g2]
      by_cases hl0 : (ls I J).length = 0
      · refine ⟨fun z => ?_, fun _ => ⟨?_, d6'⟩⟩
        · rw [hl0] at z
          exact absurd rfl z
        · unfold v_hardest
          rw [if_neg hx, if_pos ⟨h1, h400⟩, if_pos hl0]
      · refine ⟨fun _ => ⟨_, hsn _ h400, ?_⟩, fun z => ?_⟩
        · rintro r h' ⟨rfl, A, B, R2, T2, rfl, q0, q1, q2⟩
          have hm := mnN_lt (ndN I J) (ls I J).length (by omega)
          refine pw_p (hh_41 ⟨fun hx2 => ⟨_, pe_mostNeedy (F := ndN I J) q0 (by omega) h400 (fun k hk => ⟨q1 k hk, by have := ndN_le (I := I) (J := J) k; omega⟩), ?_⟩, fun hx2 => ⟨_, pe_allNeeds (F := ndN I J) q0 h400 q1, ?_⟩⟩)
          · rintro r h' ⟨rfl, rfl⟩
            refine pw_p (hh_61 ⟨fun hx0 => ⟨?_, A, B, R2, T2, rfl, q2⟩, fun hx0 => ⟨?_, A, B, R2, T2, rfl, q2⟩⟩)
            · unfold v_hardest
              rw [if_neg hx, if_pos ⟨h1, h400⟩, if_neg hl0, if_neg hx2, if_neg hx0, at_in (show mnN (ndN I J) (ls I J).length < 400 by omega) (by decide), q1 _ hm]
            · unfold v_hardest
              rw [if_neg hx, if_pos ⟨h1, h400⟩, if_neg hl0, if_neg hx2, if_pos (Classical.not_not.mp hx0)]
          · rintro r h' ⟨rfl, rfl⟩
            refine pw_p (hh_53 ⟨?_, A, B, R2, T2, rfl, q2⟩)
            unfold v_hardest
            rw [if_neg hx, if_pos ⟨h1, h400⟩, if_neg hl0, if_pos (Classical.not_not.mp hx2)]
        · rw [show (0 : Int32) = Int32.ofNat 0 from rfl, io_eq (by omega) (by omega)] at z
          exact absurd hl0 z
    · have h400 : ¬ (ls I J).length ≤ 400 := fun z => g (by rw [if_pos z])
      refine ⟨?_, d6'⟩
      unfold v_hardest
      rw [if_neg hx, if_neg (fun z => h400 z.2)]
end
end
section
/-! The reference: need. -/
section
variable {N : Nat} {X : ez_X} {I : Nat → Nat → Int32} {J : Nat → Nat → Int64} {R : Nat → Nat} {T : List ez_C} {Q : pw_Q} {cz kz : Nat}
set_option maxRecDepth 100000 in
theorem cu9_r0 {a0 : Int32} {a1 : Int32} {a2 : Int64} : ∀ G : ez_F, fx_up X 2 G 216 0 [.ref 35, .int a0, .int a1, .long a2, ez_fill] [] (ev_hp I J R T) cz kz = G 216 3 [.ref 35, .int a0, .int a1, .long a2, ez_fill, .int (0 : Int32)] [] (ev_hp I J R T) cz kz := by
  intro G
  rfl
theorem pl9_0 {k c : Int32} {z : Int64}
    (H : pw N X 216 3 [.ref 35, .int k, .int c, .long z, ez_fill, .int (0 : Int32)] [] (ev_hp I J R T) Q) : pw (N + 1) X 216 0 [.ref 35, .int k, .int c, .long z, ez_fill] [] (ev_hp I J R T) Q := by
  refine pw_seg (by decide) (fun _ _ => cu9_r0) ?_
  exact H
set_option maxRecDepth 100000 in
theorem cu9_r1 {a0 : Int32} {a1 : Int32} {a2 : Int64} {a3 : Int32} : ∀ G : ez_F, fx_up X 3 G 216 3 [.ref 35, .int a0, .int a1, .long a2, ez_fill, .int a3] [] (ev_hp I J R T) cz kz = G 216 9 [.ref 35, .int a0, .int a1, .long a2, ez_fill, .int a3] [.int (I 35 3), .int a3] (ev_hp I J R T) cz kz := by
  intro G
  rfl
set_option maxRecDepth 100000 in
theorem cu9_r2 {a0 : Int32} {a1 : Int32} {a2 : Int64} {a3 : Int32} {a4 : Int32} {a5 : Int32} : ∀ G : ez_F, fx_up X 1 G 216 9 [.ref 35, .int a0, .int a1, .long a2, ez_fill, .int a3] [.int a4, .int a5] (ev_hp I J R T) cz kz = bif decide (a4 ≤ a5) then G 216 103 [.ref 35, .int a0, .int a1, .long a2, ez_fill, .int a3] [] (ev_hp I J R T) cz kz else G 216 12 [.ref 35, .int a0, .int a1, .long a2, ez_fill, .int a3] [] (ev_hp I J R T) cz kz := by
  intro G
  rfl
set_option maxRecDepth 100000 in
theorem cu9_r3 {a0 : Int32} {a1 : Int32} {a2 : Int64} {a3 : Int32} : ∀ G : ez_F, fx_up X 12 G 216 12 [.ref 35, .int a0, .int a1, .long a2, ez_fill, .int a3] [] (ev_hp I J R T) cz kz = G 216 32 [.ref 35, .int a0, .int a1, .long a2, ez_fill, .int a3] [.int (((3 : Int32) * a0) + a3), .ref 41, .int ((300 : Int32) * a3), .ref 39] (ev_hp I J R T) cz kz := by
  intro G
  rfl
set_option maxRecDepth 100000 in
theorem cu9_r4 {a0 : Int32} {a1 : Int32} {a2 : Int64} {a3 : Int32} {a4 : Int32} {a5 : Int32} : ∀ G : ez_F, fx_up X 1 G 216 33 [.ref 35, .int a0, .int a1, .long a2, ez_fill, .int a3] [.int a4, .int a5, .ref 39] (ev_hp I J R T) cz kz = G 216 34 [.ref 35, .int a0, .int a1, .long a2, ez_fill, .int a3] [.int (a5 + a4), .ref 39] (ev_hp I J R T) cz kz := by
  intro G
  rfl
set_option maxRecDepth 100000 in
theorem cu9_r5 {a0 : Int32} {a1 : Int32} {a2 : Int64} {a3 : Int32} {a4 : Int64} : ∀ G : ez_F, fx_up X 1 G 216 35 [.ref 35, .int a0, .int a1, .long a2, ez_fill, .int a3] [.long a4] (ev_hp I J R T) cz kz = G 216 37 [.ref 35, .int a0, .int a1, .long a2, ez_fill, .int a3, .long a4, ez_fill] [] (ev_hp I J R T) cz kz := by
  intro G
  rfl
theorem pl9_3 {k c s : Int32} {z : Int64}
    (H : (((I 35 3) ≤ s → pw N X 216 103 [.ref 35, .int k, .int c, .long z, ez_fill, .int s] [] (ev_hp I J R T) Q) ∧ (¬ ((I 35 3) ≤ s) → (ev_ix (((3 : Int32) * k) + s) 30003 → (ev_ix (((300 : Int32) * s) + (I 41 (((3 : Int32) * k) + s).toNatClampNeg)) 900 → pw N X 216 37 [.ref 35, .int k, .int c, .long z, ez_fill, .int s, .long (J 39 (((300 : Int32) * s) + (I 41 (((3 : Int32) * k) + s).toNatClampNeg)).toNatClampNeg), ez_fill] [] (ev_hp I J R T) Q))))) : pw (N + 1) X 216 3 [.ref 35, .int k, .int c, .long z, ez_fill, .int s] [] (ev_hp I J R T) Q := by
  refine pw_seg (by decide) (fun _ _ => cu9_r1) ?_
  refine pw_p (pw_if (by decide) (fun _ _ => cu9_r2) (fun w1 => ?_) (fun w1 => ?_))
  · have h1 := H.1 w1
    exact h1
  · have h1 := H.2 w1
    refine pw_p (pw_seg (by decide) (fun _ _ => cu9_r3) ?_)
    refine pw_p (pw_iald (by rfl) (cx_getI (show cx_Ds[41]? = some (0, 30003, []) from rfl)) (fun w2 => ?_))
    have h2 := h1 w2
    refine pw_p (pw_seg (by decide) (fun _ _ => cu9_r4) ?_)
    refine pw_p (pw_lald (by rfl) (cx_getJ (show cx_Ds[39]? = some (1, 900, []) from rfl)) (fun w2 => ?_))
    have h2 := h2 w2
    refine pw_p (pw_seg (by decide) (fun _ _ => cu9_r5) ?_)
    exact h2
set_option maxRecDepth 100000 in
theorem cu9_r6 {a0 : Int32} {a1 : Int32} {a2 : Int64} {a3 : Int32} {a4 : Int64} : ∀ G : ez_F, fx_up X 3 G 216 37 [.ref 35, .int a0, .int a1, .long a2, ez_fill, .int a3, .long a4, ez_fill] [] (ev_hp I J R T) cz kz = ev_C G 197 [.long a4, .int a1] (ev_hp I J R T) fun r h1 c1 k1 => G 216 43 [.ref 35, .int a0, .int a1, .long a2, ez_fill, .int a3, .long a4, ez_fill] (r.toList ++ []) h1 (cz + c1) (kz + k1) := by
  intro G
  rfl
set_option maxRecDepth 100000 in
theorem cu9_r7 {a0 : Int32} {a1 : Int32} {a2 : Int64} {a3 : Int32} {a4 : Int64} {a5 : Int32} : ∀ G : ez_F, fx_up X 1 G 216 43 [.ref 35, .int a0, .int a1, .long a2, ez_fill, .int a3, .long a4, ez_fill] [.int a5] (ev_hp I J R T) cz kz = bif decide (a5 = (0 : Int32)) then G 216 97 [.ref 35, .int a0, .int a1, .long a2, ez_fill, .int a3, .long a4, ez_fill] [] (ev_hp I J R T) cz kz else G 216 46 [.ref 35, .int a0, .int a1, .long a2, ez_fill, .int a3, .long a4, ez_fill] [] (ev_hp I J R T) cz kz := by
  intro G
  rfl
set_option maxRecDepth 100000 in
theorem cu9_r8 {a0 : Int32} {a1 : Int32} {a2 : Int64} {a3 : Int32} {a4 : Int64} : ∀ G : ez_F, fx_up X 2 G 216 97 [.ref 35, .int a0, .int a1, .long a2, ez_fill, .int a3, .long a4, ez_fill] [] (ev_hp I J R T) cz kz = G 216 3 [.ref 35, .int a0, .int a1, .long a2, ez_fill, .int (a3 + (1 : Int32)), .long a4, ez_fill] [] (ev_hp I J R T) cz kz := by
  intro G
  rfl
set_option maxRecDepth 100000 in
theorem cu9_r9 {a0 : Int32} {a1 : Int32} {a2 : Int64} {a3 : Int32} {a4 : Int64} : ∀ G : ez_F, fx_up X 3 G 216 46 [.ref 35, .int a0, .int a1, .long a2, ez_fill, .int a3, .long a4, ez_fill] [] (ev_hp I J R T) cz kz = ev_C G 197 [.long a2, .int a1] (ev_hp I J R T) fun r h1 c1 k1 => G 216 51 [.ref 35, .int a0, .int a1, .long a2, ez_fill, .int a3, .long a4, ez_fill] (r.toList ++ []) h1 (cz + c1) (kz + k1) := by
  intro G
  rfl
set_option maxRecDepth 100000 in
theorem cu9_r10 {a0 : Int32} {a1 : Int32} {a2 : Int64} {a3 : Int32} {a4 : Int64} {a5 : Int32} : ∀ G : ez_F, fx_up X 1 G 216 51 [.ref 35, .int a0, .int a1, .long a2, ez_fill, .int a3, .long a4, ez_fill] [.int a5] (ev_hp I J R T) cz kz = bif decide (¬ a5 = (0 : Int32)) then G 216 75 [.ref 35, .int a0, .int a1, .long a2, ez_fill, .int a3, .long a4, ez_fill] [] (ev_hp I J R T) cz kz else G 216 54 [.ref 35, .int a0, .int a1, .long a2, ez_fill, .int a3, .long a4, ez_fill] [] (ev_hp I J R T) cz kz := by
  intro G
  rfl
set_option maxRecDepth 100000 in
theorem cu9_r11 {a0 : Int32} {a1 : Int32} {a2 : Int64} {a3 : Int32} {a4 : Int64} : ∀ G : ez_F, fx_up X 4 G 216 75 [.ref 35, .int a0, .int a1, .long a2, ez_fill, .int a3, .long a4, ez_fill] [] (ev_hp I J R T) cz kz = G 216 82 [.ref 35, .int a0, .int a1, .long a2, ez_fill, .int a3, .long a4, ez_fill, .int (0 : Int32)] [.int (I 35 7)] (ev_hp I J R T) cz kz := by
  intro G
  rfl
set_option maxRecDepth 100000 in
theorem cu9_r12 {a0 : Int32} {a1 : Int32} {a2 : Int64} {a3 : Int32} {a4 : Int64} {a5 : Int32} {a6 : Int32} : ∀ G : ez_F, fx_up X 2 G 216 82 [.ref 35, .int a0, .int a1, .long a2, ez_fill, .int a3, .long a4, ez_fill, .int a5] [.int a6] (ev_hp I J R T) cz kz = bif decide (¬ a6 = (1 : Int32)) then G 216 95 [.ref 35, .int a0, .int a1, .long a2, ez_fill, .int a3, .long a4, ez_fill, .int a5] [] (ev_hp I J R T) cz kz else G 216 86 [.ref 35, .int a0, .int a1, .long a2, ez_fill, .int a3, .long a4, ez_fill, .int a5] [] (ev_hp I J R T) cz kz := by
  intro G
  rfl
set_option maxRecDepth 100000 in
theorem cu9_r13 {a0 : Int32} {a1 : Int32} {a2 : Int64} {a3 : Int32} {a4 : Int64} {a5 : Int32} : ∀ G : ez_F, fx_up X 2 G 216 95 [.ref 35, .int a0, .int a1, .long a2, ez_fill, .int a3, .long a4, ez_fill, .int a5] [] (ev_hp I J R T) cz kz = some (some (.int (1 : Int32)), (ev_hp I J R T), cz, kz) := by
  intro G
  rfl
set_option maxRecDepth 100000 in
theorem cu9_r14 {a0 : Int32} {a1 : Int32} {a2 : Int64} {a3 : Int32} {a4 : Int64} {a5 : Int32} : ∀ G : ez_F, fx_up X 2 G 216 86 [.ref 35, .int a0, .int a1, .long a2, ez_fill, .int a3, .long a4, ez_fill, .int a5] [] (ev_hp I J R T) cz kz = bif decide (a5 = (0 : Int32)) then G 216 95 [.ref 35, .int a0, .int a1, .long a2, ez_fill, .int a3, .long a4, ez_fill, .int a5] [] (ev_hp I J R T) cz kz else G 216 91 [.ref 35, .int a0, .int a1, .long a2, ez_fill, .int a3, .long a4, ez_fill, .int a5] [] (ev_hp I J R T) cz kz := by
  intro G
  rfl
set_option maxRecDepth 100000 in
theorem cu9_r15 {a0 : Int32} {a1 : Int32} {a2 : Int64} {a3 : Int32} {a4 : Int64} : ∀ G : ez_F, fx_up X 12 G 216 54 [.ref 35, .int a0, .int a1, .long a2, ez_fill, .int a3, .long a4, ez_fill] [] (ev_hp I J R T) cz kz = bif decide (¬ (lg_cmp (a4 &&& ((a2 ||| ((1 : Int64) <<< (a1.toInt64 &&& (63 : Int64)))) ^^^ (18446744073709551615 : Int64))) (0 : Int64)) = (0 : Int32)) then G 216 75 [.ref 35, .int a0, .int a1, .long a2, ez_fill, .int a3, .long a4, ez_fill] [] (ev_hp I J R T) cz kz else G 216 71 [.ref 35, .int a0, .int a1, .long a2, ez_fill, .int a3, .long a4, ez_fill] [] (ev_hp I J R T) cz kz := by
  intro G
  rfl
set_option maxRecDepth 100000 in
theorem cu9_r16 {a0 : Int32} {a1 : Int32} {a2 : Int64} {a3 : Int32} {a4 : Int64} : ∀ G : ez_F, fx_up X 5 G 216 71 [.ref 35, .int a0, .int a1, .long a2, ez_fill, .int a3, .long a4, ez_fill] [] (ev_hp I J R T) cz kz = G 216 82 [.ref 35, .int a0, .int a1, .long a2, ez_fill, .int a3, .long a4, ez_fill, .int (1 : Int32)] [.int (I 35 7)] (ev_hp I J R T) cz kz := by
  intro G
  rfl
set_option maxRecDepth 100000 in
theorem cu9_r17 {a0 : Int32} {a1 : Int32} {a2 : Int64} {a3 : Int32} {a4 : Int64} {a5 : Int32} : ∀ G : ez_F, fx_up X 3 G 216 91 [.ref 35, .int a0, .int a1, .long a2, ez_fill, .int a3, .long a4, ez_fill, .int a5] [] (ev_hp I J R T) cz kz = some (some (.int (2 : Int32)), (ev_hp I J R T), cz, kz) := by
  intro G
  rfl
theorem pl9_37 {k c s : Int32} {z w : Int64}
    (H : (((ev_has w c) = (0 : Int32) → pw N X 216 3 [.ref 35, .int k, .int c, .long z, ez_fill, .int (s + (1 : Int32))] [] (ev_hp I J R T) Q) ∧ (¬ ((ev_has w c) = (0 : Int32)) → ((¬ (ev_has z c) = (0 : Int32) → ((¬ (I 35 7) = (1 : Int32) → Q (some (.int (1 : Int32))) (ev_hp I J R T)) ∧ (¬ (¬ (I 35 7) = (1 : Int32)) → Q (some (.int (1 : Int32))) (ev_hp I J R T)))) ∧ (¬ (¬ (ev_has z c) = (0 : Int32)) → ((¬ (lg_cmp (w &&& ((z ||| ((1 : Int64) <<< (c.toInt64 &&& (63 : Int64)))) ^^^ (18446744073709551615 : Int64))) (0 : Int64)) = (0 : Int32) → ((¬ (I 35 7) = (1 : Int32) → Q (some (.int (1 : Int32))) (ev_hp I J R T)) ∧ (¬ (¬ (I 35 7) = (1 : Int32)) → Q (some (.int (1 : Int32))) (ev_hp I J R T)))) ∧ (¬ (¬ (lg_cmp (w &&& ((z ||| ((1 : Int64) <<< (c.toInt64 &&& (63 : Int64)))) ^^^ (18446744073709551615 : Int64))) (0 : Int64)) = (0 : Int32)) → ((¬ (I 35 7) = (1 : Int32) → Q (some (.int (1 : Int32))) (ev_hp I J R T)) ∧ (¬ (¬ (I 35 7) = (1 : Int32)) → Q (some (.int (2 : Int32))) (ev_hp I J R T)))))))))) : pw (N + 1) X 216 37 [.ref 35, .int k, .int c, .long z, ez_fill, .int s, .long w, ez_fill] [] (ev_hp I J R T) Q := by
  refine pw_callp (by decide) (fun _ _ => cu9_r6) (pe_is (em_has _ _ _ _)) ?_
  refine pw_p (pw_if (by decide) (fun _ _ => cu9_r7) (fun w1 => ?_) (fun w1 => ?_))
  · have h1 := H.1 w1
    refine pw_p (pw_seg (by decide) (fun _ _ => cu9_r8) ?_)
    refine pw_cutl (by rfl) ?_
    exact h1
  · have h1 := H.2 w1
    refine pw_p (pw_callp (by decide) (fun _ _ => cu9_r9) (pe_is (em_has _ _ _ _)) ?_)
    refine pw_p (pw_if (by decide) (fun _ _ => cu9_r10) (fun w2 => ?_) (fun w2 => ?_))
    · have h2 := h1.1 w2
      refine pw_p (pw_seg (by decide) (fun _ _ => cu9_r11) ?_)
      refine pw_p (pw_if (by decide) (fun _ _ => cu9_r12) (fun w3 => ?_) (fun w3 => ?_))
      · have h3 := h2.1 w3
        exact pw_p (pw_ret (by decide) (fun _ _ => cu9_r13) h3)
      · have h3 := h2.2 w3
        refine pw_p (pw_if (by decide) (fun _ _ => cu9_r14) (fun w4 => ?_) (fun w4 => ?_))
        rotate_left
        · exact absurd (by decide) w4
        exact pw_p (pw_ret (by decide) (fun _ _ => cu9_r13) h3)
    · have h2 := h1.2 w2
      refine pw_p (pw_if (by decide) (fun _ _ => cu9_r15) (fun w3 => ?_) (fun w3 => ?_))
      · have h3 := h2.1 w3
        refine pw_p (pw_seg (by decide) (fun _ _ => cu9_r11) ?_)
        refine pw_p (pw_if (by decide) (fun _ _ => cu9_r12) (fun w4 => ?_) (fun w4 => ?_))
        · have h4 := h3.1 w4
          exact pw_p (pw_ret (by decide) (fun _ _ => cu9_r13) h4)
        · have h4 := h3.2 w4
          refine pw_p (pw_if (by decide) (fun _ _ => cu9_r14) (fun w5 => ?_) (fun w5 => ?_))
          rotate_left
          · exact absurd (by decide) w5
          exact pw_p (pw_ret (by decide) (fun _ _ => cu9_r13) h4)
      · have h3 := h2.2 w3
        refine pw_p (pw_seg (by decide) (fun _ _ => cu9_r16) ?_)
        refine pw_p (pw_if (by decide) (fun _ _ => cu9_r12) (fun w4 => ?_) (fun w4 => ?_))
        · have h4 := h3.1 w4
          exact pw_p (pw_ret (by decide) (fun _ _ => cu9_r13) h4)
        · have h4 := h3.2 w4
          refine pw_p (pw_if (by decide) (fun _ _ => cu9_r14) (fun w5 => ?_) (fun w5 => ?_))
          · exact absurd w5 (by decide)
          exact pw_p (pw_ret (by decide) (fun _ _ => cu9_r17) h4)
set_option maxRecDepth 100000 in
theorem cu9_r18 {a0 : Int32} {a1 : Int32} {a2 : Int64} {a3 : Int32} : ∀ G : ez_F, fx_up X 2 G 216 103 [.ref 35, .int a0, .int a1, .long a2, ez_fill, .int a3] [] (ev_hp I J R T) cz kz = some (some (.int (0 : Int32)), (ev_hp I J R T), cz, kz) := by
  intro G
  rfl
theorem pl9_103 {k c s : Int32} {z : Int64}
    (H : Q (some (.int (0 : Int32))) (ev_hp I J R T)) : pw (N + 1) X 216 103 [.ref 35, .int k, .int c, .long z, ez_fill, .int s] [] (ev_hp I J R T) Q := by
  exact pw_ret (by decide) (fun _ _ => cu9_r18) H
set_option maxRecDepth 100000 in
theorem cu9_r19 {a0 : Int32} : ∀ G : ez_F, fx_up X 2 G 213 0 [.ref 35, .int a0] [] (ev_hp I J R T) cz kz = G 213 4 [.ref 35, .int a0] [.int (I 35 14)] (ev_hp I J R T) cz kz := by
  intro G
  rfl
set_option maxRecDepth 100000 in
theorem cu9_r20 {a0 : Int32} {a1 : Int32} : ∀ G : ez_F, fx_up X 3 G 213 4 [.ref 35, .int a0] [.int a1] (ev_hp I J R T) cz kz = G 213 7 [.ref 35, .int a0, .int a1, .int (0 : Int32)] [] (ev_hp I J R T) cz kz := by
  intro G
  rfl
theorem nf9_0 {k : Int32}
    (H : pw N X 213 7 [.ref 35, .int k, .int (I 35 14), .int (0 : Int32)] [] (ev_hp I J R T) Q) : pw (N + 1) X 213 0 [.ref 35, .int k] [] (ev_hp I J R T) Q := by
  refine pw_seg (by decide) (fun _ _ => cu9_r19) ?_
  refine pw_p (pw_seg (by decide) (fun _ _ => cu9_r20) ?_)
  exact H
set_option maxRecDepth 100000 in
theorem cu9_r21 {a0 : Int32} {a1 : Int32} {a2 : Int32} : ∀ G : ez_F, fx_up X 3 G 213 7 [.ref 35, .int a0, .int a1, .int a2] [] (ev_hp I J R T) cz kz = bif decide (a1 ≤ a2) then G 213 25 [.ref 35, .int a0, .int a1, .int a2] [] (ev_hp I J R T) cz kz else G 213 12 [.ref 35, .int a0, .int a1, .int a2] [] (ev_hp I J R T) cz kz := by
  intro G
  rfl
set_option maxRecDepth 100000 in
theorem cu9_r22 {a0 : Int32} {a1 : Int32} {a2 : Int32} : ∀ G : ez_F, fx_up X 3 G 213 25 [.ref 35, .int a0, .int a1, .int a2] [] (ev_hp I J R T) cz kz = G 213 30 [.ref 35, .int a0, .int a1, .int a2] [] (ev_hp (ev_sI I 35 (upd (I 35) 36 (0 : Int32))) J R T) cz kz := by
  intro G
  rfl
set_option maxRecDepth 100000 in
theorem cu9_r23 {a0 : Int32} {a1 : Int32} {a2 : Int32} : ∀ G : ez_F, fx_up X 5 G 213 30 [.ref 35, .int a0, .int a1, .int a2] [] (ev_hp I J R T) cz kz = bif decide (a1 ≤ (1 : Int32)) then G 213 41 [.ref 35, .int a0, .int a1, .long (0 : Int64), ez_fill] [] (ev_hp I J R T) cz kz else G 213 37 [.ref 35, .int a0, .int a1, .long (0 : Int64), ez_fill] [] (ev_hp I J R T) cz kz := by
  intro G
  rfl
set_option maxRecDepth 100000 in
theorem cu9_r24 {a0 : Int32} {a1 : Int32} {a2 : Int64} : ∀ G : ez_F, fx_up X 2 G 213 41 [.ref 35, .int a0, .int a1, .long a2, ez_fill] [] (ev_hp I J R T) cz kz = G 213 44 [.ref 35, .int a0, .int a1, .long a2, ez_fill, .int (0 : Int32)] [] (ev_hp I J R T) cz kz := by
  intro G
  rfl
set_option maxRecDepth 100000 in
theorem cu9_r25 {a0 : Int32} {a1 : Int32} {a2 : Int64} : ∀ G : ez_F, fx_up X 3 G 213 37 [.ref 35, .int a0, .int a1, .long a2, ez_fill] [] (ev_hp I J R T) cz kz = G 213 44 [.ref 35, .int a0, .int a1, .long a2, ez_fill, .int (1 : Int32)] [] (ev_hp I J R T) cz kz := by
  intro G
  rfl
set_option maxRecDepth 100000 in
theorem cu9_r26 {a0 : Int32} {a1 : Int32} {a2 : Int32} : ∀ G : ez_F, fx_up X 4 G 213 12 [.ref 35, .int a0, .int a1, .int a2] [] (ev_hp I J R T) cz kz = G 213 18 [.ref 35, .int a0, .int a1, .int a2] [.int a2, .int a2, .ref 59] (ev_hp I J R T) cz kz := by
  intro G
  rfl
set_option maxRecDepth 100000 in
theorem cu9_r27 {a0 : Int32} {a1 : Int32} {a2 : Int32} : ∀ G : ez_F, fx_up X 2 G 213 19 [.ref 35, .int a0, .int a1, .int a2] [] (ev_hp I J R T) cz kz = G 213 7 [.ref 35, .int a0, .int a1, .int (a2 + (1 : Int32))] [] (ev_hp I J R T) cz kz := by
  intro G
  rfl
theorem nf_7 {k n i : Int32}
    (H : ((n ≤ i → ((n ≤ (1 : Int32) → pw N X 213 44 [.ref 35, .int k, .int n, .long (0 : Int64), ez_fill, .int (0 : Int32)] [] (ev_hp (ev_sI I 35 (upd (I 35) 36 (0 : Int32))) J R T) Q) ∧ (¬ (n ≤ (1 : Int32)) → pw N X 213 44 [.ref 35, .int k, .int n, .long (0 : Int64), ez_fill, .int (1 : Int32)] [] (ev_hp (ev_sI I 35 (upd (I 35) 36 (0 : Int32))) J R T) Q))) ∧ (¬ (n ≤ i) → (ev_ix i 401 → pw N X 213 7 [.ref 35, .int k, .int n, .int (i + (1 : Int32))] [] (ev_hp (ev_sI I 59 (upd (I 59) i.toNatClampNeg i)) J R T) Q)))) : pw (N + 1) X 213 7 [.ref 35, .int k, .int n, .int i] [] (ev_hp I J R T) Q := by
  refine pw_if (by decide) (fun _ _ => cu9_r21) (fun w1 => ?_) (fun w1 => ?_)
  · have h1 := H.1 w1
    refine pw_p (pw_seg (by decide) (fun _ _ => cu9_r22) ?_)
    refine pw_p (pw_if (by decide) (fun _ _ => cu9_r23) (fun w2 => ?_) (fun w2 => ?_))
    · have h2 := h1.1 w2
      refine pw_p (pw_seg (by decide) (fun _ _ => cu9_r24) ?_)
      exact h2
    · have h2 := h1.2 w2
      refine pw_p (pw_seg (by decide) (fun _ _ => cu9_r25) ?_)
      exact h2
  · have h1 := H.2 w1
    refine pw_p (pw_seg (by decide) (fun _ _ => cu9_r26) ?_)
    refine pw_p (pw_iast (by rfl) (cx_getI (show cx_Ds[59]? = some (0, 401, []) from rfl)) (cx_setI (show cx_Ds[59]? = some (0, 401, []) from rfl) _) (fun w2 => ?_))
    have h2 := h1 w2
    refine pw_p (pw_seg (by decide) (fun _ _ => cu9_r27) ?_)
    exact h2
set_option maxRecDepth 100000 in
theorem cu9_r28 {a0 : Int32} {a1 : Int32} {a2 : Int64} {a3 : Int32} : ∀ G : ez_F, fx_up X 2 G 213 44 [.ref 35, .int a0, .int a1, .long a2, ez_fill, .int a3] [] (ev_hp I J R T) cz kz = bif decide (a3 = (0 : Int32)) then G 213 350 [.ref 35, .int a0, .int a1, .long a2, ez_fill, .int a3] [] (ev_hp I J R T) cz kz else G 213 49 [.ref 35, .int a0, .int a1, .long a2, ez_fill, .int a3] [] (ev_hp I J R T) cz kz := by
  intro G
  rfl
set_option maxRecDepth 100000 in
theorem cu9_r29 {a0 : Int32} {a1 : Int32} {a2 : Int64} {a3 : Int32} : ∀ G : ez_F, fx_up X 2 G 213 350 [.ref 35, .int a0, .int a1, .long a2, ez_fill, .int a3] [] (ev_hp I J R T) cz kz = G 213 354 [.ref 35, .int a0, .int a1, .long a2, ez_fill, .int a3] [.int (I 35 36)] (ev_hp I J R T) cz kz := by
  intro G
  rfl
set_option maxRecDepth 100000 in
theorem cu9_r30 {a0 : Int32} {a1 : Int32} {a2 : Int64} {a3 : Int32} {a4 : Int32} : ∀ G : ez_F, fx_up X 1 G 213 354 [.ref 35, .int a0, .int a1, .long a2, ez_fill, .int a3] [.int a4] (ev_hp I J R T) cz kz = some (some (.int a4), (ev_hp I J R T), cz, kz) := by
  intro G
  rfl
set_option maxRecDepth 100000 in
theorem cu9_r31 {a0 : Int32} {a1 : Int32} {a2 : Int64} {a3 : Int32} : ∀ G : ez_F, fx_up X 8 G 213 49 [.ref 35, .int a0, .int a1, .long a2, ez_fill, .int a3] [] (ev_hp I J R T) cz kz = G 213 60 [.ref 35, .int a0, .int a1, .long a2, ez_fill, .int a3, .int (0 : Int32), .int (a1 + (1 : Int32)), .int (0 : Int32)] [] (ev_hp I J R T) cz kz := by
  intro G
  rfl
theorem nf_44 {k n p : Int32} {z : Int64}
    (H : ((p = (0 : Int32) → Q (some (.int (I 35 36))) (ev_hp I J R T)) ∧ (¬ (p = (0 : Int32)) → pw N X 213 60 [.ref 35, .int k, .int n, .long z, ez_fill, .int p, .int (0 : Int32), .int (n + (1 : Int32)), .int (0 : Int32)] [] (ev_hp I J R T) Q))) : pw (N + 1) X 213 44 [.ref 35, .int k, .int n, .long z, ez_fill, .int p] [] (ev_hp I J R T) Q := by
  refine pw_if (by decide) (fun _ _ => cu9_r28) (fun w1 => ?_) (fun w1 => ?_)
  · have h1 := H.1 w1
    refine pw_p (pw_seg (by decide) (fun _ _ => cu9_r29) ?_)
    exact pw_p (pw_ret (by decide) (fun _ _ => cu9_r30) h1)
  · have h1 := H.2 w1
    refine pw_p (pw_seg (by decide) (fun _ _ => cu9_r31) ?_)
    exact h1
set_option maxRecDepth 100000 in
theorem cu9_r32 {a0 : Int32} {a1 : Int32} {a2 : Int64} {a3 : Int32} {a4 : Int32} {a5 : Int32} {a6 : Int32} : ∀ G : ez_F, fx_up X 3 G 213 60 [.ref 35, .int a0, .int a1, .long a2, ez_fill, .int a3, .int a4, .int a5, .int a6] [] (ev_hp I J R T) cz kz = ev_C G 179 [.ref 35] (ev_hp I J R T) fun r h1 c1 k1 => G 213 66 [.ref 35, .int a0, .int a1, .long a2, ez_fill, .int a3, .int a4, .int a5, .int a6] (r.toList ++ [.int a6]) h1 (cz + c1) (kz + k1) := by
  intro G
  rfl
set_option maxRecDepth 100000 in
theorem cu9_r33 {a0 : Int32} {a1 : Int32} {a2 : Int64} {a3 : Int32} {a4 : Int32} {a5 : Int32} {a6 : Int32} {a7 : Int32} {a8 : Int32} : ∀ G : ez_F, fx_up X 1 G 213 66 [.ref 35, .int a0, .int a1, .long a2, ez_fill, .int a3, .int a4, .int a5, .int a6] [.int a7, .int a8] (ev_hp I J R T) cz kz = bif decide (a7 ≤ a8) then G 213 222 [.ref 35, .int a0, .int a1, .long a2, ez_fill, .int a3, .int a4, .int a5, .int a6] [] (ev_hp I J R T) cz kz else G 213 69 [.ref 35, .int a0, .int a1, .long a2, ez_fill, .int a3, .int a4, .int a5, .int a6] [] (ev_hp I J R T) cz kz := by
  intro G
  rfl
set_option maxRecDepth 100000 in
theorem cu9_r34 {a0 : Int32} {a1 : Int32} {a2 : Int64} {a3 : Int32} {a4 : Int32} {a5 : Int32} {a6 : Int32} : ∀ G : ez_F, fx_up X 4 G 213 69 [.ref 35, .int a0, .int a1, .long a2, ez_fill, .int a3, .int a4, .int a5, .int a6] [] (ev_hp I J R T) cz kz = G 213 75 [.ref 35, .int a0, .int a1, .long a2, ez_fill, .int a3, .int a4, .int a5, .int a6] [.int (0 : Int32), .int (0 : Int32), .ref 53] (ev_hp I J R T) cz kz := by
  intro G
  rfl
set_option maxRecDepth 100000 in
theorem cu9_r35 {a0 : Int32} {a1 : Int32} {a2 : Int64} {a3 : Int32} {a4 : Int32} {a5 : Int32} {a6 : Int32} : ∀ G : ez_F, fx_up X 4 G 213 76 [.ref 35, .int a0, .int a1, .long a2, ez_fill, .int a3, .int a4, .int a5, .int a6] [] (ev_hp I J R T) cz kz = G 213 82 [.ref 35, .int a0, .int a1, .long a2, ez_fill, .int a3, .int a4, .int a5, .int a6] [.int (0 : Int32), .int (1 : Int32), .ref 53] (ev_hp I J R T) cz kz := by
  intro G
  rfl
set_option maxRecDepth 100000 in
theorem cu9_r36 {a0 : Int32} {a1 : Int32} {a2 : Int64} {a3 : Int32} {a4 : Int32} {a5 : Int32} {a6 : Int32} : ∀ G : ez_F, fx_up X 4 G 213 83 [.ref 35, .int a0, .int a1, .long a2, ez_fill, .int a3, .int a4, .int a5, .int a6] [] (ev_hp I J R T) cz kz = G 213 89 [.ref 35, .int a0, .int a1, .long a2, ez_fill, .int a3, .int a4, .int a5, .int a6] [.int (0 : Int32), .int (2 : Int32), .ref 53] (ev_hp I J R T) cz kz := by
  intro G
  rfl
set_option maxRecDepth 100000 in
theorem cu9_r37 {a0 : Int32} {a1 : Int32} {a2 : Int64} {a3 : Int32} {a4 : Int32} {a5 : Int32} {a6 : Int32} : ∀ G : ez_F, fx_up X 2 G 213 90 [.ref 35, .int a0, .int a1, .long a2, ez_fill, .int a3, .int a4, .int a5, .int a6] [] (ev_hp I J R T) cz kz = G 213 93 [.ref 35, .int a0, .int a1, .long a2, ez_fill, .int a3, .int a4, .int a5, .int a6, .int (0 : Int32)] [] (ev_hp I J R T) cz kz := by
  intro G
  rfl
theorem nf_60 {k n p b m c : Int32} {z : Int64}
    (H : ((((I 35 0) * (I 35 1)) ≤ c → pw N X 213 222 [.ref 35, .int k, .int n, .long z, ez_fill, .int p, .int b, .int m, .int c] [] (ev_hp I J R T) Q) ∧ (¬ (((I 35 0) * (I 35 1)) ≤ c) → (ev_ix (0 : Int32) 4 → (ev_ix (1 : Int32) 4 → (ev_ix (2 : Int32) 4 → pw N X 213 93 [.ref 35, .int k, .int n, .long z, ez_fill, .int p, .int b, .int m, .int c, .int (0 : Int32)] [] (ev_hp (ev_sI (ev_sI (ev_sI I 53 (upd (I 53) ((0 : Int32).toNatClampNeg) (0 : Int32))) 53 (upd (upd (I 53) ((0 : Int32).toNatClampNeg) (0 : Int32)) ((1 : Int32).toNatClampNeg) (0 : Int32))) 53 (upd (upd (upd (I 53) ((0 : Int32).toNatClampNeg) (0 : Int32)) ((1 : Int32).toNatClampNeg) (0 : Int32)) ((2 : Int32).toNatClampNeg) (0 : Int32))) J R T) Q)))))) : pw (N + 1) X 213 60 [.ref 35, .int k, .int n, .long z, ez_fill, .int p, .int b, .int m, .int c] [] (ev_hp I J R T) Q := by
  refine pw_callp (by decide) (fun _ _ => cu9_r32) (pe_mcount) ?_
  refine pw_p (pw_if (by decide) (fun _ _ => cu9_r33) (fun w1 => ?_) (fun w1 => ?_))
  · have h1 := H.1 w1
    exact h1
  · have h1 := H.2 w1
    refine pw_p (pw_seg (by decide) (fun _ _ => cu9_r34) ?_)
    refine pw_p (pw_iast (by rfl) (cx_getI (show cx_Ds[53]? = some (0, 4, []) from rfl)) (cx_setI (show cx_Ds[53]? = some (0, 4, []) from rfl) _) (fun w2 => ?_))
    have h2 := h1 w2
    refine pw_p (pw_seg (by decide) (fun _ _ => cu9_r35) ?_)
    refine pw_p (pw_iast (by rfl) (cx_getI (show cx_Ds[53]? = some (0, 4, []) from rfl)) (cx_setI (show cx_Ds[53]? = some (0, 4, []) from rfl) _) (fun w2 => ?_))
    have h2 := h2 w2
    refine pw_p (pw_seg (by decide) (fun _ _ => cu9_r36) ?_)
    refine pw_p (pw_iast (by rfl) (cx_getI (show cx_Ds[53]? = some (0, 4, []) from rfl)) (cx_setI (show cx_Ds[53]? = some (0, 4, []) from rfl) _) (fun w2 => ?_))
    have h2 := h2 w2
    refine pw_p (pw_seg (by decide) (fun _ _ => cu9_r37) ?_)
    exact h2
set_option maxRecDepth 100000 in
theorem cu9_r38 {a0 : Int32} {a1 : Int32} {a2 : Int64} {a3 : Int32} {a4 : Int32} {a5 : Int32} {a6 : Int32} {a7 : Int32} : ∀ G : ez_F, fx_up X 3 G 213 93 [.ref 35, .int a0, .int a1, .long a2, ez_fill, .int a3, .int a4, .int a5, .int a6, .int a7] [] (ev_hp I J R T) cz kz = bif decide (a1 ≤ a7) then G 213 128 [.ref 35, .int a0, .int a1, .long a2, ez_fill, .int a3, .int a4, .int a5, .int a6, .int a7] [] (ev_hp I J R T) cz kz else G 213 99 [.ref 35, .int a0, .int a1, .long a2, ez_fill, .int a3, .int a4, .int a5, .int a6, .int a7] [] (ev_hp I J R T) cz kz := by
  intro G
  rfl
set_option maxRecDepth 100000 in
theorem cu9_r39 {a0 : Int32} {a1 : Int32} {a2 : Int64} {a3 : Int32} {a4 : Int32} {a5 : Int32} {a6 : Int32} {a7 : Int32} : ∀ G : ez_F, fx_up X 6 G 213 99 [.ref 35, .int a0, .int a1, .long a2, ez_fill, .int a3, .int a4, .int a5, .int a6, .int a7] [] (ev_hp I J R T) cz kz = G 213 110 [.ref 35, .int a0, .int a1, .long a2, ez_fill, .int a3, .int a4, .int a5, .int a6, .int a7] [.int a7, .ref 59, .ref 35, .ref 53] (ev_hp I J R T) cz kz := by
  intro G
  rfl
set_option maxRecDepth 100000 in
theorem cu9_r40 {a0 : Int32} {a1 : Int32} {a2 : Int64} {a3 : Int32} {a4 : Int32} {a5 : Int32} {a6 : Int32} {a7 : Int32} {a8 : Int32} : ∀ G : ez_F, fx_up X 3 G 213 111 [.ref 35, .int a0, .int a1, .long a2, ez_fill, .int a3, .int a4, .int a5, .int a6, .int a7] [.int a8, .ref 35, .ref 53] (ev_hp I J R T) cz kz = ev_C G 216 [.ref 35, .int a8, .int a6, .long a2] (ev_hp I J R T) fun r h1 c1 k1 => G 213 117 [.ref 35, .int a0, .int a1, .long a2, ez_fill, .int a3, .int a4, .int a5, .int a6, .int a7] (r.toList ++ [.ref 53]) h1 (cz + c1) (kz + k1) := by
  intro G
  rfl
theorem nf_93 {k n p b m c i : Int32} {z : Int64}
    (H : ((n ≤ i → pw N X 213 128 [.ref 35, .int k, .int n, .long z, ez_fill, .int p, .int b, .int m, .int c, .int i] [] (ev_hp I J R T) Q) ∧ (¬ (n ≤ i) → (ev_ix i 401 → (∃ Q1 : pw_Q, pe N X 216 [.ref 35, .int (I 59 i.toNatClampNeg), .int c, .long z] (ev_hp I J R T) Q1 ∧ ∀ (r : Option Value) (h1 : ez_H), Q1 r h1 → pw N X 213 117 [.ref 35, .int k, .int n, .long z, ez_fill, .int p, .int b, .int m, .int c, .int i] (r.toList ++ [.ref 53]) h1 Q))))) : pw (N + 1) X 213 93 [.ref 35, .int k, .int n, .long z, ez_fill, .int p, .int b, .int m, .int c, .int i] [] (ev_hp I J R T) Q := by
  refine pw_if (by decide) (fun _ _ => cu9_r38) (fun w1 => ?_) (fun w1 => ?_)
  · have h1 := H.1 w1
    exact h1
  · have h1 := H.2 w1
    refine pw_p (pw_seg (by decide) (fun _ _ => cu9_r39) ?_)
    refine pw_p (pw_iald (by rfl) (cx_getI (show cx_Ds[59]? = some (0, 401, []) from rfl)) (fun w2 => ?_))
    have h2 := h1 w2
    obtain ⟨Q1, hc, hk⟩ := h2
    exact pw_p (pw_call (by decide) (fun _ _ => cu9_r40) hc hk)
set_option maxRecDepth 100000 in
theorem cu9_r41 {a0 : Int32} {a1 : Int32} {a2 : Int64} {a3 : Int32} {a4 : Int32} {a5 : Int32} {a6 : Int32} {a7 : Int32} {a8 : Int32} : ∀ G : ez_F, fx_up X 1 G 213 117 [.ref 35, .int a0, .int a1, .long a2, ez_fill, .int a3, .int a4, .int a5, .int a6, .int a7] [.int a8, .ref 53] (ev_hp I J R T) cz kz = G 213 118 [.ref 35, .int a0, .int a1, .long a2, ez_fill, .int a3, .int a4, .int a5, .int a6, .int a7] [.int a8, .ref 53, .int a8, .ref 53] (ev_hp I J R T) cz kz := by
  intro G
  rfl
set_option maxRecDepth 100000 in
theorem cu9_r42 {a0 : Int32} {a1 : Int32} {a2 : Int64} {a3 : Int32} {a4 : Int32} {a5 : Int32} {a6 : Int32} {a7 : Int32} {a8 : Int32} {a9 : Int32} : ∀ G : ez_F, fx_up X 2 G 213 119 [.ref 35, .int a0, .int a1, .long a2, ez_fill, .int a3, .int a4, .int a5, .int a6, .int a7] [.int a8, .int a9, .ref 53] (ev_hp I J R T) cz kz = G 213 121 [.ref 35, .int a0, .int a1, .long a2, ez_fill, .int a3, .int a4, .int a5, .int a6, .int a7] [.int (a8 + (1 : Int32)), .int a9, .ref 53] (ev_hp I J R T) cz kz := by
  intro G
  rfl
set_option maxRecDepth 100000 in
theorem cu9_r43 {a0 : Int32} {a1 : Int32} {a2 : Int64} {a3 : Int32} {a4 : Int32} {a5 : Int32} {a6 : Int32} {a7 : Int32} : ∀ G : ez_F, fx_up X 2 G 213 122 [.ref 35, .int a0, .int a1, .long a2, ez_fill, .int a3, .int a4, .int a5, .int a6, .int a7] [] (ev_hp I J R T) cz kz = G 213 93 [.ref 35, .int a0, .int a1, .long a2, ez_fill, .int a3, .int a4, .int a5, .int a6, .int (a7 + (1 : Int32))] [] (ev_hp I J R T) cz kz := by
  intro G
  rfl
theorem nf_117 {k n p b m c i v : Int32} {z : Int64}
    (H : (ev_ix v 4 → (ev_ix v 4 → pw N X 213 93 [.ref 35, .int k, .int n, .long z, ez_fill, .int p, .int b, .int m, .int c, .int (i + (1 : Int32))] [] (ev_hp (ev_sI I 53 (upd (I 53) v.toNatClampNeg ((I 53 v.toNatClampNeg) + (1 : Int32)))) J R T) Q))) : pw (N + 1) X 213 117 [.ref 35, .int k, .int n, .long z, ez_fill, .int p, .int b, .int m, .int c, .int i] [.int v, .ref 53] (ev_hp I J R T) Q := by
  refine pw_seg (by decide) (fun _ _ => cu9_r41) ?_
  refine pw_p (pw_iald (by rfl) (cx_getI (show cx_Ds[53]? = some (0, 4, []) from rfl)) (fun w1 => ?_))
  have h1 := H w1
  refine pw_p (pw_seg (by decide) (fun _ _ => cu9_r42) ?_)
  refine pw_p (pw_iast (by rfl) (cx_getI (show cx_Ds[53]? = some (0, 4, []) from rfl)) (cx_setI (show cx_Ds[53]? = some (0, 4, []) from rfl) _) (fun w1 => ?_))
  have h1 := h1 w1
  refine pw_p (pw_seg (by decide) (fun _ _ => cu9_r43) ?_)
  exact h1
set_option maxRecDepth 100000 in
theorem cu9_r44 {a0 : Int32} {a1 : Int32} {a2 : Int64} {a3 : Int32} {a4 : Int32} {a5 : Int32} {a6 : Int32} {a7 : Int32} : ∀ G : ez_F, fx_up X 3 G 213 128 [.ref 35, .int a0, .int a1, .long a2, ez_fill, .int a3, .int a4, .int a5, .int a6, .int a7] [] (ev_hp I J R T) cz kz = G 213 133 [.ref 35, .int a0, .int a1, .long a2, ez_fill, .int a3, .int a4, .int a5, .int a6, .int a7] [.int (0 : Int32), .ref 53] (ev_hp I J R T) cz kz := by
  intro G
  rfl
set_option maxRecDepth 100000 in
theorem cu9_r45 {a0 : Int32} {a1 : Int32} {a2 : Int64} {a3 : Int32} {a4 : Int32} {a5 : Int32} {a6 : Int32} {a7 : Int32} {a8 : Int32} : ∀ G : ez_F, fx_up X 3 G 213 134 [.ref 35, .int a0, .int a1, .long a2, ez_fill, .int a3, .int a4, .int a5, .int a6, .int a7] [.int a8] (ev_hp I J R T) cz kz = G 213 139 [.ref 35, .int a0, .int a1, .long a2, ez_fill, .int a3, .int a4, .int a5, .int a6, .int a7] [.int (1 : Int32), .ref 53, .int a8] (ev_hp I J R T) cz kz := by
  intro G
  rfl
set_option maxRecDepth 100000 in
theorem cu9_r46 {a0 : Int32} {a1 : Int32} {a2 : Int64} {a3 : Int32} {a4 : Int32} {a5 : Int32} {a6 : Int32} {a7 : Int32} {a8 : Int32} {a9 : Int32} : ∀ G : ez_F, fx_up X 1 G 213 140 [.ref 35, .int a0, .int a1, .long a2, ez_fill, .int a3, .int a4, .int a5, .int a6, .int a7] [.int a8, .int a9] (ev_hp I J R T) cz kz = bif decide (a9 ≤ a8) then G 213 152 [.ref 35, .int a0, .int a1, .long a2, ez_fill, .int a3, .int a4, .int a5, .int a6, .int a7] [] (ev_hp I J R T) cz kz else G 213 143 [.ref 35, .int a0, .int a1, .long a2, ez_fill, .int a3, .int a4, .int a5, .int a6, .int a7] [] (ev_hp I J R T) cz kz := by
  intro G
  rfl
set_option maxRecDepth 100000 in
theorem cu9_r47 {a0 : Int32} {a1 : Int32} {a2 : Int64} {a3 : Int32} {a4 : Int32} {a5 : Int32} {a6 : Int32} {a7 : Int32} : ∀ G : ez_F, fx_up X 3 G 213 152 [.ref 35, .int a0, .int a1, .long a2, ez_fill, .int a3, .int a4, .int a5, .int a6, .int a7] [] (ev_hp I J R T) cz kz = G 213 157 [.ref 35, .int a0, .int a1, .long a2, ez_fill, .int a3, .int a4, .int a5, .int a6, .int a7] [.int (1 : Int32), .ref 53] (ev_hp I J R T) cz kz := by
  intro G
  rfl
set_option maxRecDepth 100000 in
theorem cu9_r48 {a0 : Int32} {a1 : Int32} {a2 : Int64} {a3 : Int32} {a4 : Int32} {a5 : Int32} {a6 : Int32} {a7 : Int32} {a8 : Int32} : ∀ G : ez_F, fx_up X 4 G 213 158 [.ref 35, .int a0, .int a1, .long a2, ez_fill, .int a3, .int a4, .int a5, .int a6, .int a7] [.int a8] (ev_hp I J R T) cz kz = G 213 165 [.ref 35, .int a0, .int a1, .long a2, ez_fill, .int a3, .int a4, .int a5, .int a6, .int a8] [.int (2 : Int32), .ref 53] (ev_hp I J R T) cz kz := by
  intro G
  rfl
set_option maxRecDepth 100000 in
theorem cu9_r49 {a0 : Int32} {a1 : Int32} {a2 : Int64} {a3 : Int32} {a4 : Int32} {a5 : Int32} {a6 : Int32} {a7 : Int32} {a8 : Int32} : ∀ G : ez_F, fx_up X 2 G 213 166 [.ref 35, .int a0, .int a1, .long a2, ez_fill, .int a3, .int a4, .int a5, .int a6, .int a7] [.int a8] (ev_hp I J R T) cz kz = bif decide (a8 ≤ a7) then G 213 180 [.ref 35, .int a0, .int a1, .long a2, ez_fill, .int a3, .int a4, .int a5, .int a6, .int a7] [] (ev_hp I J R T) cz kz else G 213 171 [.ref 35, .int a0, .int a1, .long a2, ez_fill, .int a3, .int a4, .int a5, .int a6, .int a7] [] (ev_hp I J R T) cz kz := by
  intro G
  rfl
set_option maxRecDepth 100000 in
theorem cu9_r50 {a0 : Int32} {a1 : Int32} {a2 : Int64} {a3 : Int32} {a4 : Int32} {a5 : Int32} {a6 : Int32} {a7 : Int32} : ∀ G : ez_F, fx_up X 5 G 213 180 [.ref 35, .int a0, .int a1, .long a2, ez_fill, .int a3, .int a4, .int a5, .int a6, .int a7] [] (ev_hp I J R T) cz kz = bif decide (a5 ≤ a7) then G 213 196 [.ref 35, .int a0, .int a1, .long a2, ez_fill, .int a3, .int a4, .int a5, .int a6, .int a7] [] (ev_hp I J R T) cz kz else G 213 191 [.ref 35, .int a0, .int a1, .long a2, ez_fill, .int a3, .int a4, .int a5, .int a6, .int a7] [] (ev_hp I J R T) cz kz := by
  intro G
  rfl
set_option maxRecDepth 100000 in
theorem cu9_r51 {a0 : Int32} {a1 : Int32} {a2 : Int64} {a3 : Int32} {a4 : Int32} {a5 : Int32} {a6 : Int32} {a7 : Int32} : ∀ G : ez_F, fx_up X 5 G 213 196 [.ref 35, .int a0, .int a1, .long a2, ez_fill, .int a3, .int a4, .int a5, .int a6, .int a7] [] (ev_hp I J R T) cz kz = bif decide (a5 ≤ a7) then G 213 212 [.ref 35, .int a0, .int a1, .long a2, ez_fill, .int a3, .int a4, .int a5, .int a6, .int a7] [] (ev_hp I J R T) cz kz else G 213 207 [.ref 35, .int a0, .int a1, .long a2, ez_fill, .int a3, .int a4, .int a5, .int a6, .int a7] [] (ev_hp I J R T) cz kz := by
  intro G
  rfl
set_option maxRecDepth 100000 in
theorem cu9_r52 {a0 : Int32} {a1 : Int32} {a2 : Int64} {a3 : Int32} {a4 : Int32} {a5 : Int32} {a6 : Int32} {a7 : Int32} : ∀ G : ez_F, fx_up X 4 G 213 212 [.ref 35, .int a0, .int a1, .long a2, ez_fill, .int a3, .int a4, .int a5, .int a6, .int a7] [] (ev_hp I J R T) cz kz = G 213 60 [.ref 35, .int a0, .int a1, .long a2, ez_fill, .int a3, .int a4, .int a5, .int (a6 + (1 : Int32)), .int a7] [] (ev_hp I J R T) cz kz := by
  intro G
  rfl
set_option maxRecDepth 100000 in
theorem cu9_r53 {a0 : Int32} {a1 : Int32} {a2 : Int64} {a3 : Int32} {a4 : Int32} {a5 : Int32} {a6 : Int32} {a7 : Int32} : ∀ G : ez_F, fx_up X 5 G 213 207 [.ref 35, .int a0, .int a1, .long a2, ez_fill, .int a3, .int a4, .int a5, .int a6, .int a7] [] (ev_hp I J R T) cz kz = G 213 60 [.ref 35, .int a0, .int a1, .long a2, ez_fill, .int a3, .int a4, .int a7, .int (a6 + (1 : Int32)), .int a7] [] (ev_hp I J R T) cz kz := by
  intro G
  rfl
set_option maxRecDepth 100000 in
theorem cu9_r54 {a0 : Int32} {a1 : Int32} {a2 : Int64} {a3 : Int32} {a4 : Int32} {a5 : Int32} {a6 : Int32} {a7 : Int32} : ∀ G : ez_F, fx_up X 6 G 213 191 [.ref 35, .int a0, .int a1, .long a2, ez_fill, .int a3, .int a4, .int a5, .int a6, .int a7] [] (ev_hp I J R T) cz kz = bif decide (a5 ≤ a7) then G 213 212 [.ref 35, .int a0, .int a1, .long a2, ez_fill, .int a3, .int a6, .int a5, .int a6, .int a7] [] (ev_hp I J R T) cz kz else G 213 207 [.ref 35, .int a0, .int a1, .long a2, ez_fill, .int a3, .int a6, .int a5, .int a6, .int a7] [] (ev_hp I J R T) cz kz := by
  intro G
  rfl
set_option maxRecDepth 100000 in
theorem cu9_r55 {a0 : Int32} {a1 : Int32} {a2 : Int64} {a3 : Int32} {a4 : Int32} {a5 : Int32} {a6 : Int32} {a7 : Int32} : ∀ G : ez_F, fx_up X 3 G 213 171 [.ref 35, .int a0, .int a1, .long a2, ez_fill, .int a3, .int a4, .int a5, .int a6, .int a7] [] (ev_hp I J R T) cz kz = G 213 176 [.ref 35, .int a0, .int a1, .long a2, ez_fill, .int a3, .int a4, .int a5, .int a6, .int a7] [.int (2 : Int32), .ref 53] (ev_hp I J R T) cz kz := by
  intro G
  rfl
set_option maxRecDepth 100000 in
theorem cu9_r56 {a0 : Int32} {a1 : Int32} {a2 : Int64} {a3 : Int32} {a4 : Int32} {a5 : Int32} {a6 : Int32} {a7 : Int32} {a8 : Int32} : ∀ G : ez_F, fx_up X 5 G 213 177 [.ref 35, .int a0, .int a1, .long a2, ez_fill, .int a3, .int a4, .int a5, .int a6, .int a7] [.int a8] (ev_hp I J R T) cz kz = bif decide (a5 ≤ a8) then G 213 196 [.ref 35, .int a0, .int a1, .long a2, ez_fill, .int a3, .int a4, .int a5, .int a6, .int a8] [] (ev_hp I J R T) cz kz else G 213 191 [.ref 35, .int a0, .int a1, .long a2, ez_fill, .int a3, .int a4, .int a5, .int a6, .int a8] [] (ev_hp I J R T) cz kz := by
  intro G
  rfl
set_option maxRecDepth 100000 in
theorem cu9_r57 {a0 : Int32} {a1 : Int32} {a2 : Int64} {a3 : Int32} {a4 : Int32} {a5 : Int32} {a6 : Int32} {a7 : Int32} : ∀ G : ez_F, fx_up X 3 G 213 143 [.ref 35, .int a0, .int a1, .long a2, ez_fill, .int a3, .int a4, .int a5, .int a6, .int a7] [] (ev_hp I J R T) cz kz = G 213 148 [.ref 35, .int a0, .int a1, .long a2, ez_fill, .int a3, .int a4, .int a5, .int a6, .int a7] [.int (0 : Int32), .ref 53] (ev_hp I J R T) cz kz := by
  intro G
  rfl
set_option maxRecDepth 100000 in
theorem cu9_r58 {a0 : Int32} {a1 : Int32} {a2 : Int64} {a3 : Int32} {a4 : Int32} {a5 : Int32} {a6 : Int32} {a7 : Int32} {a8 : Int32} : ∀ G : ez_F, fx_up X 5 G 213 149 [.ref 35, .int a0, .int a1, .long a2, ez_fill, .int a3, .int a4, .int a5, .int a6, .int a7] [.int a8] (ev_hp I J R T) cz kz = G 213 165 [.ref 35, .int a0, .int a1, .long a2, ez_fill, .int a3, .int a4, .int a5, .int a6, .int a8] [.int (2 : Int32), .ref 53] (ev_hp I J R T) cz kz := by
  intro G
  rfl
theorem nf_128 {k n p b m c i : Int32} {z : Int64}
    (H : (ev_ix (0 : Int32) 4 → (ev_ix (1 : Int32) 4 → (((I 53 (0 : Int32).toNatClampNeg) ≤ (I 53 (1 : Int32).toNatClampNeg) → (ev_ix (1 : Int32) 4 → (ev_ix (2 : Int32) 4 → (((I 53 (2 : Int32).toNatClampNeg) ≤ (I 53 (1 : Int32).toNatClampNeg) → ((m ≤ (I 53 (1 : Int32).toNatClampNeg) → ((m ≤ (I 53 (1 : Int32).toNatClampNeg) → pw N X 213 60 [.ref 35, .int k, .int n, .long z, ez_fill, .int p, .int b, .int m, .int (c + (1 : Int32))] [] (ev_hp I J R T) Q) ∧ (¬ (m ≤ (I 53 (1 : Int32).toNatClampNeg)) → pw N X 213 60 [.ref 35, .int k, .int n, .long z, ez_fill, .int p, .int b, .int (I 53 (1 : Int32).toNatClampNeg), .int (c + (1 : Int32))] [] (ev_hp I J R T) Q))) ∧ (¬ (m ≤ (I 53 (1 : Int32).toNatClampNeg)) → ((m ≤ (I 53 (1 : Int32).toNatClampNeg) → pw N X 213 60 [.ref 35, .int k, .int n, .long z, ez_fill, .int p, .int c, .int m, .int (c + (1 : Int32))] [] (ev_hp I J R T) Q) ∧ (¬ (m ≤ (I 53 (1 : Int32).toNatClampNeg)) → pw N X 213 60 [.ref 35, .int k, .int n, .long z, ez_fill, .int p, .int c, .int (I 53 (1 : Int32).toNatClampNeg), .int (c + (1 : Int32))] [] (ev_hp I J R T) Q))))) ∧ (¬ ((I 53 (2 : Int32).toNatClampNeg) ≤ (I 53 (1 : Int32).toNatClampNeg)) → (ev_ix (2 : Int32) 4 → ((m ≤ (I 53 (2 : Int32).toNatClampNeg) → ((m ≤ (I 53 (2 : Int32).toNatClampNeg) → pw N X 213 60 [.ref 35, .int k, .int n, .long z, ez_fill, .int p, .int b, .int m, .int (c + (1 : Int32))] [] (ev_hp I J R T) Q) ∧ (¬ (m ≤ (I 53 (2 : Int32).toNatClampNeg)) → pw N X 213 60 [.ref 35, .int k, .int n, .long z, ez_fill, .int p, .int b, .int (I 53 (2 : Int32).toNatClampNeg), .int (c + (1 : Int32))] [] (ev_hp I J R T) Q))) ∧ (¬ (m ≤ (I 53 (2 : Int32).toNatClampNeg)) → ((m ≤ (I 53 (2 : Int32).toNatClampNeg) → pw N X 213 60 [.ref 35, .int k, .int n, .long z, ez_fill, .int p, .int c, .int m, .int (c + (1 : Int32))] [] (ev_hp I J R T) Q) ∧ (¬ (m ≤ (I 53 (2 : Int32).toNatClampNeg)) → pw N X 213 60 [.ref 35, .int k, .int n, .long z, ez_fill, .int p, .int c, .int (I 53 (2 : Int32).toNatClampNeg), .int (c + (1 : Int32))] [] (ev_hp I J R T) Q)))))))))) ∧ (¬ ((I 53 (0 : Int32).toNatClampNeg) ≤ (I 53 (1 : Int32).toNatClampNeg)) → (ev_ix (0 : Int32) 4 → (ev_ix (2 : Int32) 4 → (((I 53 (2 : Int32).toNatClampNeg) ≤ (I 53 (0 : Int32).toNatClampNeg) → ((m ≤ (I 53 (0 : Int32).toNatClampNeg) → ((m ≤ (I 53 (0 : Int32).toNatClampNeg) → pw N X 213 60 [.ref 35, .int k, .int n, .long z, ez_fill, .int p, .int b, .int m, .int (c + (1 : Int32))] [] (ev_hp I J R T) Q) ∧ (¬ (m ≤ (I 53 (0 : Int32).toNatClampNeg)) → pw N X 213 60 [.ref 35, .int k, .int n, .long z, ez_fill, .int p, .int b, .int (I 53 (0 : Int32).toNatClampNeg), .int (c + (1 : Int32))] [] (ev_hp I J R T) Q))) ∧ (¬ (m ≤ (I 53 (0 : Int32).toNatClampNeg)) → ((m ≤ (I 53 (0 : Int32).toNatClampNeg) → pw N X 213 60 [.ref 35, .int k, .int n, .long z, ez_fill, .int p, .int c, .int m, .int (c + (1 : Int32))] [] (ev_hp I J R T) Q) ∧ (¬ (m ≤ (I 53 (0 : Int32).toNatClampNeg)) → pw N X 213 60 [.ref 35, .int k, .int n, .long z, ez_fill, .int p, .int c, .int (I 53 (0 : Int32).toNatClampNeg), .int (c + (1 : Int32))] [] (ev_hp I J R T) Q))))) ∧ (¬ ((I 53 (2 : Int32).toNatClampNeg) ≤ (I 53 (0 : Int32).toNatClampNeg)) → (ev_ix (2 : Int32) 4 → ((m ≤ (I 53 (2 : Int32).toNatClampNeg) → ((m ≤ (I 53 (2 : Int32).toNatClampNeg) → pw N X 213 60 [.ref 35, .int k, .int n, .long z, ez_fill, .int p, .int b, .int m, .int (c + (1 : Int32))] [] (ev_hp I J R T) Q) ∧ (¬ (m ≤ (I 53 (2 : Int32).toNatClampNeg)) → pw N X 213 60 [.ref 35, .int k, .int n, .long z, ez_fill, .int p, .int b, .int (I 53 (2 : Int32).toNatClampNeg), .int (c + (1 : Int32))] [] (ev_hp I J R T) Q))) ∧ (¬ (m ≤ (I 53 (2 : Int32).toNatClampNeg)) → ((m ≤ (I 53 (2 : Int32).toNatClampNeg) → pw N X 213 60 [.ref 35, .int k, .int n, .long z, ez_fill, .int p, .int c, .int m, .int (c + (1 : Int32))] [] (ev_hp I J R T) Q) ∧ (¬ (m ≤ (I 53 (2 : Int32).toNatClampNeg)) → pw N X 213 60 [.ref 35, .int k, .int n, .long z, ez_fill, .int p, .int c, .int (I 53 (2 : Int32).toNatClampNeg), .int (c + (1 : Int32))] [] (ev_hp I J R T) Q)))))))))))))) : pw (N + 1) X 213 128 [.ref 35, .int k, .int n, .long z, ez_fill, .int p, .int b, .int m, .int c, .int i] [] (ev_hp I J R T) Q := by
  refine pw_seg (by decide) (fun _ _ => cu9_r44) ?_
  refine pw_p (pw_iald (by rfl) (cx_getI (show cx_Ds[53]? = some (0, 4, []) from rfl)) (fun w1 => ?_))
  have h1 := H w1
  refine pw_p (pw_seg (by decide) (fun _ _ => cu9_r45) ?_)
  refine pw_p (pw_iald (by rfl) (cx_getI (show cx_Ds[53]? = some (0, 4, []) from rfl)) (fun w1 => ?_))
  have h1 := h1 w1
  refine pw_p (pw_if (by decide) (fun _ _ => cu9_r46) (fun w1 => ?_) (fun w1 => ?_))
  · have h1 := h1.1 w1
    refine pw_p (pw_seg (by decide) (fun _ _ => cu9_r47) ?_)
    refine pw_p (pw_iald (by rfl) (cx_getI (show cx_Ds[53]? = some (0, 4, []) from rfl)) (fun w2 => ?_))
    have h2 := h1 w2
    refine pw_p (pw_seg (by decide) (fun _ _ => cu9_r48) ?_)
    refine pw_p (pw_iald (by rfl) (cx_getI (show cx_Ds[53]? = some (0, 4, []) from rfl)) (fun w2 => ?_))
    have h2 := h2 w2
    refine pw_p (pw_if (by decide) (fun _ _ => cu9_r49) (fun w2 => ?_) (fun w2 => ?_))
    · have h2 := h2.1 w2
      refine pw_p (pw_if (by decide) (fun _ _ => cu9_r50) (fun w3 => ?_) (fun w3 => ?_))
      · have h3 := h2.1 w3
        refine pw_p (pw_if (by decide) (fun _ _ => cu9_r51) (fun w4 => ?_) (fun w4 => ?_))
        · have h4 := h3.1 w4
          refine pw_p (pw_seg (by decide) (fun _ _ => cu9_r52) ?_)
          refine pw_cutl (by rfl) ?_
          exact h4
        · have h4 := h3.2 w4
          refine pw_p (pw_seg (by decide) (fun _ _ => cu9_r53) ?_)
          refine pw_cutl (by rfl) ?_
          exact h4
      · have h3 := h2.2 w3
        refine pw_p (pw_if (by decide) (fun _ _ => cu9_r54) (fun w4 => ?_) (fun w4 => ?_))
        · have h4 := h3.1 w4
          refine pw_p (pw_seg (by decide) (fun _ _ => cu9_r52) ?_)
          refine pw_cutl (by rfl) ?_
          exact h4
        · have h4 := h3.2 w4
          refine pw_p (pw_seg (by decide) (fun _ _ => cu9_r53) ?_)
          refine pw_cutl (by rfl) ?_
          exact h4
    · have h2 := h2.2 w2
      refine pw_p (pw_seg (by decide) (fun _ _ => cu9_r55) ?_)
      refine pw_p (pw_iald (by rfl) (cx_getI (show cx_Ds[53]? = some (0, 4, []) from rfl)) (fun w3 => ?_))
      have h3 := h2 w3
      refine pw_p (pw_if (by decide) (fun _ _ => cu9_r56) (fun w3 => ?_) (fun w3 => ?_))
      · have h3 := h3.1 w3
        refine pw_p (pw_if (by decide) (fun _ _ => cu9_r51) (fun w4 => ?_) (fun w4 => ?_))
        · have h4 := h3.1 w4
          refine pw_p (pw_seg (by decide) (fun _ _ => cu9_r52) ?_)
          refine pw_cutl (by rfl) ?_
          exact h4
        · have h4 := h3.2 w4
          refine pw_p (pw_seg (by decide) (fun _ _ => cu9_r53) ?_)
          refine pw_cutl (by rfl) ?_
          exact h4
      · have h3 := h3.2 w3
        refine pw_p (pw_if (by decide) (fun _ _ => cu9_r54) (fun w4 => ?_) (fun w4 => ?_))
        · have h4 := h3.1 w4
          refine pw_p (pw_seg (by decide) (fun _ _ => cu9_r52) ?_)
          refine pw_cutl (by rfl) ?_
          exact h4
        · have h4 := h3.2 w4
          refine pw_p (pw_seg (by decide) (fun _ _ => cu9_r53) ?_)
          refine pw_cutl (by rfl) ?_
          exact h4
  · have h1 := h1.2 w1
    refine pw_p (pw_seg (by decide) (fun _ _ => cu9_r57) ?_)
    refine pw_p (pw_iald (by rfl) (cx_getI (show cx_Ds[53]? = some (0, 4, []) from rfl)) (fun w2 => ?_))
    have h2 := h1 w2
    refine pw_p (pw_seg (by decide) (fun _ _ => cu9_r58) ?_)
    refine pw_p (pw_iald (by rfl) (cx_getI (show cx_Ds[53]? = some (0, 4, []) from rfl)) (fun w2 => ?_))
    have h2 := h2 w2
    refine pw_p (pw_if (by decide) (fun _ _ => cu9_r49) (fun w2 => ?_) (fun w2 => ?_))
    · have h2 := h2.1 w2
      refine pw_p (pw_if (by decide) (fun _ _ => cu9_r50) (fun w3 => ?_) (fun w3 => ?_))
      · have h3 := h2.1 w3
        refine pw_p (pw_if (by decide) (fun _ _ => cu9_r51) (fun w4 => ?_) (fun w4 => ?_))
        · have h4 := h3.1 w4
          refine pw_p (pw_seg (by decide) (fun _ _ => cu9_r52) ?_)
          refine pw_cutl (by rfl) ?_
          exact h4
        · have h4 := h3.2 w4
          refine pw_p (pw_seg (by decide) (fun _ _ => cu9_r53) ?_)
          refine pw_cutl (by rfl) ?_
          exact h4
      · have h3 := h2.2 w3
        refine pw_p (pw_if (by decide) (fun _ _ => cu9_r54) (fun w4 => ?_) (fun w4 => ?_))
        · have h4 := h3.1 w4
          refine pw_p (pw_seg (by decide) (fun _ _ => cu9_r52) ?_)
          refine pw_cutl (by rfl) ?_
          exact h4
        · have h4 := h3.2 w4
          refine pw_p (pw_seg (by decide) (fun _ _ => cu9_r53) ?_)
          refine pw_cutl (by rfl) ?_
          exact h4
    · have h2 := h2.2 w2
      refine pw_p (pw_seg (by decide) (fun _ _ => cu9_r55) ?_)
      refine pw_p (pw_iald (by rfl) (cx_getI (show cx_Ds[53]? = some (0, 4, []) from rfl)) (fun w3 => ?_))
      have h3 := h2 w3
      refine pw_p (pw_if (by decide) (fun _ _ => cu9_r56) (fun w3 => ?_) (fun w3 => ?_))
      · have h3 := h3.1 w3
        refine pw_p (pw_if (by decide) (fun _ _ => cu9_r51) (fun w4 => ?_) (fun w4 => ?_))
        · have h4 := h3.1 w4
          refine pw_p (pw_seg (by decide) (fun _ _ => cu9_r52) ?_)
          refine pw_cutl (by rfl) ?_
          exact h4
        · have h4 := h3.2 w4
          refine pw_p (pw_seg (by decide) (fun _ _ => cu9_r53) ?_)
          refine pw_cutl (by rfl) ?_
          exact h4
      · have h3 := h3.2 w3
        refine pw_p (pw_if (by decide) (fun _ _ => cu9_r54) (fun w4 => ?_) (fun w4 => ?_))
        · have h4 := h3.1 w4
          refine pw_p (pw_seg (by decide) (fun _ _ => cu9_r52) ?_)
          refine pw_cutl (by rfl) ?_
          exact h4
        · have h4 := h3.2 w4
          refine pw_p (pw_seg (by decide) (fun _ _ => cu9_r53) ?_)
          refine pw_cutl (by rfl) ?_
          exact h4
set_option maxRecDepth 100000 in
theorem cu9_r59 {a0 : Int32} {a1 : Int32} {a2 : Int64} {a3 : Int32} {a4 : Int32} {a5 : Int32} {a6 : Int32} : ∀ G : ez_F, fx_up X 3 G 213 222 [.ref 35, .int a0, .int a1, .long a2, ez_fill, .int a3, .int a4, .int a5, .int a6] [] (ev_hp I J R T) cz kz = bif decide (a1 ≤ a5) then G 213 232 [.ref 35, .int a0, .int a1, .long a2, ez_fill, .int a3, .int a4, .int a5, .int a6] [] (ev_hp I J R T) cz kz else G 213 228 [.ref 35, .int a0, .int a1, .long a2, ez_fill, .int a3, .int a4, .int a5, .int a6] [] (ev_hp I J R T) cz kz := by
  intro G
  rfl
set_option maxRecDepth 100000 in
theorem cu9_r60 {a0 : Int32} {a1 : Int32} {a2 : Int64} {a3 : Int32} {a4 : Int32} {a5 : Int32} {a6 : Int32} : ∀ G : ez_F, fx_up X 4 G 213 232 [.ref 35, .int a0, .int a1, .long a2, ez_fill, .int a3, .int a4, .int a5, .int a6] [] (ev_hp I J R T) cz kz = bif decide ((0 : Int32) = (0 : Int32)) then G 213 347 [.ref 35, .int a0, .int a1, .long a2, ez_fill, .int (0 : Int32), .int a4, .int a5, .int a6] [] (ev_hp I J R T) cz kz else G 213 240 [.ref 35, .int a0, .int a1, .long a2, ez_fill, .int (0 : Int32), .int a4, .int a5, .int a6] [] (ev_hp I J R T) cz kz := by
  intro G
  rfl
set_option maxRecDepth 100000 in
theorem cu9_r61 {a0 : Int32} {a1 : Int32} {a2 : Int64} {a3 : Int32} {a4 : Int32} {a5 : Int32} {a6 : Int32} : ∀ G : ez_F, fx_up X 1 G 213 347 [.ref 35, .int a0, .int a1, .long a2, ez_fill, .int a3, .int a4, .int a5, .int a6] [] (ev_hp I J R T) cz kz = G 213 44 [.ref 35, .int a0, .int a1, .long a2, ez_fill, .int a3, .int a4, .int a5, .int a6] [] (ev_hp I J R T) cz kz := by
  intro G
  rfl
set_option maxRecDepth 100000 in
theorem cu9_r62 {a0 : Int32} {a1 : Int32} {a2 : Int64} {a3 : Int32} {a4 : Int32} {a5 : Int32} {a6 : Int32} : ∀ G : ez_F, fx_up X 5 G 213 228 [.ref 35, .int a0, .int a1, .long a2, ez_fill, .int a3, .int a4, .int a5, .int a6] [] (ev_hp I J R T) cz kz = bif decide ((1 : Int32) = (0 : Int32)) then G 213 347 [.ref 35, .int a0, .int a1, .long a2, ez_fill, .int (1 : Int32), .int a4, .int a5, .int a6] [] (ev_hp I J R T) cz kz else G 213 240 [.ref 35, .int a0, .int a1, .long a2, ez_fill, .int (1 : Int32), .int a4, .int a5, .int a6] [] (ev_hp I J R T) cz kz := by
  intro G
  rfl
set_option maxRecDepth 100000 in
theorem cu9_r63 {a0 : Int32} {a1 : Int32} {a2 : Int64} {a3 : Int32} {a4 : Int32} {a5 : Int32} {a6 : Int32} : ∀ G : ez_F, fx_up X 5 G 213 240 [.ref 35, .int a0, .int a1, .long a2, ez_fill, .int a3, .int a4, .int a5, .int a6] [] (ev_hp I J R T) cz kz = ev_C G 216 [.ref 35, .int a0, .int a4, .long a2] (ev_hp I J R T) fun r h1 c1 k1 => G 213 248 [.ref 35, .int a0, .int a1, .long a2, ez_fill, .int a3, .int a4, .int a5, .int a6] (r.toList ++ []) h1 (cz + c1) (kz + k1) := by
  intro G
  rfl
theorem nf_222 {k n p b m c : Int32} {z : Int64}
    (H : ((n ≤ m → pw N X 213 44 [.ref 35, .int k, .int n, .long z, ez_fill, .int (0 : Int32)] [] (ev_hp I J R T) Q) ∧ (¬ (n ≤ m) → (∃ Q1 : pw_Q, pe N X 216 [.ref 35, .int k, .int b, .long z] (ev_hp I J R T) Q1 ∧ ∀ (r : Option Value) (h1 : ez_H), Q1 r h1 → pw N X 213 248 [.ref 35, .int k, .int n, .long z, ez_fill, .int (1 : Int32), .int b, .int m, .int c] (r.toList ++ []) h1 Q)))) : pw (N + 1) X 213 222 [.ref 35, .int k, .int n, .long z, ez_fill, .int p, .int b, .int m, .int c] [] (ev_hp I J R T) Q := by
  refine pw_if (by decide) (fun _ _ => cu9_r59) (fun w1 => ?_) (fun w1 => ?_)
  · have h1 := H.1 w1
    refine pw_p (pw_if (by decide) (fun _ _ => cu9_r60) (fun w2 => ?_) (fun w2 => ?_))
    rotate_left
    · exact absurd (by decide) w2
    refine pw_p (pw_seg (by decide) (fun _ _ => cu9_r61) ?_)
    refine pw_cutl (by rfl) ?_
    exact h1
  · have h1 := H.2 w1
    refine pw_p (pw_if (by decide) (fun _ _ => cu9_r62) (fun w2 => ?_) (fun w2 => ?_))
    · exact absurd w2 (by decide)
    obtain ⟨Q1, hc, hk⟩ := h1
    exact pw_p (pw_call (by decide) (fun _ _ => cu9_r63) hc hk)
set_option maxRecDepth 100000 in
theorem cu9_r64 {a0 : Int32} {a1 : Int32} {a2 : Int64} {a3 : Int32} {a4 : Int32} {a5 : Int32} {a6 : Int32} {a7 : Int32} : ∀ G : ez_F, fx_up X 5 G 213 248 [.ref 35, .int a0, .int a1, .long a2, ez_fill, .int a3, .int a4, .int a5, .int a6] [.int a7] (ev_hp I J R T) cz kz = G 213 256 [.ref 35, .int a0, .int a1, .long a2, ez_fill, .int a3, .int a4, .int a5, .int a7, .int (0 : Int32), .int (0 : Int32)] [] (ev_hp I J R T) cz kz := by
  intro G
  rfl
theorem nf_248 {k n p b m c v : Int32} {z : Int64}
    (H : pw N X 213 256 [.ref 35, .int k, .int n, .long z, ez_fill, .int p, .int b, .int m, .int v, .int (0 : Int32), .int (0 : Int32)] [] (ev_hp I J R T) Q) : pw (N + 1) X 213 248 [.ref 35, .int k, .int n, .long z, ez_fill, .int p, .int b, .int m, .int c] [.int v] (ev_hp I J R T) Q := by
  refine pw_seg (by decide) (fun _ _ => cu9_r64) ?_
  exact H
set_option maxRecDepth 100000 in
theorem cu9_r65 {a0 : Int32} {a1 : Int32} {a2 : Int64} {a3 : Int32} {a4 : Int32} {a5 : Int32} {a6 : Int32} {a7 : Int32} {a8 : Int32} : ∀ G : ez_F, fx_up X 3 G 213 256 [.ref 35, .int a0, .int a1, .long a2, ez_fill, .int a3, .int a4, .int a5, .int a6, .int a7, .int a8] [] (ev_hp I J R T) cz kz = bif decide (a1 ≤ a8) then G 213 304 [.ref 35, .int a0, .int a1, .long a2, ez_fill, .int a3, .int a4, .int a5, .int a6, .int a7, .int a8] [] (ev_hp I J R T) cz kz else G 213 262 [.ref 35, .int a0, .int a1, .long a2, ez_fill, .int a3, .int a4, .int a5, .int a6, .int a7, .int a8] [] (ev_hp I J R T) cz kz := by
  intro G
  rfl
set_option maxRecDepth 100000 in
theorem cu9_r66 {a0 : Int32} {a1 : Int32} {a2 : Int64} {a3 : Int32} {a4 : Int32} {a5 : Int32} {a6 : Int32} {a7 : Int32} {a8 : Int32} : ∀ G : ez_F, fx_up X 4 G 213 262 [.ref 35, .int a0, .int a1, .long a2, ez_fill, .int a3, .int a4, .int a5, .int a6, .int a7, .int a8] [] (ev_hp I J R T) cz kz = G 213 269 [.ref 35, .int a0, .int a1, .long a2, ez_fill, .int a3, .int a4, .int a5, .int a6, .int a7, .int a8] [.int a8, .ref 59, .ref 35] (ev_hp I J R T) cz kz := by
  intro G
  rfl
set_option maxRecDepth 100000 in
theorem cu9_r67 {a0 : Int32} {a1 : Int32} {a2 : Int64} {a3 : Int32} {a4 : Int32} {a5 : Int32} {a6 : Int32} {a7 : Int32} {a8 : Int32} {a9 : Int32} : ∀ G : ez_F, fx_up X 3 G 213 270 [.ref 35, .int a0, .int a1, .long a2, ez_fill, .int a3, .int a4, .int a5, .int a6, .int a7, .int a8] [.int a9, .ref 35] (ev_hp I J R T) cz kz = ev_C G 216 [.ref 35, .int a9, .int a4, .long a2] (ev_hp I J R T) fun r h1 c1 k1 => G 213 276 [.ref 35, .int a0, .int a1, .long a2, ez_fill, .int a3, .int a4, .int a5, .int a6, .int a7, .int a8] (r.toList ++ []) h1 (cz + c1) (kz + k1) := by
  intro G
  rfl
theorem nf_256 {k n p b m v j i : Int32} {z : Int64}
    (H : ((n ≤ i → pw N X 213 304 [.ref 35, .int k, .int n, .long z, ez_fill, .int p, .int b, .int m, .int v, .int j, .int i] [] (ev_hp I J R T) Q) ∧ (¬ (n ≤ i) → (ev_ix i 401 → (∃ Q1 : pw_Q, pe N X 216 [.ref 35, .int (I 59 i.toNatClampNeg), .int b, .long z] (ev_hp I J R T) Q1 ∧ ∀ (r : Option Value) (h1 : ez_H), Q1 r h1 → pw N X 213 276 [.ref 35, .int k, .int n, .long z, ez_fill, .int p, .int b, .int m, .int v, .int j, .int i] (r.toList ++ []) h1 Q))))) : pw (N + 1) X 213 256 [.ref 35, .int k, .int n, .long z, ez_fill, .int p, .int b, .int m, .int v, .int j, .int i] [] (ev_hp I J R T) Q := by
  refine pw_if (by decide) (fun _ _ => cu9_r65) (fun w1 => ?_) (fun w1 => ?_)
  · have h1 := H.1 w1
    exact h1
  · have h1 := H.2 w1
    refine pw_p (pw_seg (by decide) (fun _ _ => cu9_r66) ?_)
    refine pw_p (pw_iald (by rfl) (cx_getI (show cx_Ds[59]? = some (0, 401, []) from rfl)) (fun w2 => ?_))
    have h2 := h1 w2
    obtain ⟨Q1, hc, hk⟩ := h2
    exact pw_p (pw_call (by decide) (fun _ _ => cu9_r67) hc hk)
set_option maxRecDepth 100000 in
theorem cu9_r68 {a0 : Int32} {a1 : Int32} {a2 : Int64} {a3 : Int32} {a4 : Int32} {a5 : Int32} {a6 : Int32} {a7 : Int32} {a8 : Int32} {a9 : Int32} : ∀ G : ez_F, fx_up X 2 G 213 276 [.ref 35, .int a0, .int a1, .long a2, ez_fill, .int a3, .int a4, .int a5, .int a6, .int a7, .int a8] [.int a9] (ev_hp I J R T) cz kz = bif decide (¬ a9 = a6) then G 213 298 [.ref 35, .int a0, .int a1, .long a2, ez_fill, .int a3, .int a4, .int a5, .int a6, .int a7, .int a8] [] (ev_hp I J R T) cz kz else G 213 281 [.ref 35, .int a0, .int a1, .long a2, ez_fill, .int a3, .int a4, .int a5, .int a6, .int a7, .int a8] [] (ev_hp I J R T) cz kz := by
  intro G
  rfl
set_option maxRecDepth 100000 in
theorem cu9_r69 {a0 : Int32} {a1 : Int32} {a2 : Int64} {a3 : Int32} {a4 : Int32} {a5 : Int32} {a6 : Int32} {a7 : Int32} {a8 : Int32} : ∀ G : ez_F, fx_up X 2 G 213 298 [.ref 35, .int a0, .int a1, .long a2, ez_fill, .int a3, .int a4, .int a5, .int a6, .int a7, .int a8] [] (ev_hp I J R T) cz kz = G 213 256 [.ref 35, .int a0, .int a1, .long a2, ez_fill, .int a3, .int a4, .int a5, .int a6, .int a7, .int (a8 + (1 : Int32))] [] (ev_hp I J R T) cz kz := by
  intro G
  rfl
set_option maxRecDepth 100000 in
theorem cu9_r70 {a0 : Int32} {a1 : Int32} {a2 : Int64} {a3 : Int32} {a4 : Int32} {a5 : Int32} {a6 : Int32} {a7 : Int32} {a8 : Int32} : ∀ G : ez_F, fx_up X 6 G 213 281 [.ref 35, .int a0, .int a1, .long a2, ez_fill, .int a3, .int a4, .int a5, .int a6, .int a7, .int a8] [] (ev_hp I J R T) cz kz = G 213 293 [.ref 35, .int a0, .int a1, .long a2, ez_fill, .int a3, .int a4, .int a5, .int a6, .int a7, .int a8] [.int a8, .ref 59, .int a7, .ref 59] (ev_hp I J R T) cz kz := by
  intro G
  rfl
set_option maxRecDepth 100000 in
theorem cu9_r71 {a0 : Int32} {a1 : Int32} {a2 : Int64} {a3 : Int32} {a4 : Int32} {a5 : Int32} {a6 : Int32} {a7 : Int32} {a8 : Int32} : ∀ G : ez_F, fx_up X 3 G 213 295 [.ref 35, .int a0, .int a1, .long a2, ez_fill, .int a3, .int a4, .int a5, .int a6, .int a7, .int a8] [] (ev_hp I J R T) cz kz = G 213 256 [.ref 35, .int a0, .int a1, .long a2, ez_fill, .int a3, .int a4, .int a5, .int a6, .int (a7 + (1 : Int32)), .int (a8 + (1 : Int32))] [] (ev_hp I J R T) cz kz := by
  intro G
  rfl
theorem nf_276 {k n p b m v j i a : Int32} {z : Int64}
    (H : ((¬ a = v → pw N X 213 256 [.ref 35, .int k, .int n, .long z, ez_fill, .int p, .int b, .int m, .int v, .int j, .int (i + (1 : Int32))] [] (ev_hp I J R T) Q) ∧ (¬ (¬ a = v) → (ev_ix i 401 → (ev_ix j 401 → pw N X 213 256 [.ref 35, .int k, .int n, .long z, ez_fill, .int p, .int b, .int m, .int v, .int (j + (1 : Int32)), .int (i + (1 : Int32))] [] (ev_hp (ev_sI I 59 (upd (I 59) j.toNatClampNeg (I 59 i.toNatClampNeg))) J R T) Q))))) : pw (N + 1) X 213 276 [.ref 35, .int k, .int n, .long z, ez_fill, .int p, .int b, .int m, .int v, .int j, .int i] [.int a] (ev_hp I J R T) Q := by
  refine pw_if (by decide) (fun _ _ => cu9_r68) (fun w1 => ?_) (fun w1 => ?_)
  · have h1 := H.1 w1
    refine pw_p (pw_seg (by decide) (fun _ _ => cu9_r69) ?_)
    exact h1
  · have h1 := H.2 w1
    refine pw_p (pw_seg (by decide) (fun _ _ => cu9_r70) ?_)
    refine pw_p (pw_iald (by rfl) (cx_getI (show cx_Ds[59]? = some (0, 401, []) from rfl)) (fun w2 => ?_))
    have h2 := h1 w2
    refine pw_p (pw_iast (by rfl) (cx_getI (show cx_Ds[59]? = some (0, 401, []) from rfl)) (cx_setI (show cx_Ds[59]? = some (0, 401, []) from rfl) _) (fun w2 => ?_))
    have h2 := h2 w2
    refine pw_p (pw_seg (by decide) (fun _ _ => cu9_r71) ?_)
    exact h2
set_option maxRecDepth 100000 in
theorem cu9_r72 {a0 : Int32} {a1 : Int32} {a2 : Int64} {a3 : Int32} {a4 : Int32} {a5 : Int32} {a6 : Int32} {a7 : Int32} {a8 : Int32} : ∀ G : ez_F, fx_up X 12 G 213 304 [.ref 35, .int a0, .int a1, .long a2, ez_fill, .int a3, .int a4, .int a5, .int a6, .int a7, .int a8] [] (ev_hp I J R T) cz kz = G 213 322 [.ref 35, .int a0, .int a7, .long (a2 ||| ((1 : Int64) <<< (a4.toInt64 &&& (63 : Int64)))), ez_fill, .int a3, .int a4, .int a5, .int a6, .int a7, .int a8] [.int (I 35 36), .ref 60] (ev_hp I J R T) cz kz := by
  intro G
  rfl
set_option maxRecDepth 100000 in
theorem cu9_r73 {a0 : Int32} {a1 : Int32} {a2 : Int64} {a3 : Int32} {a4 : Int32} {a5 : Int32} {a6 : Int32} {a7 : Int32} {a8 : Int32} {a9 : Int32} : ∀ G : ez_F, fx_up X 1 G 213 322 [.ref 35, .int a0, .int a1, .long a2, ez_fill, .int a3, .int a4, .int a5, .int a6, .int a7, .int a8] [.int a9, .ref 60] (ev_hp I J R T) cz kz = G 213 324 [.ref 35, .int a0, .int a1, .long a2, ez_fill, .int a3, .int a4, .int a5, .int a6, .int a7, .int a8] [.int a4, .int a9, .ref 60] (ev_hp I J R T) cz kz := by
  intro G
  rfl
set_option maxRecDepth 100000 in
theorem cu9_r74 {a0 : Int32} {a1 : Int32} {a2 : Int64} {a3 : Int32} {a4 : Int32} {a5 : Int32} {a6 : Int32} {a7 : Int32} {a8 : Int32} : ∀ G : ez_F, fx_up X 3 G 213 325 [.ref 35, .int a0, .int a1, .long a2, ez_fill, .int a3, .int a4, .int a5, .int a6, .int a7, .int a8] [] (ev_hp I J R T) cz kz = G 213 330 [.ref 35, .int a0, .int a1, .long a2, ez_fill, .int a3, .int a4, .int a5, .int a6, .int a7, .int a8] [.int (I 35 36), .ref 35] (ev_hp I J R T) cz kz := by
  intro G
  rfl
set_option maxRecDepth 100000 in
theorem cu9_r75 {a0 : Int32} {a1 : Int32} {a2 : Int64} {a3 : Int32} {a4 : Int32} {a5 : Int32} {a6 : Int32} {a7 : Int32} {a8 : Int32} {a9 : Int32} : ∀ G : ez_F, fx_up X 3 G 213 330 [.ref 35, .int a0, .int a1, .long a2, ez_fill, .int a3, .int a4, .int a5, .int a6, .int a7, .int a8] [.int a9, .ref 35] (ev_hp I J R T) cz kz = G 213 335 [.ref 35, .int a0, .int a1, .long a2, ez_fill, .int a3, .int a4, .int a5, .int a6, .int a7, .int a8] [] (ev_hp (ev_sI I 35 (upd (I 35) 36 (a9 + (1 : Int32)))) J R T) cz kz := by
  intro G
  rfl
set_option maxRecDepth 100000 in
theorem cu9_r76 {a0 : Int32} {a1 : Int32} {a2 : Int64} {a3 : Int32} {a4 : Int32} {a5 : Int32} {a6 : Int32} {a7 : Int32} {a8 : Int32} : ∀ G : ez_F, fx_up X 3 G 213 335 [.ref 35, .int a0, .int a1, .long a2, ez_fill, .int a3, .int a4, .int a5, .int a6, .int a7, .int a8] [] (ev_hp I J R T) cz kz = bif decide (a1 ≤ (1 : Int32)) then G 213 344 [.ref 35, .int a0, .int a1, .long a2, ez_fill, .int a3, .int a4, .int a5, .int a6, .int a7, .int a8] [] (ev_hp I J R T) cz kz else G 213 340 [.ref 35, .int a0, .int a1, .long a2, ez_fill, .int a3, .int a4, .int a5, .int a6, .int a7, .int a8] [] (ev_hp I J R T) cz kz := by
  intro G
  rfl
set_option maxRecDepth 100000 in
theorem cu9_r77 {a0 : Int32} {a1 : Int32} {a2 : Int64} {a3 : Int32} {a4 : Int32} {a5 : Int32} {a6 : Int32} {a7 : Int32} {a8 : Int32} : ∀ G : ez_F, fx_up X 3 G 213 344 [.ref 35, .int a0, .int a1, .long a2, ez_fill, .int a3, .int a4, .int a5, .int a6, .int a7, .int a8] [] (ev_hp I J R T) cz kz = G 213 44 [.ref 35, .int a0, .int a1, .long a2, ez_fill, .int (0 : Int32), .int a4, .int a5, .int a6] [] (ev_hp I J R T) cz kz := by
  intro G
  rfl
set_option maxRecDepth 100000 in
theorem cu9_r78 {a0 : Int32} {a1 : Int32} {a2 : Int64} {a3 : Int32} {a4 : Int32} {a5 : Int32} {a6 : Int32} {a7 : Int32} {a8 : Int32} : ∀ G : ez_F, fx_up X 4 G 213 340 [.ref 35, .int a0, .int a1, .long a2, ez_fill, .int a3, .int a4, .int a5, .int a6, .int a7, .int a8] [] (ev_hp I J R T) cz kz = G 213 44 [.ref 35, .int a0, .int a1, .long a2, ez_fill, .int (1 : Int32), .int a4, .int a5, .int a6] [] (ev_hp I J R T) cz kz := by
  intro G
  rfl
theorem nf_304 {k n p b m v j i : Int32} {z : Int64}
    (H : (ev_ix (I 35 36) 40 → ((j ≤ (1 : Int32) → pw N X 213 44 [.ref 35, .int k, .int j, .long (z ||| ((1 : Int64) <<< (b.toInt64 &&& (63 : Int64)))), ez_fill, .int (0 : Int32)] [] (ev_hp (ev_sI (ev_sI I 60 (upd (I 60) ((I 35 36).toNatClampNeg) b)) 35 (upd (I 35) 36 ((I 35 36) + (1 : Int32)))) J R T) Q) ∧ (¬ (j ≤ (1 : Int32)) → pw N X 213 44 [.ref 35, .int k, .int j, .long (z ||| ((1 : Int64) <<< (b.toInt64 &&& (63 : Int64)))), ez_fill, .int (1 : Int32)] [] (ev_hp (ev_sI (ev_sI I 60 (upd (I 60) ((I 35 36).toNatClampNeg) b)) 35 (upd (I 35) 36 ((I 35 36) + (1 : Int32)))) J R T) Q)))) : pw (N + 1) X 213 304 [.ref 35, .int k, .int n, .long z, ez_fill, .int p, .int b, .int m, .int v, .int j, .int i] [] (ev_hp I J R T) Q := by
  refine pw_seg (by decide) (fun _ _ => cu9_r72) ?_
  refine pw_p (pw_seg (by decide) (fun _ _ => cu9_r73) ?_)
  refine pw_p (pw_iast (by rfl) (cx_getI (show cx_Ds[60]? = some (0, 40, []) from rfl)) (cx_setI (show cx_Ds[60]? = some (0, 40, []) from rfl) _) (fun w1 => ?_))
  have h1 := H w1
  refine pw_p (pw_seg (by decide) (fun _ _ => cu9_r74) ?_)
  refine pw_p (pw_seg (by decide) (fun _ _ => cu9_r75) ?_)
  refine pw_p (pw_if (by decide) (fun _ _ => cu9_r76) (fun w1 => ?_) (fun w1 => ?_))
  · have h1 := h1.1 w1
    refine pw_p (pw_seg (by decide) (fun _ _ => cu9_r77) ?_)
    refine pw_cutl (by rfl) ?_
    exact h1
  · have h1 := h1.2 w1
    refine pw_p (pw_seg (by decide) (fun _ _ => cu9_r78) ?_)
    refine pw_cutl (by rfl) ?_
    exact h1
set_option maxRecDepth 100000 in
theorem cu9_r79 {a0 : Int32} : ∀ G : ez_F, fx_up X 2 G 212 0 [.ref 35, .int a0] [] (ev_hp I J R T) cz kz = ev_C G 201 [.ref 35] (ev_hp I J R T) fun r h1 c1 k1 => G 212 4 [.ref 35, .int a0] (r.toList ++ []) h1 (cz + c1) (kz + k1) := by
  intro G
  rfl
theorem nn9_0 {x : Int32}
    (H : (∃ Q1 : pw_Q, pe N X 201 [.ref 35] (ev_hp I J R T) Q1 ∧ ∀ (r : Option Value) (h1 : ez_H), Q1 r h1 → pw N X 212 4 [.ref 35, .int x] (r.toList ++ []) h1 Q)) : pw (N + 1) X 212 0 [.ref 35, .int x] [] (ev_hp I J R T) Q := by
  obtain ⟨Q1, hc, hk⟩ := H
  exact pw_call (by decide) (fun _ _ => cu9_r79) hc hk
set_option maxRecDepth 100000 in
theorem cu9_r80 {a0 : Int32} {a1 : Int32} : ∀ G : ez_F, fx_up X 1 G 212 4 [.ref 35, .int a0] [.int a1] (ev_hp I J R T) cz kz = bif decide (a1 = (0 : Int32)) then G 212 10 [.ref 35, .int a0] [] (ev_hp I J R T) cz kz else G 212 7 [.ref 35, .int a0] [] (ev_hp I J R T) cz kz := by
  intro G
  rfl
set_option maxRecDepth 100000 in
theorem cu9_r81 {a0 : Int32} : ∀ G : ez_F, fx_up X 3 G 212 10 [.ref 35, .int a0] [] (ev_hp I J R T) cz kz = ev_C G 202 [.ref 35, .int a0] (ev_hp I J R T) fun r h1 c1 k1 => G 212 15 [.ref 35, .int a0] (r.toList ++ []) h1 (cz + c1) (kz + k1) := by
  intro G
  rfl
set_option maxRecDepth 100000 in
theorem cu9_r82 {a0 : Int32} {a1 : Int32} : ∀ G : ez_F, fx_up X 1 G 212 15 [.ref 35, .int a0] [.int a1] (ev_hp I J R T) cz kz = bif decide (a1 = (0 : Int32)) then G 212 26 [.ref 35, .int a0] [] (ev_hp I J R T) cz kz else G 212 18 [.ref 35, .int a0] [] (ev_hp I J R T) cz kz := by
  intro G
  rfl
set_option maxRecDepth 100000 in
theorem cu9_r83 {a0 : Int32} : ∀ G : ez_F, fx_up X 2 G 212 26 [.ref 35, .int a0] [] (ev_hp I J R T) cz kz = some (some (.int (-2 : Int32)), (ev_hp I J R T), cz, kz) := by
  intro G
  rfl
set_option maxRecDepth 100000 in
theorem cu9_r84 {a0 : Int32} : ∀ G : ez_F, fx_up X 3 G 212 18 [.ref 35, .int a0] [] (ev_hp I J R T) cz kz = ev_C G 213 [.ref 35, .int a0] (ev_hp I J R T) fun r h1 c1 k1 => G 212 23 [.ref 35, .int a0] (r.toList ++ []) h1 (cz + c1) (kz + k1) := by
  intro G
  rfl
set_option maxRecDepth 100000 in
theorem cu9_r85 {a0 : Int32} : ∀ G : ez_F, fx_up X 2 G 212 7 [.ref 35, .int a0] [] (ev_hp I J R T) cz kz = some (some (.int (-6 : Int32)), (ev_hp I J R T), cz, kz) := by
  intro G
  rfl
theorem nn9_4 {x v : Int32}
    (H : ((v = (0 : Int32) → (((ev_il (x.toInt64) 0 ((((I 35 14)) - (1 : Int32)).toInt64)) = (0 : Int32) → Q (some (.int (-2 : Int32))) (ev_hp I J R T)) ∧ (¬ ((ev_il (x.toInt64) 0 ((((I 35 14)) - (1 : Int32)).toInt64)) = (0 : Int32)) → (∃ Q1 : pw_Q, pe N X 213 [.ref 35, .int x] (ev_hp I J R T) Q1 ∧ ∀ (r : Option Value) (h1 : ez_H), Q1 r h1 → pw N X 212 23 [.ref 35, .int x] (r.toList ++ []) h1 Q)))) ∧ (¬ (v = (0 : Int32)) → Q (some (.int (-6 : Int32))) (ev_hp I J R T)))) : pw (N + 1) X 212 4 [.ref 35, .int x] [.int v] (ev_hp I J R T) Q := by
  refine pw_if (by decide) (fun _ _ => cu9_r80) (fun w1 => ?_) (fun w1 => ?_)
  · have h1 := H.1 w1
    refine pw_p (pw_callp (by decide) (fun _ _ => cu9_r81) (pe_is (em_isLaying _ _ _ _ _ _)) ?_)
    refine pw_p (pw_if (by decide) (fun _ _ => cu9_r82) (fun w2 => ?_) (fun w2 => ?_))
    · have h2 := h1.1 w2
      exact pw_p (pw_ret (by decide) (fun _ _ => cu9_r83) h2)
    · have h2 := h1.2 w2
      obtain ⟨Q1, hc, hk⟩ := h2
      exact pw_p (pw_call (by decide) (fun _ _ => cu9_r84) hc hk)
  · have h1 := H.2 w1
    exact pw_p (pw_ret (by decide) (fun _ _ => cu9_r85) h1)
set_option maxRecDepth 100000 in
theorem cu9_r86 {a0 : Int32} {a1 : Int32} : ∀ G : ez_F, fx_up X 2 G 212 23 [.ref 35, .int a0] [.int a1] (ev_hp I J R T) cz kz = some (some (.int a1), (ev_hp I J R T), cz, kz) := by
  intro G
  rfl
theorem nn9_23 {x v : Int32}
    (H : Q (some (.int v)) (ev_hp I J R T)) : pw (N + 1) X 212 23 [.ref 35, .int x] [.int v] (ev_hp I J R T) Q := by
  exact pw_ret (by decide) (fun _ _ => cu9_r86) H
end
theorem kb_n64 (x : Int64) {n : Nat} (hn : n < 64) : kb (x ^^^ (18446744073709551615 : Int64)) n = !kb x n := by
  rw [show (18446744073709551615 : Int64) = -1 from by decide, kb_not x hn]
/-- a list of layings, none twice -/
noncomputable def lst (q : Nat → Nat) (l a b : Nat) : Prop := (∀ i, a ≤ i → i < b → q i < l) ∧ ∀ i j, a ≤ i → i < b → a ≤ j → j < b → q i = q j → i = j
theorem lst_cq {q : Nat → Nat} {l a b : Nat} {p : Nat → Bool} (h : lst q l a b) : cq (fun k => seg q a b k && p k) l = cq (fun i => p (q (a + i))) (b - a) :=
  sg_cq (b - a) (fun i hi => h.1 _ (by omega) (by omega)) (fun i j hi hj e => by have := h.2 _ _ (by omega) (by omega) (by omega) (by omega) e; omega)
theorem lst_sz {q : Nat → Nat} {l a b : Nat} (h : lst q l a b) : cq (seg q a b) l = b - a := by
  have h1 := lst_cq (p := fun _ => true) h
  rw [cq_t] at h1
  rw [← h1]
  exact cq_c _ fun k _ => (Bool.and_true _).symm
theorem lst_id (l : Nat) : lst (fun i => i) l 0 l := ⟨fun _ _ h => h, fun _ _ _ _ _ _ e => e⟩
/-- sorted out so far -/
noncomputable def sou (an : Nat → Nat) (v : Nat) (q q' : Nat → Nat) (l j i : Nat) : Prop := j ≤ i ∧ lst q' l 0 j ∧ ∀ x, (∃ s, s < j ∧ q' s = x) ↔ ∃ s, s < i ∧ q s = x ∧ an x = v
theorem sou_no {an : Nat → Nat} {v : Nat} {q q' : Nat → Nat} {l j i : Nat} (h : sou an v q q' l j i) (hv : ¬ an (q i) = v) : sou an v q q' l j (i + 1) := by
  refine ⟨by have := h.1; omega, h.2.1, fun x => ?_⟩
  rw [h.2.2 x]
  constructor
  · rintro ⟨s, s1, s2, s3⟩
    exact ⟨s, by omega, s2, s3⟩
  · rintro ⟨s, s1, s2, s3⟩
    by_cases e : s = i
    · subst e
      rw [s2] at hv
      exact absurd s3 hv
    · exact ⟨s, by omega, s2, s3⟩
theorem sou_yes {an : Nat → Nat} {v : Nat} {q q' : Nat → Nat} {l j i n : Nat} (h : sou an v q q' l j i) (hq : lst q l 0 n) (hi : i < n) (hv : an (q i) = v) : sou an v q (fun s => if s = j then q i else q' s) l (j + 1) (i + 1) := by
  obtain ⟨h1, h2, h3⟩ := h
  have hno : ∀ s, s < j → ¬ q' s = q i := fun s hs e => by
    obtain ⟨t, t1, t2, -⟩ := (h3 (q i)).mp ⟨s, hs, e⟩
    have := hq.2 t i (Nat.zero_le _) (by omega) (Nat.zero_le _) hi t2
    omega
  refine ⟨by omega, ⟨fun s _ hs => ?_, fun s t _ hs _ ht e => ?_⟩, fun x => ?_⟩
  · show (if s = j then q i else q' s) < l
    split
    · exact hq.1 i (Nat.zero_le _) hi
    · exact h2.1 s (Nat.zero_le _) (by omega)
  · have e : (if s = j then q i else q' s) = if t = j then q i else q' t := e
    by_cases c1 : s = j
    · by_cases c2 : t = j
      · omega
      · rw [if_pos c1, if_neg c2] at e
        exact absurd e.symm (hno t (by omega))
    · by_cases c2 : t = j
      · rw [if_neg c1, if_pos c2] at e
        exact absurd e (hno s (by omega))
      · rw [if_neg c1, if_neg c2] at e
        exact h2.2 s t (Nat.zero_le _) (by omega) (Nat.zero_le _) (by omega) e
  · constructor
    · rintro ⟨s, hs, e⟩
      have e : (if s = j then q i else q' s) = x := e
      by_cases c1 : s = j
      · rw [if_pos c1] at e
        exact ⟨i, by omega, e, by rw [← e]; exact hv⟩
      · rw [if_neg c1] at e
        obtain ⟨t, t1, t2, t3⟩ := (h3 x).mp ⟨s, by omega, e⟩
        exact ⟨t, by omega, t2, t3⟩
    · rintro ⟨t, t1, t2, t3⟩
      by_cases c1 : t = i
      · subst c1
        exact ⟨j, by omega, by show (if j = j then q t else q' j) = x; rw [if_pos rfl]; exact t2⟩
      · obtain ⟨s, s1, s2⟩ := (h3 x).mpr ⟨t, by omega, t2, t3⟩
        exact ⟨s, by omega, by show (if s = j then q i else q' s) = x; rw [if_neg (by omega)]; exact s2⟩
theorem sou_seg {an : Nat → Nat} {v : Nat} {q q' : Nat → Nat} {l j n : Nat} (h : sou an v q q' l j n) : seg q' 0 j = fun k => seg q 0 n k && decide (an k = v) := funext fun k => Bool.eq_iff_iff.mpr (by
  rw [seg_iff, Bool.and_eq_true, seg_iff, decide_eq_true_iff]
  constructor
  · rintro ⟨s, -, s2, s3⟩
    obtain ⟨t, t1, t2, t3⟩ := (h.2.2 k).mp ⟨s, s2, s3⟩
    exact ⟨⟨t, Nat.zero_le _, t1, t2⟩, t3⟩
  · rintro ⟨⟨t, -, t1, t2⟩, t3⟩
    obtain ⟨s, s1, s2⟩ := (h.2.2 k).mpr ⟨t, t1, t2, t3⟩
    exact ⟨s, Nat.zero_le _, s1, s2⟩)
theorem cq_up (p : Nat → Bool) (n : Nat) : cq p (n + 1) = cq p n + (bif p n then 1 else 0) := rfl
section
variable {N : Nat} {X : ez_X} {I A : Nat → Nat → Int32} {J B : Nat → Nat → Int64} {R : Nat → Nat} {T : List ez_C} {x y : Int32} {z : Int64} {t : ly_t}
theorem dj_ls (hr : rl I J) (hB : cx_hB cx_B0 I) (ht : t ∈ ls I J) : Dj (ly_s I J t) ∧ ∀ s, rf_n I ≤ s → s < 3 → ly_s I J t s = 0 := by
  obtain ⟨w, h, ew, eh, hw, hh⟩ := wh_is hB
  obtain ⟨e0, e1, -, -⟩ := km_0 hr.1
  have hpk := pk_ls hr hB ht (e0 ▸ ew) (e1 ▸ eh) hw hh
  exact ⟨hpk.1, hpk.2.2⟩
theorem sk_at {P : Nat → Int64} {s c : Nat} (hD : Dj P) (hs : s < 3) (hc : c < 64) (hp : kb (P s) c = true) (z : Int64) : kb (skF P (fun _ => z)) c = (!kb z c && decide (P s &&& ((z ||| cell1 c) ^^^ (18446744073709551615 : Int64)) = 0)) := by
  have hk : kb (skF P (fun _ => z)) c = ((kb (on1 (P 0 &&& (z ^^^ (18446744073709551615 : Int64)))) c || kb (on1 (P 1 &&& (z ^^^ (18446744073709551615 : Int64)))) c) || kb (on1 (P 2 &&& (z ^^^ (18446744073709551615 : Int64)))) c) := by
    unfold skF
    rw [kb_or, kb_or, kb_or, kb_0, Bool.false_or]
  have ho : ∀ s', s' < 3 → s' ≠ s → kb (on1 (P s' &&& (z ^^^ (18446744073709551615 : Int64)))) c = false := fun s' h3 hne => on1_sub (by rw [kb_and, Dj_kb hD hs h3 (fun q => hne q.symm) hp, Bool.false_and])
  have e2 : kb (skF P (fun _ => z)) c = kb (on1 (P s &&& (z ^^^ (18446744073709551615 : Int64)))) c := by
    rw [hk]
    rcases (show s = 0 ∨ s = 1 ∨ s = 2 by omega) with rfl | rfl | rfl
    · rw [ho 1 (by decide) (by decide), ho 2 (by decide) (by decide), Bool.or_false, Bool.or_false]
    · rw [ho 0 (by decide) (by decide), ho 2 (by decide) (by decide), Bool.or_false, Bool.false_or]
    · rw [ho 0 (by decide) (by decide), ho 1 (by decide) (by decide), Bool.or_false, Bool.false_or]
  have e3 : P s &&& (z ^^^ (18446744073709551615 : Int64)) = P s &&& ((P s &&& z) ^^^ (18446744073709551615 : Int64)) := kb_ext fun i hi => by
    rw [kb_and, kb_and, kb_n64 _ hi, kb_n64 _ hi, kb_and]
    cases kb (P s) i <;> cases kb z i <;> rfl
  have e4 := on1_kb (P := P s) (H := P s &&& z) hc (fun i hi => by rw [kb_and] at hi; exact (Bool.and_eq_true_iff.mp hi).1) hp
  rw [e2, e3, e4, kb_and, hp, Bool.true_and]
  congr 1
  refine decide_eq_decide.mpr ⟨fun e => kb_ext fun i hi => ?_, fun e => kb_ext fun i hi => ?_⟩
  · rw [kb_and, kb_n64 _ hi, kb_or, kb_0]
    have h := congrArg (fun u => kb u i) e
    simp only [kb_or, kb_and] at h
    cases h1 : kb (P s) i
    · rfl
    · rw [h1, Bool.true_and] at h
      rw [h]
      rfl
  · have h := congrArg (fun u => kb u i) e
    simp only [kb_and, kb_n64 _ hi, kb_or, kb_0] at h
    rw [kb_or, kb_and]
    cases h1 : kb (P s) i
    · by_cases ei : i = c
      · rw [ei, hp] at h1
        cases h1
      · rw [Bool.false_and, Bool.false_or]
        unfold cell1
        rw [kb_one hc, decide_eq_false ei]
    · rw [h1, Bool.true_and] at h
      rw [Bool.true_and]
      cases h2 : (kb z i || kb (cell1 c) i)
      · rw [h2] at h
        cases h
      · rfl
theorem pe_plain (hr : rl I J) (hB : cx_hB cx_B0 I) (hA : mg I J A B) {k c : Nat} (hk : k < (ls I J).length) (hl : (ls I J).length ≤ 400) (hc : c < 64) (hx : x = Int32.ofNat k) (hy : y = Int32.ofNat c) : pe N X 216 [.ref 35, .int x, .int y, .long z] (ev_hp A B R T) (fun r h => r = some (.int (Int32.ofNat (anL I J (ls I J) z c k))) ∧ h = ev_hp A B R T) := by
  subst hx hy
  obtain ⟨e3, hn3, en⟩ := mg_3 hr hB hA
  obtain ⟨hD, hD0⟩ := dj_ls hr hB (t := (ls I J).getD k (0, 0, 0)) (by rw [ly_gd hk]; exact List.getElem_mem hk)
  have asr : I 2 1 = I 35 7 := congrArg (fun K : kt_K => K.2.2.2.2.2.2.2.1) hr.1
  have h01 := hB 35 7
  rw [show cx_B0 35 7 = (0, 1) from rfl] at h01
  have h01 := cx_01 h01.1 h01.2
  have a7 : A 35 7 = I 35 7 := hA.1 7 (by decide) (by decide)
  have loop : ∀ (d s : Nat), s + d = rf_n I → (∀ s', s' < s → kb (ly_s I J ((ls I J).getD k (0, 0, 0)) s') c = false) → ∀ N, pw N X 216 3 [.ref 35, .int (Int32.ofNat k), .int (Int32.ofNat c), .long z, ez_fill, .int (Int32.ofNat s)] [] (ev_hp A B R T) (fun r h => r = some (.int (Int32.ofNat (anL I J (ls I J) z c k))) ∧ h = ev_hp A B R T) := by
    intro d
    induction d with
    | zero =>
      intro s hs h0 N
      have hw : kb (ly_w I J ((ls I J).getD k (0, 0, 0))) c = false := by
        have ha : ∀ s', s' < 3 → kb (ly_s I J ((ls I J).getD k (0, 0, 0)) s') c = false := fun s' h3 => by
          by_cases e : s' < s
          · exact h0 s' e
          · rw [hD0 s' (by omega) h3, kb_0]
        unfold ly_w
        rw [kb_or, kb_or, ha 0 (by decide), ha 1 (by decide), ha 2 (by decide)]
        rfl
      refine pw_p (pl9_3 ⟨fun _ => pw_p (pl9_103 ⟨?_, rfl⟩), fun g => ?_⟩)
      · unfold anL
        rw [hw]
        rfl
      · rw [e3, io_le (by omega) (by omega)] at g
        omega
    | succ d ih =>
      intro s hsd h0 N
      refine pw_p (pl9_3 ⟨fun g => ?_, fun _ _ _ => ?_⟩)
      · rw [e3, io_le (by omega) (by omega)] at g
        omega
      rw [show (3 : Int32) * Int32.ofNat k = Int32.ofNat (3 * k) from io_mul 3 k, show (300 : Int32) * Int32.ofNat s = Int32.ofNat (300 * s) from io_mul 300 s, io_add, io_cl (by omega), mg_ml hA hk (by omega), io_add]
      obtain ⟨p1, p2⟩ := mg_sp hr hB hA hk (show s < rf_n I by omega)
      rw [io_cl (by omega), p2]
      refine pw_p (pl9_37 ?_)
      rw [lg_eq, io_1, has_kb _ hc, has_kb _ hc, a7]
      have hc1 : (1 : Int64) <<< ((Int32.ofNat c).toInt64 &&& (63 : Int64)) = cell1 c := rfl
      rw [hc1]
      refine ⟨fun g => ih (s + 1) (by omega) (fun s' hs' => ?_) _, fun g => ?_⟩
      · by_cases e : s' = s
        · rw [e]
          exact g
        · exact h0 s' (by omega)
      · have g : kb (ly_s I J ((ls I J).getD k (0, 0, 0)) s) c = true := by
          cases hb : kb (ly_s I J ((ls I J).getD k (0, 0, 0)) s) c
          · exact absurd hb g
          · rfl
        have hsk := sk_at hD (show s < 3 by omega) hc g z
        have hw : kb (ly_w I J ((ls I J).getD k (0, 0, 0))) c = true := by
          unfold ly_w
          rw [kb_or, kb_or]
          rcases (show s = 0 ∨ s = 1 ∨ s = 2 by omega) with rfl | rfl | rfl <;> rw [g] <;> simp
        have ev : anL I J (ls I J) z c k = if I 35 7 = 1 ∧ kb z c = false ∧ ly_s I J ((ls I J).getD k (0, 0, 0)) s &&& ((z ||| cell1 c) ^^^ (18446744073709551615 : Int64)) = 0 then 2 else 1 := by
          unfold anL snk
          rw [hw, asr]
          rcases h01 with h | h
          · rw [h, if_pos rfl, kb_0, if_neg (fun q => absurd q.1 (by decide))]
            rfl
          · rw [h, if_neg (by decide), hsk]
            cases hz : kb z c
            · by_cases he : ly_s I J ((ls I J).getD k (0, 0, 0)) s &&& ((z ||| cell1 c) ^^^ (18446744073709551615 : Int64)) = 0
              · rw [decide_eq_true he, if_pos ⟨rfl, rfl, he⟩]
                rfl
              · rw [decide_eq_false he, if_neg (fun q => he q.2.2)]
                rfl
            · rw [if_neg (fun q => absurd q.2.1 (by decide))]
              rfl
        rw [ev]
        refine ⟨fun g1 => ⟨fun g2 => ⟨?_, rfl⟩, fun g2 => ⟨?_, rfl⟩⟩, fun g1 => ⟨fun g3 => ⟨fun g2 => ⟨?_, rfl⟩, fun g2 => ⟨?_, rfl⟩⟩, fun g3 => ⟨fun g2 => ⟨?_, rfl⟩, fun g2 => ⟨?_, rfl⟩⟩⟩⟩
        · rw [if_neg (fun q => g1 q.2.1)]
          rfl
        · rw [if_neg (fun q => g1 q.2.1)]
          rfl
        · rw [if_neg (fun q => g3 q.2.2)]
          rfl
        · rw [if_neg (fun q => g3 q.2.2)]
          rfl
        · rw [if_neg (fun q => g2 q.1)]
          rfl
        · rw [if_pos ⟨Classical.not_not.mp g2, Classical.not_not.mp g1, Classical.not_not.mp g3⟩]
          rfl
  exact pe_of (pw_p (pl9_0 (loop (rf_n I) 0 (by omega) (fun s' hs' => absurd hs' (Nat.not_lt_zero s')) _)))
noncomputable def nd_Q (R : Nat → Nat) (T : List ez_C) (v : Nat) : pw_Q := fun r h => r = some (.int (Int32.ofNat v)) ∧ ∃ A B, h = ev_hp A B R T
/-- the least so far -/
noncomputable def lsF (M : Nat → Nat) (n c : Nat) : Nat := if c = 0 then n + 1 else M (bN M c)
theorem mg_53 {F : Nat → Int32} (h : mg I J A B) : mg I J (ev_sI A 53 F) B := mg_d h (fun k _ => by rw [cx_sI_n _ _ (show (35 : Nat) ≠ 53 by decide)]) (cx_sI_n _ _ (by decide)) rfl
theorem mg_59 {F : Nat → Int32} (h : mg I J A B) : mg I J (ev_sI A 59 F) B := mg_d h (fun k _ => by rw [cx_sI_n _ _ (show (35 : Nat) ≠ 59 by decide)]) (cx_sI_n _ _ (by decide)) rfl
theorem mg_60 {F : Nat → Int32} (h : mg I J A B) : mg I J (ev_sI A 60 F) B := mg_d h (fun k _ => by rw [cx_sI_n _ _ (show (35 : Nat) ≠ 60 by decide)]) (cx_sI_n _ _ (by decide)) rfl
theorem mg_36 {v : Int32} (h : mg I J A B) : mg I J (ev_sI A 35 (upd (A 35) 36 v)) B := mg_d h (fun k hk => by rw [cx_sI_s, upd_n _ _ hk]) (cx_sI_n _ _ (by decide)) rfl
theorem e_16 (hr : rl I J) (hA : mg I J A B) : A 35 0 * A 35 1 = I 1 6 := by
  rw [hA.1 0 (by decide) (by decide), hA.1 1 (by decide) (by decide)]
  exact (congrArg (fun K : kt_K => K.2.2.2.1) hr.1).symm
theorem pe_mneedOf (hr : rl I J) (hB : cx_hB cx_B0 I) (hA : mg I J A B) {k : Nat} (hk : k < (ls I J).length) (hl : (ls I J).length ≤ 400) (hx : x = Int32.ofNat k) : pe N X 213 [.ref 35, .int x] (ev_hp A B R T) (nd_Q R T (ndN I J k)) := by
  subst hx
  obtain ⟨nc, e16, n1, n2⟩ := b_16 hB
  have enc : (I 1 6).toInt.toNat = nc := by
    rw [e16, io_ti (by omega)]
    exact Int.toNat_natCast nc
  have hndN : ndN I J k = nd (anL I J (ls I J)) (ls I J).length nc (seg (fun i => i) 0 (ls I J).length) 0 k := by
    unfold ndN
    rw [enc]
  rw [hndN]
  have h2 := anL_2 (I := I) (J := J) (L := ls I J)
  -- the end
  have fin : ∀ (A : Nat → Nat → Int32) (sz : Nat) (z : Int64) (cnt : Nat) (q : Nat → Nat), A 35 36 = Int32.ofNat cnt → nd (anL I J (ls I J)) (ls I J).length nc (seg (fun i => i) 0 (ls I J).length) 0 k = cnt + nd (anL I J (ls I J)) (ls I J).length nc (seg q 0 sz) z k → spl (anL I J (ls I J)) (seg q 0 sz) (ls I J).length nc z = false → ∀ N, pw N X 213 44 [.ref 35, .int (Int32.ofNat k), .int (Int32.ofNat sz), .long z, ez_fill, .int (0 : Int32)] [] (ev_hp A B R T) (nd_Q R T (nd (anL I J (ls I J)) (ls I J).length nc (seg (fun i => i) 0 (ls I J).length) 0 k)) := by
    intro A sz z cnt q h36 hnd hs N
    refine pw_p (nf_44 ⟨fun _ => ⟨?_, A, B, rfl⟩, fun g => absurd rfl g⟩)
    show some _ = some _
    rw [h36, hnd, nd_eq h2 (seg q 0 sz) z k, hs]
    rfl
  have turns : ∀ (m : Nat) (sz : Nat), sz = m → ∀ (A : Nat → Nat → Int32) (z : Int64) (cnt : Nat) (q : Nat → Nat), mg I J A B → A 35 36 = Int32.ofNat cnt → sz ≤ (ls I J).length → lst q (ls I J).length 0 sz → (∀ i, i < sz → A 59 i = Int32.ofNat (q i)) → nd (anL I J (ls I J)) (ls I J).length nc (seg (fun i => i) 0 (ls I J).length) 0 k = cnt + nd (anL I J (ls I J)) (ls I J).length nc (seg q 0 sz) z k → ∀ N, pw N X 213 44 [.ref 35, .int (Int32.ofNat k), .int (Int32.ofNat sz), .long z, ez_fill, .int (1 : Int32)] [] (ev_hp A B R T) (nd_Q R T (nd (anL I J (ls I J)) (ls I J).length nc (seg (fun i => i) 0 (ls I J).length) 0 k)) := by
    intro m
    induction m using Nat.strongRecOn with
    | _ m ih =>
      intro sz hsz A z cnt q hA h36 hszl hq h59 hnd N
      have hG := lst_sz hq
      rw [Nat.sub_zero] at hG
      have hM : ∀ c, mst (anL I J (ls I J)) (seg q 0 sz) (ls I J).length z c ≤ sz := fun c => by
        have := mst_le (an := anL I J (ls I J)) (G := seg q 0 sz) (l := (ls I J).length) (z := z) h2 c
        omega
      generalize hME : mst (anL I J (ls I J)) (seg q 0 sz) (ls I J).length z = M at hM
      -- the call that parts best
      have cells : ∀ (d c : Nat), c + d = nc → ∀ A, mg I J A B → A 35 36 = Int32.ofNat cnt → (∀ i, i < sz → A 59 i = Int32.ofNat (q i)) → ∀ N, pw N X 213 60 [.ref 35, .int (Int32.ofNat k), .int (Int32.ofNat sz), .long z, ez_fill, .int (1 : Int32), .int (Int32.ofNat (bN M c)), .int (Int32.ofNat (lsF M sz c)), .int (Int32.ofNat c)] [] (ev_hp A B R T) (nd_Q R T (nd (anL I J (ls I J)) (ls I J).length nc (seg (fun i => i) 0 (ls I J).length) 0 k)) := by
        intro d
        induction d with
        | zero =>
          intro c hcd A hA h36 h59 N
          obtain rfl : c = nc := by omega
          have hbl := bN_lt M c (by omega)
          have hMb := hM (bN M c)
          have el : lsF M sz c = M (bN M c) := if_neg (by omega)
          have es : spl (anL I J (ls I J)) (seg q 0 sz) (ls I J).length c z = decide (M (bN M c) < sz) := by
            unfold spl bst
            rw [hME, hG]
          have eb : bst (anL I J (ls I J)) (seg q 0 sz) (ls I J).length c z = bN M c := by
            unfold bst
            rw [hME]
          rw [el]
          refine pw_p (nf_60 ⟨fun _ => ?_, fun g => ?_⟩)
          rotate_left
          · rw [e_16 hr hA, e16] at g
            exact absurd (Int32.le_refl _) g
          refine pw_p (nf_222 ?_)
          rw [io_le (by omega) (by omega)]
          refine ⟨fun g => fin A sz z cnt q h36 hnd (by rw [es]; exact decide_eq_false (by omega)) _, fun g => ⟨_, pe_plain hr hB hA hk hl (by omega) rfl rfl, ?_⟩⟩
          have hs : spl (anL I J (ls I J)) (seg q 0 sz) (ls I J).length c z = true := by
            rw [es]
            exact decide_eq_true (by omega)
          rintro r h ⟨rfl, rfl⟩
          refine pw_p (nf_248 ?_)
          have hav := h2 z (bN M c) k
          generalize hv : anL I J (ls I J) z (bN M c) k = v at hav
          -- those that say the same
          have sift : ∀ (d i : Nat), i + d = sz → ∀ A j q', mg I J A B → A 35 36 = Int32.ofNat cnt → (∀ s, i ≤ s → s < sz → A 59 s = Int32.ofNat (q s)) → (∀ s, s < j → A 59 s = Int32.ofNat (q' s)) → sou (anL I J (ls I J) z (bN M c)) v q q' (ls I J).length j i → ∀ N, pw N X 213 256 [.ref 35, .int (Int32.ofNat k), .int (Int32.ofNat sz), .long z, ez_fill, .int (1 : Int32), .int (Int32.ofNat (bN M c)), .int (Int32.ofNat (M (bN M c))), .int (Int32.ofNat v), .int (Int32.ofNat j), .int (Int32.ofNat i)] [] (ev_hp A B R T) (nd_Q R T (nd (anL I J (ls I J)) (ls I J).length c (seg (fun i => i) 0 (ls I J).length) 0 k)) := by
            intro d
            induction d with
            | zero =>
              intro i hi A j q' hA h36 hs1 hs2 hso N
              obtain rfl : i = sz := by omega
              refine pw_p (nf_256 ⟨fun _ => ?_, fun g => absurd (Int32.le_refl _) g⟩)
              have eG : seg q' 0 j = nxt (anL I J (ls I J)) (seg q 0 i) (ls I J).length c z v := by
                rw [sou_seg hso]
                unfold nxt
                rw [eb]
              have hj : j < i := by
                have h := nxt_lt h2 hs (v := v) hav
                rw [← eG, lst_sz hso.2.1, hG] at h
                omega
              have hnd' : nd (anL I J (ls I J)) (ls I J).length c (seg (fun i => i) 0 (ls I J).length) 0 k = (cnt + 1) + nd (anL I J (ls I J)) (ls I J).length c (seg q' 0 j) (z ||| cell1 (bN M c)) k := by
                rw [hnd, nd_eq h2 (seg q 0 i) z k, if_pos hs, eb, hv, eG]
                omega
              refine pw_p (nf_304 fun _ => ?_)
              have hc1 : (1 : Int64) <<< ((Int32.ofNat (bN M c)).toInt64 &&& (63 : Int64)) = cell1 (bN M c) := rfl
              rw [hc1, h36, io_1, show (1 : Int32) = Int32.ofNat 1 from rfl, io_le (by omega) (by omega)]
              have h36' : ∀ F : Nat → Int32, ev_sI (ev_sI A 60 F) 35 (upd (A 35) 36 (Int32.ofNat (cnt + 1))) 35 36 = Int32.ofNat (cnt + 1) := fun F => by rw [cx_sI_s, upd_s]
              refine ⟨fun g => fin _ j (z ||| cell1 (bN M c)) (cnt + 1) q' (h36' _) hnd' (spl_few h2 (by rw [lst_sz hso.2.1]; omega)) _, fun g => ih j (by omega) j rfl _ (z ||| cell1 (bN M c)) (cnt + 1) q' ?_ (h36' _) (by omega) hso.2.1 (fun s hs => ?_) hnd' _⟩
              · have e35 : A 35 = ev_sI A 60 (upd (A 60) (Int32.ofNat cnt).toNatClampNeg (Int32.ofNat (bN M c))) 35 := (cx_sI_n _ _ (by decide)).symm
                rw [e35]
                exact mg_36 (mg_60 hA)
              · rw [cx_sI_n _ _ (show (59 : Nat) ≠ 35 by decide), cx_sI_n _ _ (show (59 : Nat) ≠ 60 by decide)]
                exact hs2 s hs
            | succ d ih2 =>
              intro i hid A j q' hA h36 hs1 hs2 hso N
              have hqi := hq.1 i (Nat.zero_le _) (by omega)
              have hji := hso.1
              refine pw_p (nf_256 ⟨fun g => ?_, fun _ _ => ?_⟩)
              · rw [io_le (by omega) (by omega)] at g
                omega
              rw [io_cl (by omega), hs1 i (Nat.le_refl _) (by omega)]
              refine ⟨_, pe_plain hr hB hA hqi hl (by omega) rfl rfl, ?_⟩
              rintro r h ⟨rfl, rfl⟩
              refine pw_p (nf_276 ?_)
              have hai := h2 z (bN M c) (q i)
              rw [io_eq (by omega) (by omega), io_1, io_1, io_cl (by omega), io_cl (by omega), hs1 i (Nat.le_refl _) (by omega)]
              refine ⟨fun g => ih2 (i + 1) (by omega) A j q' hA h36 (fun s s1 s2 => hs1 s (by omega) s2) hs2 (sou_no hso g) _, fun g _ _ => ih2 (i + 1) (by omega) _ (j + 1) (fun s => if s = j then q i else q' s) (mg_59 hA) ?_ (fun s s1 s2 => ?_) (fun s s1 => ?_) (sou_yes hso hq (by omega) (Classical.not_not.mp g)) _⟩
              · rw [cx_sI_n _ _ (show (35 : Nat) ≠ 59 by decide)]
                exact h36
              · rw [cx_sI_s, upd_n _ _ (by omega)]
                exact hs1 s (by omega) s2
              · rw [cx_sI_s]
                show upd (A 59) j (Int32.ofNat (q i)) s = Int32.ofNat (if s = j then q i else q' s)
                by_cases e : s = j
                · rw [if_pos e, e, upd_s]
                · rw [if_neg e, upd_n _ _ e]
                  exact hs2 s (by omega)
          exact sift sz 0 (by omega) A 0 q hA h36 (fun s _ hs => h59 s hs) (fun s hs => absurd hs (Nat.not_lt_zero s)) ⟨Nat.le_refl _, ⟨fun s _ hs => absurd hs (Nat.not_lt_zero s), fun s _ _ hs => absurd hs (Nat.not_lt_zero s)⟩, fun u => ⟨fun ⟨s, hs, _⟩ => absurd hs (Nat.not_lt_zero s), fun ⟨s, hs, _⟩ => absurd hs (Nat.not_lt_zero s)⟩⟩ _
        | succ d ihc =>
          intro c hcd A hA h36 h59 N
          have hc : c < nc := by omega
          have hMc := hM c
          have el : lsF M sz (c + 1) = M (bN M (c + 1)) := if_neg (by omega)
          have eb : bN M (c + 1) = if M c < M (bN M c) then c else bN M c := rfl
          have hls : lsF M sz c ≤ 401 := by
            unfold lsF
            have := hM (bN M c)
            split <;> omega
          have h6 := fun A a b e N => ihc (c + 1) (by omega) A a b e N
          rw [el] at h6
          refine pw_p (nf_60 ⟨fun g => ?_, fun _ _ _ _ => ?_⟩)
          · rw [e_16 hr hA, e16, io_le (by omega) (by omega)] at g
            omega
          rw [show ((0 : Int32).toNatClampNeg) = 0 from rfl, show ((1 : Int32).toNatClampNeg) = 1 from rfl, show ((2 : Int32).toNatClampNeg) = 2 from rfl, sI2, sI2]
          -- those of the group told apart
          have tally : ∀ (d i : Nat), i + d = sz → ∀ F, (∀ v, v ≤ 2 → F v = Int32.ofNat (cq (fun t => decide (anL I J (ls I J) z c (q (0 + t)) = v)) i)) → ∀ N, pw N X 213 93 [.ref 35, .int (Int32.ofNat k), .int (Int32.ofNat sz), .long z, ez_fill, .int (1 : Int32), .int (Int32.ofNat (bN M c)), .int (Int32.ofNat (lsF M sz c)), .int (Int32.ofNat c), .int (Int32.ofNat i)] [] (ev_hp (ev_sI A 53 F) B R T) (nd_Q R T (nd (anL I J (ls I J)) (ls I J).length nc (seg (fun i => i) 0 (ls I J).length) 0 k)) := by
            intro d
            induction d with
            | zero =>
              intro i hi F hF N
              obtain rfl : i = sz := by omega
              have hp : ∀ v, v ≤ 2 → F v = Int32.ofNat (pt (anL I J (ls I J)) (seg q 0 i) (ls I J).length z c v) := fun v hv => by
                have h := lst_cq (p := fun k => decide (anL I J (ls I J) z c k = v)) hq
                rw [hF v hv]
                unfold pt
                rw [h, Nat.sub_zero]
              have hmx : mx3 (pt (anL I J (ls I J)) (seg q 0 i) (ls I J).length z c 0) (pt (anL I J (ls I J)) (seg q 0 i) (ls I J).length z c 1) (pt (anL I J (ls I J)) (seg q 0 i) (ls I J).length z c 2) = M c := by
                rw [← hME]
                rfl
              have hb3 := mx3_is (pt (anL I J (ls I J)) (seg q 0 i) (ls I J).length z c 0) (pt (anL I J (ls I J)) (seg q 0 i) (ls I J).length z c 1) (pt (anL I J (ls I J)) (seg q 0 i) (ls I J).length z c 2)
              have p0 := hp 0 (by decide)
              have p1 := hp 1 (by decide)
              have p2 := hp 2 (by decide)
              rw [hmx] at hb3
              generalize pt (anL I J (ls I J)) (seg q 0 i) (ls I J).length z c 0 = u0 at p0 hb3
              generalize pt (anL I J (ls I J)) (seg q 0 i) (ls I J).length z c 1 = u1 at p1 hb3
              generalize pt (anL I J (ls I J)) (seg q 0 i) (ls I J).length z c 2 = u2 at p2 hb3
              have hA' := mg_53 (F := F) hA
              have g36 : ev_sI A 53 F 35 36 = Int32.ofNat cnt := by
                rw [cx_sI_n _ _ (show (35 : Nat) ≠ 53 by decide)]
                exact h36
              have g59 : ∀ s, s < i → ev_sI A 53 F 59 s = Int32.ofNat (q s) := fun s hs => by
                rw [cx_sI_n _ _ (show (59 : Nat) ≠ 53 by decide)]
                exact h59 s hs
              have h7 := fun N => h6 (ev_sI A 53 F) hA' g36 g59 N
              have hcmp : lsF M i c ≤ M c ∧ bN M (c + 1) = bN M c ∧ M (bN M c) = lsF M i c ∨ ¬ lsF M i c ≤ M c ∧ bN M (c + 1) = c := by
                unfold lsF
                by_cases c0 : c = 0
                · subst c0
                  rw [if_pos rfl]
                  refine Or.inr ⟨by omega, ?_⟩
                  rw [eb]
                  split <;> rfl
                · rw [if_neg c0, eb]
                  by_cases g : M c < M (bN M c)
                  · exact Or.inr ⟨by omega, if_pos g⟩
                  · exact Or.inl ⟨by omega, if_neg g, rfl⟩
              have key : ∀ u, u = M c → ∀ N, ((Int32.ofNat (lsF M i c) ≤ Int32.ofNat u → ((Int32.ofNat (lsF M i c) ≤ Int32.ofNat u → pw N X 213 60 [.ref 35, .int (Int32.ofNat k), .int (Int32.ofNat i), .long z, ez_fill, .int (1 : Int32), .int (Int32.ofNat (bN M c)), .int (Int32.ofNat (lsF M i c)), .int (Int32.ofNat c + (1 : Int32))] [] (ev_hp (ev_sI A 53 F) B R T) (nd_Q R T (nd (anL I J (ls I J)) (ls I J).length nc (seg (fun i => i) 0 (ls I J).length) 0 k))) ∧ (¬ (Int32.ofNat (lsF M i c) ≤ Int32.ofNat u) → pw N X 213 60 [.ref 35, .int (Int32.ofNat k), .int (Int32.ofNat i), .long z, ez_fill, .int (1 : Int32), .int (Int32.ofNat (bN M c)), .int (Int32.ofNat u), .int (Int32.ofNat c + (1 : Int32))] [] (ev_hp (ev_sI A 53 F) B R T) (nd_Q R T (nd (anL I J (ls I J)) (ls I J).length nc (seg (fun i => i) 0 (ls I J).length) 0 k))))) ∧ (¬ (Int32.ofNat (lsF M i c) ≤ Int32.ofNat u) → ((Int32.ofNat (lsF M i c) ≤ Int32.ofNat u → pw N X 213 60 [.ref 35, .int (Int32.ofNat k), .int (Int32.ofNat i), .long z, ez_fill, .int (1 : Int32), .int (Int32.ofNat c), .int (Int32.ofNat (lsF M i c)), .int (Int32.ofNat c + (1 : Int32))] [] (ev_hp (ev_sI A 53 F) B R T) (nd_Q R T (nd (anL I J (ls I J)) (ls I J).length nc (seg (fun i => i) 0 (ls I J).length) 0 k))) ∧ (¬ (Int32.ofNat (lsF M i c) ≤ Int32.ofNat u) → pw N X 213 60 [.ref 35, .int (Int32.ofNat k), .int (Int32.ofNat i), .long z, ez_fill, .int (1 : Int32), .int (Int32.ofNat c), .int (Int32.ofNat u), .int (Int32.ofNat c + (1 : Int32))] [] (ev_hp (ev_sI A 53 F) B R T) (nd_Q R T (nd (anL I J (ls I J)) (ls I J).length nc (seg (fun i => i) 0 (ls I J).length) 0 k)))))) := by
                rintro u rfl N
                rw [io_1, io_le (by omega) (by omega)]
                rcases hcmp with ⟨c1, c2, c3⟩ | ⟨c1, c2⟩
                · rw [c2, c3] at h7
                  exact ⟨fun _ => ⟨fun _ => h7 N, fun g => absurd c1 g⟩, fun g => absurd c1 g⟩
                · rw [c2] at h7
                  exact ⟨fun g => absurd g c1, fun _ => ⟨fun g => absurd g c1, fun _ => h7 N⟩⟩
              refine pw_p (nf_93 ⟨fun _ => ?_, fun g => absurd (Int32.le_refl _) g⟩)
              refine pw_p (nf_128 ?_)
              rw [show ((0 : Int32).toNatClampNeg) = 0 from rfl, show ((1 : Int32).toNatClampNeg) = 1 from rfl, show ((2 : Int32).toNatClampNeg) = 2 from rfl, cx_sI_s, p0, p1, p2]
              refine fun _ _ => ⟨fun g _ _ => ⟨fun g2 => key u1 ?_ _, fun g2 _ => key u2 ?_ _⟩, fun g _ _ => ⟨fun g2 => key u0 ?_ _, fun g2 _ => key u2 ?_ _⟩⟩
              · rw [io_le (by omega) (by omega)] at g g2
                omega
              · rw [io_le (by omega) (by omega)] at g g2
                omega
              · rw [io_le (by omega) (by omega)] at g g2
                omega
              · rw [io_le (by omega) (by omega)] at g g2
                omega
            | succ d iht =>
              intro i hid F hF N
              have hqi := hq.1 i (Nat.zero_le _) (by omega)
              refine pw_p (nf_93 ⟨fun g => ?_, fun _ _ => ?_⟩)
              · rw [io_le (by omega) (by omega)] at g
                omega
              rw [io_cl (by omega), cx_sI_n _ _ (show (59 : Nat) ≠ 53 by decide), h59 i (by omega)]
              refine ⟨_, pe_plain hr hB (mg_53 hA) hqi hl (by omega) rfl rfl, ?_⟩
              rintro r h ⟨rfl, rfl⟩
              have hai := h2 z c (q i)
              refine pw_p (nf_117 fun _ _ => ?_)
              rw [io_cl (by omega), cx_sI_s, sI2, io_1]
              refine iht (i + 1) (by omega) _ (fun v hv => ?_) _
              rw [cq_up, Nat.zero_add]
              by_cases e : v = anL I J (ls I J) z c (q i)
              · rw [← e, upd_s, hF v hv, decide_eq_true rfl]
                exact io_1 _
              · rw [upd_n _ _ e, hF v hv, decide_eq_false (fun u => e u.symm)]
                rfl
          refine tally sz 0 (by omega) _ (fun v hv => ?_) _
          rcases (show v = 0 ∨ v = 1 ∨ v = 2 by omega) with rfl | rfl | rfl
          · rw [upd_n _ _ (by decide), upd_n _ _ (by decide), upd_s]
            rfl
          · rw [upd_n _ _ (by decide), upd_s]
            rfl
          · rw [upd_s]
            rfl
      refine pw_p (nf_44 ⟨fun g => absurd g (by decide), fun _ => ?_⟩)
      rw [io_1]
      exact cells nc 0 (by omega) A hA h36 h59 _
  -- the group of all
  have start : ∀ (d i : Nat), i + d = (ls I J).length → ∀ A, mg I J A B → (∀ s, s < i → A 59 s = Int32.ofNat s) → ∀ N, pw N X 213 7 [.ref 35, .int (Int32.ofNat k), .int (Int32.ofNat (ls I J).length), .int (Int32.ofNat i)] [] (ev_hp A B R T) (nd_Q R T (nd (anL I J (ls I J)) (ls I J).length nc (seg (fun i => i) 0 (ls I J).length) 0 k)) := by
    intro d
    induction d with
    | zero =>
      intro i hi A hA h59 N
      obtain rfl : i = (ls I J).length := by omega
      have g36 : ev_sI A 35 (upd (A 35) 36 (0 : Int32)) 35 36 = Int32.ofNat 0 := by
        rw [cx_sI_s, upd_s]
        rfl
      refine pw_p (nf_7 ⟨fun _ => ⟨fun g => fin _ _ 0 0 (fun i => i) g36 (Nat.zero_add _).symm (spl_few h2 ?_) _, fun g => turns _ _ rfl _ 0 0 (fun i => i) (mg_36 hA) g36 (Nat.le_refl _) (lst_id _) (fun s hs => ?_) (Nat.zero_add _).symm _⟩, fun g => absurd (Int32.le_refl _) g⟩)
      · rw [show (1 : Int32) = Int32.ofNat 1 from rfl, io_le (by omega) (by omega)] at g
        rw [lst_sz (lst_id _)]
        omega
      · rw [cx_sI_n _ _ (show (59 : Nat) ≠ 35 by decide)]
        exact h59 s hs
    | succ d ih =>
      intro i hid A hA h59 N
      refine pw_p (nf_7 ⟨fun g => ?_, fun _ _ => ?_⟩)
      · rw [io_le (by omega) (by omega)] at g
        omega
      rw [io_cl (by omega), io_1]
      refine ih (i + 1) (by omega) _ (mg_59 hA) (fun s hs => ?_) _
      rw [cx_sI_s]
      by_cases e : s = i
      · rw [e, upd_s]
      · rw [upd_n _ _ e]
        exact h59 s (by omega)
  refine pe_of (pw_p (nf9_0 ?_))
  rw [hA.2.1]
  exact start (ls I J).length 0 (by omega) A hA (fun s hs => absurd hs (Nat.not_lt_zero s)) _
theorem pe_mneed (hr : rl I J) (hm : mk I J) (hB : cx_hB cx_B0 I) : pe N X 212 [.ref 35, .int x] (ev_hp I J R T) (fun r _ => r = some (.int (v_need I J x))) := by
  refine pe_of (pw_p (nn9_0 ⟨_, pe_mcr hr hm hB _, ?_⟩))
  rintro r h ⟨A, B, rfl, ⟨h1, rfl⟩ | ⟨h1, rfl, hA⟩⟩
  · refine pw_p (nn9_4 ⟨fun z => absurd z (by decide), fun _ => ?_⟩)
    unfold v_need
    rw [if_neg h1]
  · have h400 := h1.2
    refine pw_p (nn9_4 ⟨fun _ => ?_, fun z => absurd rfl z⟩)
    rw [hA.2.1, il_0]
    refine ⟨fun hx => ?_, fun hx => ?_⟩
    · unfold v_need
      rw [if_pos h1, if_pos hx]
    · obtain ⟨k, rfl, hk⟩ := wi_len (by omega) hx
      refine ⟨_, pe_mneedOf hr hB hA hk h400 rfl, ?_⟩
      rintro r h ⟨rfl, A', B', rfl⟩
      refine pw_p (nn9_23 ?_)
      unfold v_need
      rw [if_pos h1, if_neg hx, io_ti (by omega), Int.toNat_natCast]
end
end
section
/-! The reference: hardest. -/
section
variable {N : Nat} {X : ez_X} {I : Nat → Nat → Int32} {J : Nat → Nat → Int64} {R : Nat → Nat} {T : List ez_C} {Q : pw_Q} {cz kz : Nat}
set_option maxRecDepth 100000 in
theorem cv9_r0 {a0 : Int32} {a1 : Int32} {a2 : Int64} : ∀ G : ez_F, fx_up X 8 G 177 0 [.ref 35, .int a0, .int a1, .long a2, ez_fill] [] (ev_hp I J R T) cz kz = G 177 11 [.ref 35, .int a0, .int a1, .long a2, ez_fill, .int (-1 : Int32), .int (a1 - a0), .int (0 : Int32)] [] (ev_hp I J R T) cz kz := by
  intro G
  rfl
theorem cf9_0 {f t : Int32} {z : Int64}
    (H : pw N X 177 11 [.ref 35, .int f, .int t, .long z, ez_fill, .int (-1 : Int32), .int (t - f), .int (0 : Int32)] [] (ev_hp I J R T) Q) : pw (N + 1) X 177 0 [.ref 35, .int f, .int t, .long z, ez_fill] [] (ev_hp I J R T) Q := by
  refine pw_seg (by decide) (fun _ _ => cv9_r0) ?_
  exact H
set_option maxRecDepth 100000 in
theorem cv9_r1 {a0 : Int32} {a1 : Int32} {a2 : Int64} {a3 : Int32} {a4 : Int32} {a5 : Int32} : ∀ G : ez_F, fx_up X 3 G 177 11 [.ref 35, .int a0, .int a1, .long a2, ez_fill, .int a3, .int a4, .int a5] [] (ev_hp I J R T) cz kz = ev_C G 179 [.ref 35] (ev_hp I J R T) fun r h1 c1 k1 => G 177 17 [.ref 35, .int a0, .int a1, .long a2, ez_fill, .int a3, .int a4, .int a5] (r.toList ++ [.int a5]) h1 (cz + c1) (kz + k1) := by
  intro G
  rfl
set_option maxRecDepth 100000 in
theorem cv9_r2 {a0 : Int32} {a1 : Int32} {a2 : Int64} {a3 : Int32} {a4 : Int32} {a5 : Int32} {a6 : Int32} {a7 : Int32} : ∀ G : ez_F, fx_up X 1 G 177 17 [.ref 35, .int a0, .int a1, .long a2, ez_fill, .int a3, .int a4, .int a5] [.int a6, .int a7] (ev_hp I J R T) cz kz = bif decide (a6 ≤ a7) then G 177 173 [.ref 35, .int a0, .int a1, .long a2, ez_fill, .int a3, .int a4, .int a5] [] (ev_hp I J R T) cz kz else G 177 20 [.ref 35, .int a0, .int a1, .long a2, ez_fill, .int a3, .int a4, .int a5] [] (ev_hp I J R T) cz kz := by
  intro G
  rfl
set_option maxRecDepth 100000 in
theorem cv9_r3 {a0 : Int32} {a1 : Int32} {a2 : Int64} {a3 : Int32} {a4 : Int32} {a5 : Int32} : ∀ G : ez_F, fx_up X 4 G 177 20 [.ref 35, .int a0, .int a1, .long a2, ez_fill, .int a3, .int a4, .int a5] [] (ev_hp I J R T) cz kz = G 177 26 [.ref 35, .int a0, .int a1, .long a2, ez_fill, .int a3, .int a4, .int a5] [.int (0 : Int32), .int (0 : Int32), .ref 53] (ev_hp I J R T) cz kz := by
  intro G
  rfl
set_option maxRecDepth 100000 in
theorem cv9_r4 {a0 : Int32} {a1 : Int32} {a2 : Int64} {a3 : Int32} {a4 : Int32} {a5 : Int32} : ∀ G : ez_F, fx_up X 4 G 177 27 [.ref 35, .int a0, .int a1, .long a2, ez_fill, .int a3, .int a4, .int a5] [] (ev_hp I J R T) cz kz = G 177 33 [.ref 35, .int a0, .int a1, .long a2, ez_fill, .int a3, .int a4, .int a5] [.int (0 : Int32), .int (1 : Int32), .ref 53] (ev_hp I J R T) cz kz := by
  intro G
  rfl
set_option maxRecDepth 100000 in
theorem cv9_r5 {a0 : Int32} {a1 : Int32} {a2 : Int64} {a3 : Int32} {a4 : Int32} {a5 : Int32} : ∀ G : ez_F, fx_up X 4 G 177 34 [.ref 35, .int a0, .int a1, .long a2, ez_fill, .int a3, .int a4, .int a5] [] (ev_hp I J R T) cz kz = G 177 40 [.ref 35, .int a0, .int a1, .long a2, ez_fill, .int a3, .int a4, .int a5] [.int (0 : Int32), .int (2 : Int32), .ref 53] (ev_hp I J R T) cz kz := by
  intro G
  rfl
set_option maxRecDepth 100000 in
theorem cv9_r6 {a0 : Int32} {a1 : Int32} {a2 : Int64} {a3 : Int32} {a4 : Int32} {a5 : Int32} : ∀ G : ez_F, fx_up X 2 G 177 41 [.ref 35, .int a0, .int a1, .long a2, ez_fill, .int a3, .int a4, .int a5] [] (ev_hp I J R T) cz kz = G 177 44 [.ref 35, .int a0, .int a1, .long a2, ez_fill, .int a3, .int a4, .int a5, .int a0] [] (ev_hp I J R T) cz kz := by
  intro G
  rfl
theorem cf9_11 {f t b m c : Int32} {z : Int64}
    (H : ((((I 35 0) * (I 35 1)) ≤ c → pw N X 177 173 [.ref 35, .int f, .int t, .long z, ez_fill, .int b, .int m, .int c] [] (ev_hp I J R T) Q) ∧ (¬ (((I 35 0) * (I 35 1)) ≤ c) → (ev_ix (0 : Int32) 4 → (ev_ix (1 : Int32) 4 → (ev_ix (2 : Int32) 4 → pw N X 177 44 [.ref 35, .int f, .int t, .long z, ez_fill, .int b, .int m, .int c, .int f] [] (ev_hp (ev_sI (ev_sI (ev_sI I 53 (upd (I 53) ((0 : Int32).toNatClampNeg) (0 : Int32))) 53 (upd (upd (I 53) ((0 : Int32).toNatClampNeg) (0 : Int32)) ((1 : Int32).toNatClampNeg) (0 : Int32))) 53 (upd (upd (upd (I 53) ((0 : Int32).toNatClampNeg) (0 : Int32)) ((1 : Int32).toNatClampNeg) (0 : Int32)) ((2 : Int32).toNatClampNeg) (0 : Int32))) J R T) Q)))))) : pw (N + 1) X 177 11 [.ref 35, .int f, .int t, .long z, ez_fill, .int b, .int m, .int c] [] (ev_hp I J R T) Q := by
  refine pw_callp (by decide) (fun _ _ => cv9_r1) (pe_mcount) ?_
  refine pw_p (pw_if (by decide) (fun _ _ => cv9_r2) (fun w1 => ?_) (fun w1 => ?_))
  · have h1 := H.1 w1
    exact h1
  · have h1 := H.2 w1
    refine pw_p (pw_seg (by decide) (fun _ _ => cv9_r3) ?_)
    refine pw_p (pw_iast (by rfl) (cx_getI (show cx_Ds[53]? = some (0, 4, []) from rfl)) (cx_setI (show cx_Ds[53]? = some (0, 4, []) from rfl) _) (fun w2 => ?_))
    have h2 := h1 w2
    refine pw_p (pw_seg (by decide) (fun _ _ => cv9_r4) ?_)
    refine pw_p (pw_iast (by rfl) (cx_getI (show cx_Ds[53]? = some (0, 4, []) from rfl)) (cx_setI (show cx_Ds[53]? = some (0, 4, []) from rfl) _) (fun w2 => ?_))
    have h2 := h2 w2
    refine pw_p (pw_seg (by decide) (fun _ _ => cv9_r5) ?_)
    refine pw_p (pw_iast (by rfl) (cx_getI (show cx_Ds[53]? = some (0, 4, []) from rfl)) (cx_setI (show cx_Ds[53]? = some (0, 4, []) from rfl) _) (fun w2 => ?_))
    have h2 := h2 w2
    refine pw_p (pw_seg (by decide) (fun _ _ => cv9_r6) ?_)
    exact h2
set_option maxRecDepth 100000 in
theorem cv9_r7 {a0 : Int32} {a1 : Int32} {a2 : Int64} {a3 : Int32} {a4 : Int32} {a5 : Int32} {a6 : Int32} : ∀ G : ez_F, fx_up X 3 G 177 44 [.ref 35, .int a0, .int a1, .long a2, ez_fill, .int a3, .int a4, .int a5, .int a6] [] (ev_hp I J R T) cz kz = bif decide (a1 ≤ a6) then G 177 79 [.ref 35, .int a0, .int a1, .long a2, ez_fill, .int a3, .int a4, .int a5, .int a6] [] (ev_hp I J R T) cz kz else G 177 50 [.ref 35, .int a0, .int a1, .long a2, ez_fill, .int a3, .int a4, .int a5, .int a6] [] (ev_hp I J R T) cz kz := by
  intro G
  rfl
set_option maxRecDepth 100000 in
theorem cv9_r8 {a0 : Int32} {a1 : Int32} {a2 : Int64} {a3 : Int32} {a4 : Int32} {a5 : Int32} {a6 : Int32} : ∀ G : ez_F, fx_up X 6 G 177 50 [.ref 35, .int a0, .int a1, .long a2, ez_fill, .int a3, .int a4, .int a5, .int a6] [] (ev_hp I J R T) cz kz = G 177 61 [.ref 35, .int a0, .int a1, .long a2, ez_fill, .int a3, .int a4, .int a5, .int a6] [.int a6, .ref 59, .ref 35, .ref 53] (ev_hp I J R T) cz kz := by
  intro G
  rfl
set_option maxRecDepth 100000 in
theorem cv9_r9 {a0 : Int32} {a1 : Int32} {a2 : Int64} {a3 : Int32} {a4 : Int32} {a5 : Int32} {a6 : Int32} {a7 : Int32} : ∀ G : ez_F, fx_up X 3 G 177 62 [.ref 35, .int a0, .int a1, .long a2, ez_fill, .int a3, .int a4, .int a5, .int a6] [.int a7, .ref 35, .ref 53] (ev_hp I J R T) cz kz = ev_C G 216 [.ref 35, .int a7, .int a5, .long a2] (ev_hp I J R T) fun r h1 c1 k1 => G 177 68 [.ref 35, .int a0, .int a1, .long a2, ez_fill, .int a3, .int a4, .int a5, .int a6] (r.toList ++ [.ref 53]) h1 (cz + c1) (kz + k1) := by
  intro G
  rfl
theorem cf9_44 {f t b m c i : Int32} {z : Int64}
    (H : ((t ≤ i → pw N X 177 79 [.ref 35, .int f, .int t, .long z, ez_fill, .int b, .int m, .int c, .int i] [] (ev_hp I J R T) Q) ∧ (¬ (t ≤ i) → (ev_ix i 401 → (∃ Q1 : pw_Q, pe N X 216 [.ref 35, .int (I 59 i.toNatClampNeg), .int c, .long z] (ev_hp I J R T) Q1 ∧ ∀ (r : Option Value) (h1 : ez_H), Q1 r h1 → pw N X 177 68 [.ref 35, .int f, .int t, .long z, ez_fill, .int b, .int m, .int c, .int i] (r.toList ++ [.ref 53]) h1 Q))))) : pw (N + 1) X 177 44 [.ref 35, .int f, .int t, .long z, ez_fill, .int b, .int m, .int c, .int i] [] (ev_hp I J R T) Q := by
  refine pw_if (by decide) (fun _ _ => cv9_r7) (fun w1 => ?_) (fun w1 => ?_)
  · have h1 := H.1 w1
    exact h1
  · have h1 := H.2 w1
    refine pw_p (pw_seg (by decide) (fun _ _ => cv9_r8) ?_)
    refine pw_p (pw_iald (by rfl) (cx_getI (show cx_Ds[59]? = some (0, 401, []) from rfl)) (fun w2 => ?_))
    have h2 := h1 w2
    obtain ⟨Q1, hc, hk⟩ := h2
    exact pw_p (pw_call (by decide) (fun _ _ => cv9_r9) hc hk)
set_option maxRecDepth 100000 in
theorem cv9_r10 {a0 : Int32} {a1 : Int32} {a2 : Int64} {a3 : Int32} {a4 : Int32} {a5 : Int32} {a6 : Int32} {a7 : Int32} : ∀ G : ez_F, fx_up X 1 G 177 68 [.ref 35, .int a0, .int a1, .long a2, ez_fill, .int a3, .int a4, .int a5, .int a6] [.int a7, .ref 53] (ev_hp I J R T) cz kz = G 177 69 [.ref 35, .int a0, .int a1, .long a2, ez_fill, .int a3, .int a4, .int a5, .int a6] [.int a7, .ref 53, .int a7, .ref 53] (ev_hp I J R T) cz kz := by
  intro G
  rfl
set_option maxRecDepth 100000 in
theorem cv9_r11 {a0 : Int32} {a1 : Int32} {a2 : Int64} {a3 : Int32} {a4 : Int32} {a5 : Int32} {a6 : Int32} {a7 : Int32} {a8 : Int32} : ∀ G : ez_F, fx_up X 2 G 177 70 [.ref 35, .int a0, .int a1, .long a2, ez_fill, .int a3, .int a4, .int a5, .int a6] [.int a7, .int a8, .ref 53] (ev_hp I J R T) cz kz = G 177 72 [.ref 35, .int a0, .int a1, .long a2, ez_fill, .int a3, .int a4, .int a5, .int a6] [.int (a7 + (1 : Int32)), .int a8, .ref 53] (ev_hp I J R T) cz kz := by
  intro G
  rfl
set_option maxRecDepth 100000 in
theorem cv9_r12 {a0 : Int32} {a1 : Int32} {a2 : Int64} {a3 : Int32} {a4 : Int32} {a5 : Int32} {a6 : Int32} : ∀ G : ez_F, fx_up X 2 G 177 73 [.ref 35, .int a0, .int a1, .long a2, ez_fill, .int a3, .int a4, .int a5, .int a6] [] (ev_hp I J R T) cz kz = G 177 44 [.ref 35, .int a0, .int a1, .long a2, ez_fill, .int a3, .int a4, .int a5, .int (a6 + (1 : Int32))] [] (ev_hp I J R T) cz kz := by
  intro G
  rfl
theorem cf9_68 {f t b m c i v : Int32} {z : Int64}
    (H : (ev_ix v 4 → (ev_ix v 4 → pw N X 177 44 [.ref 35, .int f, .int t, .long z, ez_fill, .int b, .int m, .int c, .int (i + (1 : Int32))] [] (ev_hp (ev_sI I 53 (upd (I 53) v.toNatClampNeg ((I 53 v.toNatClampNeg) + (1 : Int32)))) J R T) Q))) : pw (N + 1) X 177 68 [.ref 35, .int f, .int t, .long z, ez_fill, .int b, .int m, .int c, .int i] [.int v, .ref 53] (ev_hp I J R T) Q := by
  refine pw_seg (by decide) (fun _ _ => cv9_r10) ?_
  refine pw_p (pw_iald (by rfl) (cx_getI (show cx_Ds[53]? = some (0, 4, []) from rfl)) (fun w1 => ?_))
  have h1 := H w1
  refine pw_p (pw_seg (by decide) (fun _ _ => cv9_r11) ?_)
  refine pw_p (pw_iast (by rfl) (cx_getI (show cx_Ds[53]? = some (0, 4, []) from rfl)) (cx_setI (show cx_Ds[53]? = some (0, 4, []) from rfl) _) (fun w1 => ?_))
  have h1 := h1 w1
  refine pw_p (pw_seg (by decide) (fun _ _ => cv9_r12) ?_)
  exact h1
set_option maxRecDepth 100000 in
theorem cv9_r13 {a0 : Int32} {a1 : Int32} {a2 : Int64} {a3 : Int32} {a4 : Int32} {a5 : Int32} {a6 : Int32} : ∀ G : ez_F, fx_up X 3 G 177 79 [.ref 35, .int a0, .int a1, .long a2, ez_fill, .int a3, .int a4, .int a5, .int a6] [] (ev_hp I J R T) cz kz = G 177 84 [.ref 35, .int a0, .int a1, .long a2, ez_fill, .int a3, .int a4, .int a5, .int a6] [.int (0 : Int32), .ref 53] (ev_hp I J R T) cz kz := by
  intro G
  rfl
set_option maxRecDepth 100000 in
theorem cv9_r14 {a0 : Int32} {a1 : Int32} {a2 : Int64} {a3 : Int32} {a4 : Int32} {a5 : Int32} {a6 : Int32} {a7 : Int32} : ∀ G : ez_F, fx_up X 3 G 177 85 [.ref 35, .int a0, .int a1, .long a2, ez_fill, .int a3, .int a4, .int a5, .int a6] [.int a7] (ev_hp I J R T) cz kz = G 177 90 [.ref 35, .int a0, .int a1, .long a2, ez_fill, .int a3, .int a4, .int a5, .int a6] [.int (1 : Int32), .ref 53, .int a7] (ev_hp I J R T) cz kz := by
  intro G
  rfl
set_option maxRecDepth 100000 in
theorem cv9_r15 {a0 : Int32} {a1 : Int32} {a2 : Int64} {a3 : Int32} {a4 : Int32} {a5 : Int32} {a6 : Int32} {a7 : Int32} {a8 : Int32} : ∀ G : ez_F, fx_up X 1 G 177 91 [.ref 35, .int a0, .int a1, .long a2, ez_fill, .int a3, .int a4, .int a5, .int a6] [.int a7, .int a8] (ev_hp I J R T) cz kz = bif decide (a8 ≤ a7) then G 177 103 [.ref 35, .int a0, .int a1, .long a2, ez_fill, .int a3, .int a4, .int a5, .int a6] [] (ev_hp I J R T) cz kz else G 177 94 [.ref 35, .int a0, .int a1, .long a2, ez_fill, .int a3, .int a4, .int a5, .int a6] [] (ev_hp I J R T) cz kz := by
  intro G
  rfl
set_option maxRecDepth 100000 in
theorem cv9_r16 {a0 : Int32} {a1 : Int32} {a2 : Int64} {a3 : Int32} {a4 : Int32} {a5 : Int32} {a6 : Int32} : ∀ G : ez_F, fx_up X 3 G 177 103 [.ref 35, .int a0, .int a1, .long a2, ez_fill, .int a3, .int a4, .int a5, .int a6] [] (ev_hp I J R T) cz kz = G 177 108 [.ref 35, .int a0, .int a1, .long a2, ez_fill, .int a3, .int a4, .int a5, .int a6] [.int (1 : Int32), .ref 53] (ev_hp I J R T) cz kz := by
  intro G
  rfl
set_option maxRecDepth 100000 in
theorem cv9_r17 {a0 : Int32} {a1 : Int32} {a2 : Int64} {a3 : Int32} {a4 : Int32} {a5 : Int32} {a6 : Int32} {a7 : Int32} : ∀ G : ez_F, fx_up X 4 G 177 109 [.ref 35, .int a0, .int a1, .long a2, ez_fill, .int a3, .int a4, .int a5, .int a6] [.int a7] (ev_hp I J R T) cz kz = G 177 116 [.ref 35, .int a0, .int a1, .long a2, ez_fill, .int a3, .int a4, .int a5, .int a7] [.int (2 : Int32), .ref 53] (ev_hp I J R T) cz kz := by
  intro G
  rfl
set_option maxRecDepth 100000 in
theorem cv9_r18 {a0 : Int32} {a1 : Int32} {a2 : Int64} {a3 : Int32} {a4 : Int32} {a5 : Int32} {a6 : Int32} {a7 : Int32} : ∀ G : ez_F, fx_up X 2 G 177 117 [.ref 35, .int a0, .int a1, .long a2, ez_fill, .int a3, .int a4, .int a5, .int a6] [.int a7] (ev_hp I J R T) cz kz = bif decide (a7 ≤ a6) then G 177 131 [.ref 35, .int a0, .int a1, .long a2, ez_fill, .int a3, .int a4, .int a5, .int a6] [] (ev_hp I J R T) cz kz else G 177 122 [.ref 35, .int a0, .int a1, .long a2, ez_fill, .int a3, .int a4, .int a5, .int a6] [] (ev_hp I J R T) cz kz := by
  intro G
  rfl
set_option maxRecDepth 100000 in
theorem cv9_r19 {a0 : Int32} {a1 : Int32} {a2 : Int64} {a3 : Int32} {a4 : Int32} {a5 : Int32} {a6 : Int32} : ∀ G : ez_F, fx_up X 5 G 177 131 [.ref 35, .int a0, .int a1, .long a2, ez_fill, .int a3, .int a4, .int a5, .int a6] [] (ev_hp I J R T) cz kz = bif decide (a4 ≤ a6) then G 177 147 [.ref 35, .int a0, .int a1, .long a2, ez_fill, .int a3, .int a4, .int a5, .int a6] [] (ev_hp I J R T) cz kz else G 177 142 [.ref 35, .int a0, .int a1, .long a2, ez_fill, .int a3, .int a4, .int a5, .int a6] [] (ev_hp I J R T) cz kz := by
  intro G
  rfl
set_option maxRecDepth 100000 in
theorem cv9_r20 {a0 : Int32} {a1 : Int32} {a2 : Int64} {a3 : Int32} {a4 : Int32} {a5 : Int32} {a6 : Int32} : ∀ G : ez_F, fx_up X 5 G 177 147 [.ref 35, .int a0, .int a1, .long a2, ez_fill, .int a3, .int a4, .int a5, .int a6] [] (ev_hp I J R T) cz kz = bif decide (a4 ≤ a6) then G 177 163 [.ref 35, .int a0, .int a1, .long a2, ez_fill, .int a3, .int a4, .int a5, .int a6] [] (ev_hp I J R T) cz kz else G 177 158 [.ref 35, .int a0, .int a1, .long a2, ez_fill, .int a3, .int a4, .int a5, .int a6] [] (ev_hp I J R T) cz kz := by
  intro G
  rfl
set_option maxRecDepth 100000 in
theorem cv9_r21 {a0 : Int32} {a1 : Int32} {a2 : Int64} {a3 : Int32} {a4 : Int32} {a5 : Int32} {a6 : Int32} : ∀ G : ez_F, fx_up X 4 G 177 163 [.ref 35, .int a0, .int a1, .long a2, ez_fill, .int a3, .int a4, .int a5, .int a6] [] (ev_hp I J R T) cz kz = G 177 11 [.ref 35, .int a0, .int a1, .long a2, ez_fill, .int a3, .int a4, .int (a5 + (1 : Int32)), .int a6] [] (ev_hp I J R T) cz kz := by
  intro G
  rfl
set_option maxRecDepth 100000 in
theorem cv9_r22 {a0 : Int32} {a1 : Int32} {a2 : Int64} {a3 : Int32} {a4 : Int32} {a5 : Int32} {a6 : Int32} : ∀ G : ez_F, fx_up X 5 G 177 158 [.ref 35, .int a0, .int a1, .long a2, ez_fill, .int a3, .int a4, .int a5, .int a6] [] (ev_hp I J R T) cz kz = G 177 11 [.ref 35, .int a0, .int a1, .long a2, ez_fill, .int a3, .int a6, .int (a5 + (1 : Int32)), .int a6] [] (ev_hp I J R T) cz kz := by
  intro G
  rfl
set_option maxRecDepth 100000 in
theorem cv9_r23 {a0 : Int32} {a1 : Int32} {a2 : Int64} {a3 : Int32} {a4 : Int32} {a5 : Int32} {a6 : Int32} : ∀ G : ez_F, fx_up X 6 G 177 142 [.ref 35, .int a0, .int a1, .long a2, ez_fill, .int a3, .int a4, .int a5, .int a6] [] (ev_hp I J R T) cz kz = bif decide (a4 ≤ a6) then G 177 163 [.ref 35, .int a0, .int a1, .long a2, ez_fill, .int a5, .int a4, .int a5, .int a6] [] (ev_hp I J R T) cz kz else G 177 158 [.ref 35, .int a0, .int a1, .long a2, ez_fill, .int a5, .int a4, .int a5, .int a6] [] (ev_hp I J R T) cz kz := by
  intro G
  rfl
set_option maxRecDepth 100000 in
theorem cv9_r24 {a0 : Int32} {a1 : Int32} {a2 : Int64} {a3 : Int32} {a4 : Int32} {a5 : Int32} {a6 : Int32} : ∀ G : ez_F, fx_up X 3 G 177 122 [.ref 35, .int a0, .int a1, .long a2, ez_fill, .int a3, .int a4, .int a5, .int a6] [] (ev_hp I J R T) cz kz = G 177 127 [.ref 35, .int a0, .int a1, .long a2, ez_fill, .int a3, .int a4, .int a5, .int a6] [.int (2 : Int32), .ref 53] (ev_hp I J R T) cz kz := by
  intro G
  rfl
set_option maxRecDepth 100000 in
theorem cv9_r25 {a0 : Int32} {a1 : Int32} {a2 : Int64} {a3 : Int32} {a4 : Int32} {a5 : Int32} {a6 : Int32} {a7 : Int32} : ∀ G : ez_F, fx_up X 5 G 177 128 [.ref 35, .int a0, .int a1, .long a2, ez_fill, .int a3, .int a4, .int a5, .int a6] [.int a7] (ev_hp I J R T) cz kz = bif decide (a4 ≤ a7) then G 177 147 [.ref 35, .int a0, .int a1, .long a2, ez_fill, .int a3, .int a4, .int a5, .int a7] [] (ev_hp I J R T) cz kz else G 177 142 [.ref 35, .int a0, .int a1, .long a2, ez_fill, .int a3, .int a4, .int a5, .int a7] [] (ev_hp I J R T) cz kz := by
  intro G
  rfl
set_option maxRecDepth 100000 in
theorem cv9_r26 {a0 : Int32} {a1 : Int32} {a2 : Int64} {a3 : Int32} {a4 : Int32} {a5 : Int32} {a6 : Int32} : ∀ G : ez_F, fx_up X 3 G 177 94 [.ref 35, .int a0, .int a1, .long a2, ez_fill, .int a3, .int a4, .int a5, .int a6] [] (ev_hp I J R T) cz kz = G 177 99 [.ref 35, .int a0, .int a1, .long a2, ez_fill, .int a3, .int a4, .int a5, .int a6] [.int (0 : Int32), .ref 53] (ev_hp I J R T) cz kz := by
  intro G
  rfl
set_option maxRecDepth 100000 in
theorem cv9_r27 {a0 : Int32} {a1 : Int32} {a2 : Int64} {a3 : Int32} {a4 : Int32} {a5 : Int32} {a6 : Int32} {a7 : Int32} : ∀ G : ez_F, fx_up X 5 G 177 100 [.ref 35, .int a0, .int a1, .long a2, ez_fill, .int a3, .int a4, .int a5, .int a6] [.int a7] (ev_hp I J R T) cz kz = G 177 116 [.ref 35, .int a0, .int a1, .long a2, ez_fill, .int a3, .int a4, .int a5, .int a7] [.int (2 : Int32), .ref 53] (ev_hp I J R T) cz kz := by
  intro G
  rfl
theorem cf9_79 {f t b m c i : Int32} {z : Int64}
    (H : (ev_ix (0 : Int32) 4 → (ev_ix (1 : Int32) 4 → (((I 53 (0 : Int32).toNatClampNeg) ≤ (I 53 (1 : Int32).toNatClampNeg) → (ev_ix (1 : Int32) 4 → (ev_ix (2 : Int32) 4 → (((I 53 (2 : Int32).toNatClampNeg) ≤ (I 53 (1 : Int32).toNatClampNeg) → ((m ≤ (I 53 (1 : Int32).toNatClampNeg) → ((m ≤ (I 53 (1 : Int32).toNatClampNeg) → pw N X 177 11 [.ref 35, .int f, .int t, .long z, ez_fill, .int b, .int m, .int (c + (1 : Int32))] [] (ev_hp I J R T) Q) ∧ (¬ (m ≤ (I 53 (1 : Int32).toNatClampNeg)) → pw N X 177 11 [.ref 35, .int f, .int t, .long z, ez_fill, .int b, .int (I 53 (1 : Int32).toNatClampNeg), .int (c + (1 : Int32))] [] (ev_hp I J R T) Q))) ∧ (¬ (m ≤ (I 53 (1 : Int32).toNatClampNeg)) → ((m ≤ (I 53 (1 : Int32).toNatClampNeg) → pw N X 177 11 [.ref 35, .int f, .int t, .long z, ez_fill, .int c, .int m, .int (c + (1 : Int32))] [] (ev_hp I J R T) Q) ∧ (¬ (m ≤ (I 53 (1 : Int32).toNatClampNeg)) → pw N X 177 11 [.ref 35, .int f, .int t, .long z, ez_fill, .int c, .int (I 53 (1 : Int32).toNatClampNeg), .int (c + (1 : Int32))] [] (ev_hp I J R T) Q))))) ∧ (¬ ((I 53 (2 : Int32).toNatClampNeg) ≤ (I 53 (1 : Int32).toNatClampNeg)) → (ev_ix (2 : Int32) 4 → ((m ≤ (I 53 (2 : Int32).toNatClampNeg) → ((m ≤ (I 53 (2 : Int32).toNatClampNeg) → pw N X 177 11 [.ref 35, .int f, .int t, .long z, ez_fill, .int b, .int m, .int (c + (1 : Int32))] [] (ev_hp I J R T) Q) ∧ (¬ (m ≤ (I 53 (2 : Int32).toNatClampNeg)) → pw N X 177 11 [.ref 35, .int f, .int t, .long z, ez_fill, .int b, .int (I 53 (2 : Int32).toNatClampNeg), .int (c + (1 : Int32))] [] (ev_hp I J R T) Q))) ∧ (¬ (m ≤ (I 53 (2 : Int32).toNatClampNeg)) → ((m ≤ (I 53 (2 : Int32).toNatClampNeg) → pw N X 177 11 [.ref 35, .int f, .int t, .long z, ez_fill, .int c, .int m, .int (c + (1 : Int32))] [] (ev_hp I J R T) Q) ∧ (¬ (m ≤ (I 53 (2 : Int32).toNatClampNeg)) → pw N X 177 11 [.ref 35, .int f, .int t, .long z, ez_fill, .int c, .int (I 53 (2 : Int32).toNatClampNeg), .int (c + (1 : Int32))] [] (ev_hp I J R T) Q)))))))))) ∧ (¬ ((I 53 (0 : Int32).toNatClampNeg) ≤ (I 53 (1 : Int32).toNatClampNeg)) → (ev_ix (0 : Int32) 4 → (ev_ix (2 : Int32) 4 → (((I 53 (2 : Int32).toNatClampNeg) ≤ (I 53 (0 : Int32).toNatClampNeg) → ((m ≤ (I 53 (0 : Int32).toNatClampNeg) → ((m ≤ (I 53 (0 : Int32).toNatClampNeg) → pw N X 177 11 [.ref 35, .int f, .int t, .long z, ez_fill, .int b, .int m, .int (c + (1 : Int32))] [] (ev_hp I J R T) Q) ∧ (¬ (m ≤ (I 53 (0 : Int32).toNatClampNeg)) → pw N X 177 11 [.ref 35, .int f, .int t, .long z, ez_fill, .int b, .int (I 53 (0 : Int32).toNatClampNeg), .int (c + (1 : Int32))] [] (ev_hp I J R T) Q))) ∧ (¬ (m ≤ (I 53 (0 : Int32).toNatClampNeg)) → ((m ≤ (I 53 (0 : Int32).toNatClampNeg) → pw N X 177 11 [.ref 35, .int f, .int t, .long z, ez_fill, .int c, .int m, .int (c + (1 : Int32))] [] (ev_hp I J R T) Q) ∧ (¬ (m ≤ (I 53 (0 : Int32).toNatClampNeg)) → pw N X 177 11 [.ref 35, .int f, .int t, .long z, ez_fill, .int c, .int (I 53 (0 : Int32).toNatClampNeg), .int (c + (1 : Int32))] [] (ev_hp I J R T) Q))))) ∧ (¬ ((I 53 (2 : Int32).toNatClampNeg) ≤ (I 53 (0 : Int32).toNatClampNeg)) → (ev_ix (2 : Int32) 4 → ((m ≤ (I 53 (2 : Int32).toNatClampNeg) → ((m ≤ (I 53 (2 : Int32).toNatClampNeg) → pw N X 177 11 [.ref 35, .int f, .int t, .long z, ez_fill, .int b, .int m, .int (c + (1 : Int32))] [] (ev_hp I J R T) Q) ∧ (¬ (m ≤ (I 53 (2 : Int32).toNatClampNeg)) → pw N X 177 11 [.ref 35, .int f, .int t, .long z, ez_fill, .int b, .int (I 53 (2 : Int32).toNatClampNeg), .int (c + (1 : Int32))] [] (ev_hp I J R T) Q))) ∧ (¬ (m ≤ (I 53 (2 : Int32).toNatClampNeg)) → ((m ≤ (I 53 (2 : Int32).toNatClampNeg) → pw N X 177 11 [.ref 35, .int f, .int t, .long z, ez_fill, .int c, .int m, .int (c + (1 : Int32))] [] (ev_hp I J R T) Q) ∧ (¬ (m ≤ (I 53 (2 : Int32).toNatClampNeg)) → pw N X 177 11 [.ref 35, .int f, .int t, .long z, ez_fill, .int c, .int (I 53 (2 : Int32).toNatClampNeg), .int (c + (1 : Int32))] [] (ev_hp I J R T) Q)))))))))))))) : pw (N + 1) X 177 79 [.ref 35, .int f, .int t, .long z, ez_fill, .int b, .int m, .int c, .int i] [] (ev_hp I J R T) Q := by
  refine pw_seg (by decide) (fun _ _ => cv9_r13) ?_
  refine pw_p (pw_iald (by rfl) (cx_getI (show cx_Ds[53]? = some (0, 4, []) from rfl)) (fun w1 => ?_))
  have h1 := H w1
  refine pw_p (pw_seg (by decide) (fun _ _ => cv9_r14) ?_)
  refine pw_p (pw_iald (by rfl) (cx_getI (show cx_Ds[53]? = some (0, 4, []) from rfl)) (fun w1 => ?_))
  have h1 := h1 w1
  refine pw_p (pw_if (by decide) (fun _ _ => cv9_r15) (fun w1 => ?_) (fun w1 => ?_))
  · have h1 := h1.1 w1
    refine pw_p (pw_seg (by decide) (fun _ _ => cv9_r16) ?_)
    refine pw_p (pw_iald (by rfl) (cx_getI (show cx_Ds[53]? = some (0, 4, []) from rfl)) (fun w2 => ?_))
    have h2 := h1 w2
    refine pw_p (pw_seg (by decide) (fun _ _ => cv9_r17) ?_)
    refine pw_p (pw_iald (by rfl) (cx_getI (show cx_Ds[53]? = some (0, 4, []) from rfl)) (fun w2 => ?_))
    have h2 := h2 w2
    refine pw_p (pw_if (by decide) (fun _ _ => cv9_r18) (fun w2 => ?_) (fun w2 => ?_))
    · have h2 := h2.1 w2
      refine pw_p (pw_if (by decide) (fun _ _ => cv9_r19) (fun w3 => ?_) (fun w3 => ?_))
      · have h3 := h2.1 w3
        refine pw_p (pw_if (by decide) (fun _ _ => cv9_r20) (fun w4 => ?_) (fun w4 => ?_))
        · have h4 := h3.1 w4
          refine pw_p (pw_seg (by decide) (fun _ _ => cv9_r21) ?_)
          refine pw_cutl (by rfl) ?_
          exact h4
        · have h4 := h3.2 w4
          refine pw_p (pw_seg (by decide) (fun _ _ => cv9_r22) ?_)
          refine pw_cutl (by rfl) ?_
          exact h4
      · have h3 := h2.2 w3
        refine pw_p (pw_if (by decide) (fun _ _ => cv9_r23) (fun w4 => ?_) (fun w4 => ?_))
        · have h4 := h3.1 w4
          refine pw_p (pw_seg (by decide) (fun _ _ => cv9_r21) ?_)
          refine pw_cutl (by rfl) ?_
          exact h4
        · have h4 := h3.2 w4
          refine pw_p (pw_seg (by decide) (fun _ _ => cv9_r22) ?_)
          refine pw_cutl (by rfl) ?_
          exact h4
    · have h2 := h2.2 w2
      refine pw_p (pw_seg (by decide) (fun _ _ => cv9_r24) ?_)
      refine pw_p (pw_iald (by rfl) (cx_getI (show cx_Ds[53]? = some (0, 4, []) from rfl)) (fun w3 => ?_))
      have h3 := h2 w3
      refine pw_p (pw_if (by decide) (fun _ _ => cv9_r25) (fun w3 => ?_) (fun w3 => ?_))
      · have h3 := h3.1 w3
        refine pw_p (pw_if (by decide) (fun _ _ => cv9_r20) (fun w4 => ?_) (fun w4 => ?_))
        · have h4 := h3.1 w4
          refine pw_p (pw_seg (by decide) (fun _ _ => cv9_r21) ?_)
          refine pw_cutl (by rfl) ?_
          exact h4
        · have h4 := h3.2 w4
          refine pw_p (pw_seg (by decide) (fun _ _ => cv9_r22) ?_)
          refine pw_cutl (by rfl) ?_
          exact h4
      · have h3 := h3.2 w3
        refine pw_p (pw_if (by decide) (fun _ _ => cv9_r23) (fun w4 => ?_) (fun w4 => ?_))
        · have h4 := h3.1 w4
          refine pw_p (pw_seg (by decide) (fun _ _ => cv9_r21) ?_)
          refine pw_cutl (by rfl) ?_
          exact h4
        · have h4 := h3.2 w4
          refine pw_p (pw_seg (by decide) (fun _ _ => cv9_r22) ?_)
          refine pw_cutl (by rfl) ?_
          exact h4
  · have h1 := h1.2 w1
    refine pw_p (pw_seg (by decide) (fun _ _ => cv9_r26) ?_)
    refine pw_p (pw_iald (by rfl) (cx_getI (show cx_Ds[53]? = some (0, 4, []) from rfl)) (fun w2 => ?_))
    have h2 := h1 w2
    refine pw_p (pw_seg (by decide) (fun _ _ => cv9_r27) ?_)
    refine pw_p (pw_iald (by rfl) (cx_getI (show cx_Ds[53]? = some (0, 4, []) from rfl)) (fun w2 => ?_))
    have h2 := h2 w2
    refine pw_p (pw_if (by decide) (fun _ _ => cv9_r18) (fun w2 => ?_) (fun w2 => ?_))
    · have h2 := h2.1 w2
      refine pw_p (pw_if (by decide) (fun _ _ => cv9_r19) (fun w3 => ?_) (fun w3 => ?_))
      · have h3 := h2.1 w3
        refine pw_p (pw_if (by decide) (fun _ _ => cv9_r20) (fun w4 => ?_) (fun w4 => ?_))
        · have h4 := h3.1 w4
          refine pw_p (pw_seg (by decide) (fun _ _ => cv9_r21) ?_)
          refine pw_cutl (by rfl) ?_
          exact h4
        · have h4 := h3.2 w4
          refine pw_p (pw_seg (by decide) (fun _ _ => cv9_r22) ?_)
          refine pw_cutl (by rfl) ?_
          exact h4
      · have h3 := h2.2 w3
        refine pw_p (pw_if (by decide) (fun _ _ => cv9_r23) (fun w4 => ?_) (fun w4 => ?_))
        · have h4 := h3.1 w4
          refine pw_p (pw_seg (by decide) (fun _ _ => cv9_r21) ?_)
          refine pw_cutl (by rfl) ?_
          exact h4
        · have h4 := h3.2 w4
          refine pw_p (pw_seg (by decide) (fun _ _ => cv9_r22) ?_)
          refine pw_cutl (by rfl) ?_
          exact h4
    · have h2 := h2.2 w2
      refine pw_p (pw_seg (by decide) (fun _ _ => cv9_r24) ?_)
      refine pw_p (pw_iald (by rfl) (cx_getI (show cx_Ds[53]? = some (0, 4, []) from rfl)) (fun w3 => ?_))
      have h3 := h2 w3
      refine pw_p (pw_if (by decide) (fun _ _ => cv9_r25) (fun w3 => ?_) (fun w3 => ?_))
      · have h3 := h3.1 w3
        refine pw_p (pw_if (by decide) (fun _ _ => cv9_r20) (fun w4 => ?_) (fun w4 => ?_))
        · have h4 := h3.1 w4
          refine pw_p (pw_seg (by decide) (fun _ _ => cv9_r21) ?_)
          refine pw_cutl (by rfl) ?_
          exact h4
        · have h4 := h3.2 w4
          refine pw_p (pw_seg (by decide) (fun _ _ => cv9_r22) ?_)
          refine pw_cutl (by rfl) ?_
          exact h4
      · have h3 := h3.2 w3
        refine pw_p (pw_if (by decide) (fun _ _ => cv9_r23) (fun w4 => ?_) (fun w4 => ?_))
        · have h4 := h3.1 w4
          refine pw_p (pw_seg (by decide) (fun _ _ => cv9_r21) ?_)
          refine pw_cutl (by rfl) ?_
          exact h4
        · have h4 := h3.2 w4
          refine pw_p (pw_seg (by decide) (fun _ _ => cv9_r22) ?_)
          refine pw_cutl (by rfl) ?_
          exact h4
set_option maxRecDepth 100000 in
theorem cv9_r28 {a0 : Int32} {a1 : Int32} {a2 : Int64} {a3 : Int32} {a4 : Int32} {a5 : Int32} : ∀ G : ez_F, fx_up X 2 G 177 173 [.ref 35, .int a0, .int a1, .long a2, ez_fill, .int a3, .int a4, .int a5] [] (ev_hp I J R T) cz kz = some (some (.int a3), (ev_hp I J R T), cz, kz) := by
  intro G
  rfl
theorem cf9_173 {f t b m c : Int32} {z : Int64}
    (H : Q (some (.int b)) (ev_hp I J R T)) : pw (N + 1) X 177 173 [.ref 35, .int f, .int t, .long z, ez_fill, .int b, .int m, .int c] [] (ev_hp I J R T) Q := by
  exact pw_ret (by decide) (fun _ _ => cv9_r28) H
set_option maxRecDepth 100000 in
theorem cv9_r29  : ∀ G : ez_F, fx_up X 2 G 189 0 [.ref 35] [] (ev_hp I J R T) cz kz = G 189 2 [.ref 35, .int (0 : Int32)] [] (ev_hp I J R T) cz kz := by
  intro G
  rfl
theorem fn9_0 
    (H : pw N X 189 2 [.ref 35, .int (0 : Int32)] [] (ev_hp I J R T) Q) : pw (N + 1) X 189 0 [.ref 35] [] (ev_hp I J R T) Q := by
  refine pw_seg (by decide) (fun _ _ => cv9_r29) ?_
  exact H
set_option maxRecDepth 100000 in
theorem cv9_r30 {a0 : Int32} : ∀ G : ez_F, fx_up X 3 G 189 2 [.ref 35, .int a0] [] (ev_hp I J R T) cz kz = G 189 7 [.ref 35, .int a0] [.int (I 35 14), .int a0] (ev_hp I J R T) cz kz := by
  intro G
  rfl
set_option maxRecDepth 100000 in
theorem cv9_r31 {a0 : Int32} {a1 : Int32} {a2 : Int32} : ∀ G : ez_F, fx_up X 1 G 189 7 [.ref 35, .int a0] [.int a1, .int a2] (ev_hp I J R T) cz kz = bif decide (a1 ≤ a2) then G 189 30 [.ref 35, .int a0] [] (ev_hp I J R T) cz kz else G 189 10 [.ref 35, .int a0] [] (ev_hp I J R T) cz kz := by
  intro G
  rfl
set_option maxRecDepth 100000 in
theorem cv9_r32 {a0 : Int32} : ∀ G : ez_F, fx_up X 6 G 189 30 [.ref 35, .int a0] [] (ev_hp I J R T) cz kz = G 189 38 [.ref 35, .int (1 : Int32)] [.int (0 : Int32), .int (0 : Int32), .ref 54] (ev_hp I J R T) cz kz := by
  intro G
  rfl
set_option maxRecDepth 100000 in
theorem cv9_r33 {a0 : Int32} : ∀ G : ez_F, fx_up X 5 G 189 39 [.ref 35, .int a0] [] (ev_hp I J R T) cz kz = G 189 48 [.ref 35, .int a0] [.int (I 35 14), .int (0 : Int32), .ref 55] (ev_hp I J R T) cz kz := by
  intro G
  rfl
set_option maxRecDepth 100000 in
theorem cv9_r34 {a0 : Int32} : ∀ G : ez_F, fx_up X 4 G 189 49 [.ref 35, .int a0] [] (ev_hp I J R T) cz kz = G 189 55 [.ref 35, .int a0] [.long (0 : Int64), .int (0 : Int32), .ref 56] (ev_hp I J R T) cz kz := by
  intro G
  rfl
set_option maxRecDepth 100000 in
theorem cv9_r35 {a0 : Int32} : ∀ G : ez_F, fx_up X 4 G 189 10 [.ref 35, .int a0] [] (ev_hp I J R T) cz kz = G 189 16 [.ref 35, .int a0] [.int a0, .int a0, .ref 59] (ev_hp I J R T) cz kz := by
  intro G
  rfl
set_option maxRecDepth 100000 in
theorem cv9_r36 {a0 : Int32} : ∀ G : ez_F, fx_up X 4 G 189 17 [.ref 35, .int a0] [] (ev_hp I J R T) cz kz = G 189 23 [.ref 35, .int a0] [.int (0 : Int32), .int a0, .ref 57] (ev_hp I J R T) cz kz := by
  intro G
  rfl
set_option maxRecDepth 100000 in
theorem cv9_r37 {a0 : Int32} : ∀ G : ez_F, fx_up X 2 G 189 24 [.ref 35, .int a0] [] (ev_hp I J R T) cz kz = G 189 2 [.ref 35, .int (a0 + (1 : Int32))] [] (ev_hp I J R T) cz kz := by
  intro G
  rfl
theorem fn9_2 {i : Int32}
    (H : (((I 35 14) ≤ i → (ev_ix (0 : Int32) 1210 → (ev_ix (0 : Int32) 1210 → (ev_ix (0 : Int32) 1210 → pw N X 189 56 [.ref 35, .int (1 : Int32)] [] (ev_hp (ev_sI (ev_sI I 54 (upd (I 54) ((0 : Int32).toNatClampNeg) (0 : Int32))) 55 (upd (I 55) ((0 : Int32).toNatClampNeg) (I 35 14))) (ev_sJ J 56 (vp_updL (J 56) ((0 : Int32).toNatClampNeg) (0 : Int64))) R T) Q)))) ∧ (¬ ((I 35 14) ≤ i) → (ev_ix i 401 → (ev_ix i 401 → pw N X 189 2 [.ref 35, .int (i + (1 : Int32))] [] (ev_hp (ev_sI (ev_sI I 59 (upd (I 59) i.toNatClampNeg i)) 57 (upd (I 57) i.toNatClampNeg (0 : Int32))) J R T) Q))))) : pw (N + 1) X 189 2 [.ref 35, .int i] [] (ev_hp I J R T) Q := by
  refine pw_seg (by decide) (fun _ _ => cv9_r30) ?_
  refine pw_p (pw_if (by decide) (fun _ _ => cv9_r31) (fun w1 => ?_) (fun w1 => ?_))
  · have h1 := H.1 w1
    refine pw_p (pw_seg (by decide) (fun _ _ => cv9_r32) ?_)
    refine pw_p (pw_iast (by rfl) (cx_getI (show cx_Ds[54]? = some (0, 1210, []) from rfl)) (cx_setI (show cx_Ds[54]? = some (0, 1210, []) from rfl) _) (fun w2 => ?_))
    have h2 := h1 w2
    refine pw_p (pw_seg (by decide) (fun _ _ => cv9_r33) ?_)
    refine pw_p (pw_iast (by rfl) (cx_getI (show cx_Ds[55]? = some (0, 1210, []) from rfl)) (cx_setI (show cx_Ds[55]? = some (0, 1210, []) from rfl) _) (fun w2 => ?_))
    have h2 := h2 w2
    refine pw_p (pw_seg (by decide) (fun _ _ => cv9_r34) ?_)
    refine pw_p (pw_last (by rfl) (cx_getJ (show cx_Ds[56]? = some (1, 1210, []) from rfl)) (cx_setJ (show cx_Ds[56]? = some (1, 1210, []) from rfl) _) (fun w2 => ?_))
    have h2 := h2 w2
    exact h2
  · have h1 := H.2 w1
    refine pw_p (pw_seg (by decide) (fun _ _ => cv9_r35) ?_)
    refine pw_p (pw_iast (by rfl) (cx_getI (show cx_Ds[59]? = some (0, 401, []) from rfl)) (cx_setI (show cx_Ds[59]? = some (0, 401, []) from rfl) _) (fun w2 => ?_))
    have h2 := h1 w2
    refine pw_p (pw_seg (by decide) (fun _ _ => cv9_r36) ?_)
    refine pw_p (pw_iast (by rfl) (cx_getI (show cx_Ds[57]? = some (0, 401, []) from rfl)) (cx_setI (show cx_Ds[57]? = some (0, 401, []) from rfl) _) (fun w2 => ?_))
    have h2 := h2 w2
    refine pw_p (pw_seg (by decide) (fun _ _ => cv9_r37) ?_)
    exact h2
set_option maxRecDepth 100000 in
theorem cv9_r38 {a0 : Int32} : ∀ G : ez_F, fx_up X 2 G 189 56 [.ref 35, .int a0] [] (ev_hp I J R T) cz kz = bif decide (a0 ≤ (0 : Int32)) then G 189 262 [.ref 35, .int a0] [] (ev_hp I J R T) cz kz else G 189 60 [.ref 35, .int a0] [] (ev_hp I J R T) cz kz := by
  intro G
  rfl
set_option maxRecDepth 100000 in
theorem cv9_r39 {a0 : Int32} : ∀ G : ez_F, fx_up X 1 G 189 262 [.ref 35, .int a0] [] (ev_hp I J R T) cz kz = some (none, (ev_hp I J R T), cz, kz) := by
  intro G
  rfl
set_option maxRecDepth 100000 in
theorem cv9_r40 {a0 : Int32} : ∀ G : ez_F, fx_up X 4 G 189 60 [.ref 35, .int a0] [] (ev_hp I J R T) cz kz = G 189 68 [.ref 35, .int (a0 + (-1 : Int32))] [.int (a0 + (-1 : Int32)), .ref 54] (ev_hp I J R T) cz kz := by
  intro G
  rfl
set_option maxRecDepth 100000 in
theorem cv9_r41 {a0 : Int32} {a1 : Int32} : ∀ G : ez_F, fx_up X 4 G 189 69 [.ref 35, .int a0] [.int a1] (ev_hp I J R T) cz kz = G 189 75 [.ref 35, .int a0, .int a1] [.int a0, .ref 55] (ev_hp I J R T) cz kz := by
  intro G
  rfl
set_option maxRecDepth 100000 in
theorem cv9_r42 {a0 : Int32} {a1 : Int32} {a2 : Int32} : ∀ G : ez_F, fx_up X 4 G 189 76 [.ref 35, .int a0, .int a1] [.int a2] (ev_hp I J R T) cz kz = G 189 82 [.ref 35, .int a0, .int a1, .int a2] [.int a0, .ref 56] (ev_hp I J R T) cz kz := by
  intro G
  rfl
set_option maxRecDepth 100000 in
theorem cv9_r43 {a0 : Int32} {a1 : Int32} {a2 : Int32} {a3 : Int64} : ∀ G : ez_F, fx_up X 6 G 189 83 [.ref 35, .int a0, .int a1, .int a2] [.long a3] (ev_hp I J R T) cz kz = ev_C G 177 [.ref 35, .int a1, .int a2, .long a3] (ev_hp I J R T) fun r h1 c1 k1 => G 189 93 [.ref 35, .int a0, .int a1, .int a2, .long a3, ez_fill] (r.toList ++ []) h1 (cz + c1) (kz + k1) := by
  intro G
  rfl
theorem fn9_56 {n : Int32}
    (H : ((n ≤ (0 : Int32) → Q none (ev_hp I J R T)) ∧ (¬ (n ≤ (0 : Int32)) → (ev_ix (n + (-1 : Int32)) 1210 → (ev_ix (n + (-1 : Int32)) 1210 → (ev_ix (n + (-1 : Int32)) 1210 → (∃ Q1 : pw_Q, pe N X 177 [.ref 35, .int (I 54 (n + (-1 : Int32)).toNatClampNeg), .int (I 55 (n + (-1 : Int32)).toNatClampNeg), .long (J 56 (n + (-1 : Int32)).toNatClampNeg)] (ev_hp I J R T) Q1 ∧ ∀ (r : Option Value) (h1 : ez_H), Q1 r h1 → pw N X 189 93 [.ref 35, .int (n + (-1 : Int32)), .int (I 54 (n + (-1 : Int32)).toNatClampNeg), .int (I 55 (n + (-1 : Int32)).toNatClampNeg), .long (J 56 (n + (-1 : Int32)).toNatClampNeg), ez_fill] (r.toList ++ []) h1 Q))))))) : pw (N + 1) X 189 56 [.ref 35, .int n] [] (ev_hp I J R T) Q := by
  refine pw_if (by decide) (fun _ _ => cv9_r38) (fun w1 => ?_) (fun w1 => ?_)
  · have h1 := H.1 w1
    exact pw_p (pw_ret (by decide) (fun _ _ => cv9_r39) h1)
  · have h1 := H.2 w1
    refine pw_p (pw_seg (by decide) (fun _ _ => cv9_r40) ?_)
    refine pw_p (pw_iald (by rfl) (cx_getI (show cx_Ds[54]? = some (0, 1210, []) from rfl)) (fun w2 => ?_))
    have h2 := h1 w2
    refine pw_p (pw_seg (by decide) (fun _ _ => cv9_r41) ?_)
    refine pw_p (pw_iald (by rfl) (cx_getI (show cx_Ds[55]? = some (0, 1210, []) from rfl)) (fun w2 => ?_))
    have h2 := h2 w2
    refine pw_p (pw_seg (by decide) (fun _ _ => cv9_r42) ?_)
    refine pw_p (pw_lald (by rfl) (cx_getJ (show cx_Ds[56]? = some (1, 1210, []) from rfl)) (fun w2 => ?_))
    have h2 := h2 w2
    obtain ⟨Q1, hc, hk⟩ := h2
    exact pw_p (pw_call (by decide) (fun _ _ => cv9_r43) hc hk)
set_option maxRecDepth 100000 in
theorem cv9_r44 {a0 : Int32} {a1 : Int32} {a2 : Int32} {a3 : Int64} {a4 : Int32} : ∀ G : ez_F, fx_up X 4 G 189 93 [.ref 35, .int a0, .int a1, .int a2, .long a3, ez_fill] [.int a4] (ev_hp I J R T) cz kz = bif decide (a4 = (-1 : Int32)) then G 189 259 [.ref 35, .int a0, .int a1, .int a2, .long a3, ez_fill, .int a4] [] (ev_hp I J R T) cz kz else G 189 101 [.ref 35, .int a0, .int a1, .int a2, .long a3, ez_fill, .int a4] [] (ev_hp I J R T) cz kz := by
  intro G
  rfl
set_option maxRecDepth 100000 in
theorem cv9_r45 {a0 : Int32} {a1 : Int32} {a2 : Int32} {a3 : Int64} {a4 : Int32} : ∀ G : ez_F, fx_up X 1 G 189 259 [.ref 35, .int a0, .int a1, .int a2, .long a3, ez_fill, .int a4] [] (ev_hp I J R T) cz kz = G 189 56 [.ref 35, .int a0, .int a1, .int a2, .long a3, ez_fill, .int a4] [] (ev_hp I J R T) cz kz := by
  intro G
  rfl
set_option maxRecDepth 100000 in
theorem cv9_r46 {a0 : Int32} {a1 : Int32} {a2 : Int32} {a3 : Int64} {a4 : Int32} : ∀ G : ez_F, fx_up X 4 G 189 101 [.ref 35, .int a0, .int a1, .int a2, .long a3, ez_fill, .int a4] [] (ev_hp I J R T) cz kz = G 189 107 [.ref 35, .int a0, .int a1, .int a2, .long a3, ez_fill, .int a4, .int a1, .int (0 : Int32)] [] (ev_hp I J R T) cz kz := by
  intro G
  rfl
theorem fn9_93 {n f t b : Int32} {z : Int64}
    (H : ((b = (-1 : Int32) → pw N X 189 56 [.ref 35, .int n] [] (ev_hp I J R T) Q) ∧ (¬ (b = (-1 : Int32)) → pw N X 189 107 [.ref 35, .int n, .int f, .int t, .long z, ez_fill, .int b, .int f, .int (0 : Int32)] [] (ev_hp I J R T) Q))) : pw (N + 1) X 189 93 [.ref 35, .int n, .int f, .int t, .long z, ez_fill] [.int b] (ev_hp I J R T) Q := by
  refine pw_if (by decide) (fun _ _ => cv9_r44) (fun w1 => ?_) (fun w1 => ?_)
  · have h1 := H.1 w1
    refine pw_p (pw_seg (by decide) (fun _ _ => cv9_r45) ?_)
    refine pw_cutl (by rfl) ?_
    exact h1
  · have h1 := H.2 w1
    refine pw_p (pw_seg (by decide) (fun _ _ => cv9_r46) ?_)
    exact h1
set_option maxRecDepth 100000 in
theorem cv9_r47 {a0 : Int32} {a1 : Int32} {a2 : Int32} {a3 : Int64} {a4 : Int32} {a5 : Int32} {a6 : Int32} : ∀ G : ez_F, fx_up X 3 G 189 107 [.ref 35, .int a0, .int a1, .int a2, .long a3, ez_fill, .int a4, .int a5, .int a6] [] (ev_hp I J R T) cz kz = bif decide ((3 : Int32) ≤ a6) then G 189 214 [.ref 35, .int a0, .int a1, .int a2, .long a3, ez_fill, .int a4, .int a5, .int a6] [] (ev_hp I J R T) cz kz else G 189 113 [.ref 35, .int a0, .int a1, .int a2, .long a3, ez_fill, .int a4, .int a5, .int a6] [] (ev_hp I J R T) cz kz := by
  intro G
  rfl
set_option maxRecDepth 100000 in
theorem cv9_r48 {a0 : Int32} {a1 : Int32} {a2 : Int32} {a3 : Int64} {a4 : Int32} {a5 : Int32} {a6 : Int32} : ∀ G : ez_F, fx_up X 2 G 189 214 [.ref 35, .int a0, .int a1, .int a2, .long a3, ez_fill, .int a4, .int a5, .int a6] [] (ev_hp I J R T) cz kz = G 189 217 [.ref 35, .int a0, .int a1, .int a2, .long a3, ez_fill, .int a4, .int a5, .int a1] [] (ev_hp I J R T) cz kz := by
  intro G
  rfl
set_option maxRecDepth 100000 in
theorem cv9_r49 {a0 : Int32} {a1 : Int32} {a2 : Int32} {a3 : Int64} {a4 : Int32} {a5 : Int32} {a6 : Int32} : ∀ G : ez_F, fx_up X 4 G 189 113 [.ref 35, .int a0, .int a1, .int a2, .long a3, ez_fill, .int a4, .int a5, .int a6] [] (ev_hp I J R T) cz kz = G 189 120 [.ref 35, .int a0, .int a1, .int a2, .long a3, ez_fill, .int a4, .int a5, .int a6, .int a5, .int a1] [] (ev_hp I J R T) cz kz := by
  intro G
  rfl
theorem fn9_107 {n f t b a v : Int32} {z : Int64}
    (H : (((3 : Int32) ≤ v → pw N X 189 217 [.ref 35, .int n, .int f, .int t, .long z, ez_fill, .int b, .int a, .int f] [] (ev_hp I J R T) Q) ∧ (¬ ((3 : Int32) ≤ v) → pw N X 189 120 [.ref 35, .int n, .int f, .int t, .long z, ez_fill, .int b, .int a, .int v, .int a, .int f] [] (ev_hp I J R T) Q))) : pw (N + 1) X 189 107 [.ref 35, .int n, .int f, .int t, .long z, ez_fill, .int b, .int a, .int v] [] (ev_hp I J R T) Q := by
  refine pw_if (by decide) (fun _ _ => cv9_r47) (fun w1 => ?_) (fun w1 => ?_)
  · have h1 := H.1 w1
    refine pw_p (pw_seg (by decide) (fun _ _ => cv9_r48) ?_)
    exact h1
  · have h1 := H.2 w1
    refine pw_p (pw_seg (by decide) (fun _ _ => cv9_r49) ?_)
    exact h1
set_option maxRecDepth 100000 in
theorem cv9_r50 {a0 : Int32} {a1 : Int32} {a2 : Int32} {a3 : Int64} {a4 : Int32} {a5 : Int32} {a6 : Int32} {a7 : Int32} {a8 : Int32} : ∀ G : ez_F, fx_up X 3 G 189 120 [.ref 35, .int a0, .int a1, .int a2, .long a3, ez_fill, .int a4, .int a5, .int a6, .int a7, .int a8] [] (ev_hp I J R T) cz kz = bif decide (a2 ≤ a8) then G 189 169 [.ref 35, .int a0, .int a1, .int a2, .long a3, ez_fill, .int a4, .int a5, .int a6, .int a7, .int a8] [] (ev_hp I J R T) cz kz else G 189 126 [.ref 35, .int a0, .int a1, .int a2, .long a3, ez_fill, .int a4, .int a5, .int a6, .int a7, .int a8] [] (ev_hp I J R T) cz kz := by
  intro G
  rfl
set_option maxRecDepth 100000 in
theorem cv9_r51 {a0 : Int32} {a1 : Int32} {a2 : Int32} {a3 : Int64} {a4 : Int32} {a5 : Int32} {a6 : Int32} {a7 : Int32} {a8 : Int32} : ∀ G : ez_F, fx_up X 4 G 189 126 [.ref 35, .int a0, .int a1, .int a2, .long a3, ez_fill, .int a4, .int a5, .int a6, .int a7, .int a8] [] (ev_hp I J R T) cz kz = G 189 133 [.ref 35, .int a0, .int a1, .int a2, .long a3, ez_fill, .int a4, .int a5, .int a6, .int a7, .int a8] [.int a8, .ref 59, .ref 35] (ev_hp I J R T) cz kz := by
  intro G
  rfl
set_option maxRecDepth 100000 in
theorem cv9_r52 {a0 : Int32} {a1 : Int32} {a2 : Int32} {a3 : Int64} {a4 : Int32} {a5 : Int32} {a6 : Int32} {a7 : Int32} {a8 : Int32} {a9 : Int32} : ∀ G : ez_F, fx_up X 3 G 189 134 [.ref 35, .int a0, .int a1, .int a2, .long a3, ez_fill, .int a4, .int a5, .int a6, .int a7, .int a8] [.int a9, .ref 35] (ev_hp I J R T) cz kz = ev_C G 216 [.ref 35, .int a9, .int a4, .long a3] (ev_hp I J R T) fun r h1 c1 k1 => G 189 141 [.ref 35, .int a0, .int a1, .int a2, .long a3, ez_fill, .int a4, .int a5, .int a6, .int a7, .int a8] (r.toList ++ []) h1 (cz + c1) (kz + k1) := by
  intro G
  rfl
theorem fn9_120 {n f t b a v g i : Int32} {z : Int64}
    (H : ((t ≤ i → pw N X 189 169 [.ref 35, .int n, .int f, .int t, .long z, ez_fill, .int b, .int a, .int v, .int g, .int i] [] (ev_hp I J R T) Q) ∧ (¬ (t ≤ i) → (ev_ix i 401 → (∃ Q1 : pw_Q, pe N X 216 [.ref 35, .int (I 59 i.toNatClampNeg), .int b, .long z] (ev_hp I J R T) Q1 ∧ ∀ (r : Option Value) (h1 : ez_H), Q1 r h1 → pw N X 189 141 [.ref 35, .int n, .int f, .int t, .long z, ez_fill, .int b, .int a, .int v, .int g, .int i] (r.toList ++ []) h1 Q))))) : pw (N + 1) X 189 120 [.ref 35, .int n, .int f, .int t, .long z, ez_fill, .int b, .int a, .int v, .int g, .int i] [] (ev_hp I J R T) Q := by
  refine pw_if (by decide) (fun _ _ => cv9_r50) (fun w1 => ?_) (fun w1 => ?_)
  · have h1 := H.1 w1
    exact h1
  · have h1 := H.2 w1
    refine pw_p (pw_seg (by decide) (fun _ _ => cv9_r51) ?_)
    refine pw_p (pw_iald (by rfl) (cx_getI (show cx_Ds[59]? = some (0, 401, []) from rfl)) (fun w2 => ?_))
    have h2 := h1 w2
    obtain ⟨Q1, hc, hk⟩ := h2
    exact pw_p (pw_call (by decide) (fun _ _ => cv9_r52) hc hk)
set_option maxRecDepth 100000 in
theorem cv9_r53 {a0 : Int32} {a1 : Int32} {a2 : Int32} {a3 : Int64} {a4 : Int32} {a5 : Int32} {a6 : Int32} {a7 : Int32} {a8 : Int32} {a9 : Int32} : ∀ G : ez_F, fx_up X 2 G 189 141 [.ref 35, .int a0, .int a1, .int a2, .long a3, ez_fill, .int a4, .int a5, .int a6, .int a7, .int a8] [.int a9] (ev_hp I J R T) cz kz = bif decide (¬ a9 = a6) then G 189 163 [.ref 35, .int a0, .int a1, .int a2, .long a3, ez_fill, .int a4, .int a5, .int a6, .int a7, .int a8] [] (ev_hp I J R T) cz kz else G 189 146 [.ref 35, .int a0, .int a1, .int a2, .long a3, ez_fill, .int a4, .int a5, .int a6, .int a7, .int a8] [] (ev_hp I J R T) cz kz := by
  intro G
  rfl
set_option maxRecDepth 100000 in
theorem cv9_r54 {a0 : Int32} {a1 : Int32} {a2 : Int32} {a3 : Int64} {a4 : Int32} {a5 : Int32} {a6 : Int32} {a7 : Int32} {a8 : Int32} : ∀ G : ez_F, fx_up X 2 G 189 163 [.ref 35, .int a0, .int a1, .int a2, .long a3, ez_fill, .int a4, .int a5, .int a6, .int a7, .int a8] [] (ev_hp I J R T) cz kz = G 189 120 [.ref 35, .int a0, .int a1, .int a2, .long a3, ez_fill, .int a4, .int a5, .int a6, .int a7, .int (a8 + (1 : Int32))] [] (ev_hp I J R T) cz kz := by
  intro G
  rfl
set_option maxRecDepth 100000 in
theorem cv9_r55 {a0 : Int32} {a1 : Int32} {a2 : Int32} {a3 : Int64} {a4 : Int32} {a5 : Int32} {a6 : Int32} {a7 : Int32} {a8 : Int32} : ∀ G : ez_F, fx_up X 6 G 189 146 [.ref 35, .int a0, .int a1, .int a2, .long a3, ez_fill, .int a4, .int a5, .int a6, .int a7, .int a8] [] (ev_hp I J R T) cz kz = G 189 158 [.ref 35, .int a0, .int a1, .int a2, .long a3, ez_fill, .int a4, .int a5, .int a6, .int a7, .int a8] [.int a8, .ref 59, .int a5, .ref 58] (ev_hp I J R T) cz kz := by
  intro G
  rfl
set_option maxRecDepth 100000 in
theorem cv9_r56 {a0 : Int32} {a1 : Int32} {a2 : Int32} {a3 : Int64} {a4 : Int32} {a5 : Int32} {a6 : Int32} {a7 : Int32} {a8 : Int32} : ∀ G : ez_F, fx_up X 3 G 189 160 [.ref 35, .int a0, .int a1, .int a2, .long a3, ez_fill, .int a4, .int a5, .int a6, .int a7, .int a8] [] (ev_hp I J R T) cz kz = G 189 120 [.ref 35, .int a0, .int a1, .int a2, .long a3, ez_fill, .int a4, .int (a5 + (1 : Int32)), .int a6, .int a7, .int (a8 + (1 : Int32))] [] (ev_hp I J R T) cz kz := by
  intro G
  rfl
theorem fn9_141 {n f t b a v g i u : Int32} {z : Int64}
    (H : ((¬ u = v → pw N X 189 120 [.ref 35, .int n, .int f, .int t, .long z, ez_fill, .int b, .int a, .int v, .int g, .int (i + (1 : Int32))] [] (ev_hp I J R T) Q) ∧ (¬ (¬ u = v) → (ev_ix i 401 → (ev_ix a 401 → pw N X 189 120 [.ref 35, .int n, .int f, .int t, .long z, ez_fill, .int b, .int (a + (1 : Int32)), .int v, .int g, .int (i + (1 : Int32))] [] (ev_hp (ev_sI I 58 (upd (I 58) a.toNatClampNeg (I 59 i.toNatClampNeg))) J R T) Q))))) : pw (N + 1) X 189 141 [.ref 35, .int n, .int f, .int t, .long z, ez_fill, .int b, .int a, .int v, .int g, .int i] [.int u] (ev_hp I J R T) Q := by
  refine pw_if (by decide) (fun _ _ => cv9_r53) (fun w1 => ?_) (fun w1 => ?_)
  · have h1 := H.1 w1
    refine pw_p (pw_seg (by decide) (fun _ _ => cv9_r54) ?_)
    exact h1
  · have h1 := H.2 w1
    refine pw_p (pw_seg (by decide) (fun _ _ => cv9_r55) ?_)
    refine pw_p (pw_iald (by rfl) (cx_getI (show cx_Ds[59]? = some (0, 401, []) from rfl)) (fun w2 => ?_))
    have h2 := h1 w2
    refine pw_p (pw_iast (by rfl) (cx_getI (show cx_Ds[58]? = some (0, 401, []) from rfl)) (cx_setI (show cx_Ds[58]? = some (0, 401, []) from rfl) _) (fun w2 => ?_))
    have h2 := h2 w2
    refine pw_p (pw_seg (by decide) (fun _ _ => cv9_r56) ?_)
    exact h2
set_option maxRecDepth 100000 in
theorem cv9_r57 {a0 : Int32} {a1 : Int32} {a2 : Int32} {a3 : Int64} {a4 : Int32} {a5 : Int32} {a6 : Int32} {a7 : Int32} {a8 : Int32} : ∀ G : ez_F, fx_up X 3 G 189 169 [.ref 35, .int a0, .int a1, .int a2, .long a3, ez_fill, .int a4, .int a5, .int a6, .int a7, .int a8] [] (ev_hp I J R T) cz kz = bif decide (a5 ≤ a7) then G 189 208 [.ref 35, .int a0, .int a1, .int a2, .long a3, ez_fill, .int a4, .int a5, .int a6, .int a7, .int a8] [] (ev_hp I J R T) cz kz else G 189 176 [.ref 35, .int a0, .int a1, .int a2, .long a3, ez_fill, .int a4, .int a5, .int a6, .int a7, .int a8] [] (ev_hp I J R T) cz kz := by
  intro G
  rfl
set_option maxRecDepth 100000 in
theorem cv9_r58 {a0 : Int32} {a1 : Int32} {a2 : Int32} {a3 : Int64} {a4 : Int32} {a5 : Int32} {a6 : Int32} {a7 : Int32} {a8 : Int32} : ∀ G : ez_F, fx_up X 2 G 189 208 [.ref 35, .int a0, .int a1, .int a2, .long a3, ez_fill, .int a4, .int a5, .int a6, .int a7, .int a8] [] (ev_hp I J R T) cz kz = G 189 107 [.ref 35, .int a0, .int a1, .int a2, .long a3, ez_fill, .int a4, .int a5, .int (a6 + (1 : Int32)), .int a7, .int a8] [] (ev_hp I J R T) cz kz := by
  intro G
  rfl
set_option maxRecDepth 100000 in
theorem cv9_r59 {a0 : Int32} {a1 : Int32} {a2 : Int32} {a3 : Int64} {a4 : Int32} {a5 : Int32} {a6 : Int32} {a7 : Int32} {a8 : Int32} : ∀ G : ez_F, fx_up X 4 G 189 176 [.ref 35, .int a0, .int a1, .int a2, .long a3, ez_fill, .int a4, .int a5, .int a6, .int a7, .int a8] [] (ev_hp I J R T) cz kz = G 189 183 [.ref 35, .int a0, .int a1, .int a2, .long a3, ez_fill, .int a4, .int a5, .int a6, .int a7, .int a8] [.int a7, .int a0, .ref 54] (ev_hp I J R T) cz kz := by
  intro G
  rfl
set_option maxRecDepth 100000 in
theorem cv9_r60 {a0 : Int32} {a1 : Int32} {a2 : Int32} {a3 : Int64} {a4 : Int32} {a5 : Int32} {a6 : Int32} {a7 : Int32} {a8 : Int32} : ∀ G : ez_F, fx_up X 4 G 189 184 [.ref 35, .int a0, .int a1, .int a2, .long a3, ez_fill, .int a4, .int a5, .int a6, .int a7, .int a8] [] (ev_hp I J R T) cz kz = G 189 191 [.ref 35, .int a0, .int a1, .int a2, .long a3, ez_fill, .int a4, .int a5, .int a6, .int a7, .int a8] [.int a5, .int a0, .ref 55] (ev_hp I J R T) cz kz := by
  intro G
  rfl
set_option maxRecDepth 100000 in
theorem cv9_r61 {a0 : Int32} {a1 : Int32} {a2 : Int32} {a3 : Int64} {a4 : Int32} {a5 : Int32} {a6 : Int32} {a7 : Int32} {a8 : Int32} : ∀ G : ez_F, fx_up X 8 G 189 192 [.ref 35, .int a0, .int a1, .int a2, .long a3, ez_fill, .int a4, .int a5, .int a6, .int a7, .int a8] [] (ev_hp I J R T) cz kz = G 189 204 [.ref 35, .int a0, .int a1, .int a2, .long a3, ez_fill, .int a4, .int a5, .int a6, .int a7, .int a8] [.long (a3 ||| ((1 : Int64) <<< (a4.toInt64 &&& (63 : Int64)))), .int a0, .ref 56] (ev_hp I J R T) cz kz := by
  intro G
  rfl
set_option maxRecDepth 100000 in
theorem cv9_r62 {a0 : Int32} {a1 : Int32} {a2 : Int32} {a3 : Int64} {a4 : Int32} {a5 : Int32} {a6 : Int32} {a7 : Int32} {a8 : Int32} : ∀ G : ez_F, fx_up X 3 G 189 205 [.ref 35, .int a0, .int a1, .int a2, .long a3, ez_fill, .int a4, .int a5, .int a6, .int a7, .int a8] [] (ev_hp I J R T) cz kz = G 189 107 [.ref 35, .int (a0 + (1 : Int32)), .int a1, .int a2, .long a3, ez_fill, .int a4, .int a5, .int (a6 + (1 : Int32)), .int a7, .int a8] [] (ev_hp I J R T) cz kz := by
  intro G
  rfl
theorem fn9_169 {n f t b a v g i : Int32} {z : Int64}
    (H : ((a ≤ g → pw N X 189 107 [.ref 35, .int n, .int f, .int t, .long z, ez_fill, .int b, .int a, .int (v + (1 : Int32))] [] (ev_hp I J R T) Q) ∧ (¬ (a ≤ g) → (ev_ix n 1210 → (ev_ix n 1210 → (ev_ix n 1210 → pw N X 189 107 [.ref 35, .int (n + (1 : Int32)), .int f, .int t, .long z, ez_fill, .int b, .int a, .int (v + (1 : Int32))] [] (ev_hp (ev_sI (ev_sI I 54 (upd (I 54) n.toNatClampNeg g)) 55 (upd (I 55) n.toNatClampNeg a)) (ev_sJ J 56 (vp_updL (J 56) n.toNatClampNeg (z ||| ((1 : Int64) <<< (b.toInt64 &&& (63 : Int64)))))) R T) Q)))))) : pw (N + 1) X 189 169 [.ref 35, .int n, .int f, .int t, .long z, ez_fill, .int b, .int a, .int v, .int g, .int i] [] (ev_hp I J R T) Q := by
  refine pw_if (by decide) (fun _ _ => cv9_r57) (fun w1 => ?_) (fun w1 => ?_)
  · have h1 := H.1 w1
    refine pw_p (pw_seg (by decide) (fun _ _ => cv9_r58) ?_)
    refine pw_cutl (by rfl) ?_
    exact h1
  · have h1 := H.2 w1
    refine pw_p (pw_seg (by decide) (fun _ _ => cv9_r59) ?_)
    refine pw_p (pw_iast (by rfl) (cx_getI (show cx_Ds[54]? = some (0, 1210, []) from rfl)) (cx_setI (show cx_Ds[54]? = some (0, 1210, []) from rfl) _) (fun w2 => ?_))
    have h2 := h1 w2
    refine pw_p (pw_seg (by decide) (fun _ _ => cv9_r60) ?_)
    refine pw_p (pw_iast (by rfl) (cx_getI (show cx_Ds[55]? = some (0, 1210, []) from rfl)) (cx_setI (show cx_Ds[55]? = some (0, 1210, []) from rfl) _) (fun w2 => ?_))
    have h2 := h2 w2
    refine pw_p (pw_seg (by decide) (fun _ _ => cv9_r61) ?_)
    refine pw_p (pw_last (by rfl) (cx_getJ (show cx_Ds[56]? = some (1, 1210, []) from rfl)) (cx_setJ (show cx_Ds[56]? = some (1, 1210, []) from rfl) _) (fun w2 => ?_))
    have h2 := h2 w2
    refine pw_p (pw_seg (by decide) (fun _ _ => cv9_r62) ?_)
    refine pw_cutl (by rfl) ?_
    exact h2
set_option maxRecDepth 100000 in
theorem cv9_r63 {a0 : Int32} {a1 : Int32} {a2 : Int32} {a3 : Int64} {a4 : Int32} {a5 : Int32} {a6 : Int32} : ∀ G : ez_F, fx_up X 3 G 189 217 [.ref 35, .int a0, .int a1, .int a2, .long a3, ez_fill, .int a4, .int a5, .int a6] [] (ev_hp I J R T) cz kz = bif decide (a2 ≤ a6) then G 189 259 [.ref 35, .int a0, .int a1, .int a2, .long a3, ez_fill, .int a4, .int a5, .int a6] [] (ev_hp I J R T) cz kz else G 189 223 [.ref 35, .int a0, .int a1, .int a2, .long a3, ez_fill, .int a4, .int a5, .int a6] [] (ev_hp I J R T) cz kz := by
  intro G
  rfl
set_option maxRecDepth 100000 in
theorem cv9_r64 {a0 : Int32} {a1 : Int32} {a2 : Int32} {a3 : Int64} {a4 : Int32} {a5 : Int32} {a6 : Int32} : ∀ G : ez_F, fx_up X 1 G 189 259 [.ref 35, .int a0, .int a1, .int a2, .long a3, ez_fill, .int a4, .int a5, .int a6] [] (ev_hp I J R T) cz kz = G 189 56 [.ref 35, .int a0, .int a1, .int a2, .long a3, ez_fill, .int a4] [] (ev_hp I J R T) cz kz := by
  intro G
  rfl
set_option maxRecDepth 100000 in
theorem cv9_r65 {a0 : Int32} {a1 : Int32} {a2 : Int32} {a3 : Int64} {a4 : Int32} {a5 : Int32} {a6 : Int32} : ∀ G : ez_F, fx_up X 6 G 189 223 [.ref 35, .int a0, .int a1, .int a2, .long a3, ez_fill, .int a4, .int a5, .int a6] [] (ev_hp I J R T) cz kz = G 189 235 [.ref 35, .int a0, .int a1, .int a2, .long a3, ez_fill, .int a4, .int a5, .int a6] [.int a6, .ref 58, .int a6, .ref 59] (ev_hp I J R T) cz kz := by
  intro G
  rfl
set_option maxRecDepth 100000 in
theorem cv9_r66 {a0 : Int32} {a1 : Int32} {a2 : Int32} {a3 : Int64} {a4 : Int32} {a5 : Int32} {a6 : Int32} : ∀ G : ez_F, fx_up X 5 G 189 237 [.ref 35, .int a0, .int a1, .int a2, .long a3, ez_fill, .int a4, .int a5, .int a6] [] (ev_hp I J R T) cz kz = G 189 247 [.ref 35, .int a0, .int a1, .int a2, .long a3, ez_fill, .int a4, .int a5, .int a6] [.int a6, .ref 59, .ref 57] (ev_hp I J R T) cz kz := by
  intro G
  rfl
set_option maxRecDepth 100000 in
theorem cv9_r67 {a0 : Int32} {a1 : Int32} {a2 : Int32} {a3 : Int64} {a4 : Int32} {a5 : Int32} {a6 : Int32} {a7 : Int32} : ∀ G : ez_F, fx_up X 1 G 189 248 [.ref 35, .int a0, .int a1, .int a2, .long a3, ez_fill, .int a4, .int a5, .int a6] [.int a7, .ref 57] (ev_hp I J R T) cz kz = G 189 249 [.ref 35, .int a0, .int a1, .int a2, .long a3, ez_fill, .int a4, .int a5, .int a6] [.int a7, .ref 57, .int a7, .ref 57] (ev_hp I J R T) cz kz := by
  intro G
  rfl
set_option maxRecDepth 100000 in
theorem cv9_r68 {a0 : Int32} {a1 : Int32} {a2 : Int32} {a3 : Int64} {a4 : Int32} {a5 : Int32} {a6 : Int32} {a7 : Int32} {a8 : Int32} : ∀ G : ez_F, fx_up X 2 G 189 250 [.ref 35, .int a0, .int a1, .int a2, .long a3, ez_fill, .int a4, .int a5, .int a6] [.int a7, .int a8, .ref 57] (ev_hp I J R T) cz kz = G 189 252 [.ref 35, .int a0, .int a1, .int a2, .long a3, ez_fill, .int a4, .int a5, .int a6] [.int (a7 + (1 : Int32)), .int a8, .ref 57] (ev_hp I J R T) cz kz := by
  intro G
  rfl
set_option maxRecDepth 100000 in
theorem cv9_r69 {a0 : Int32} {a1 : Int32} {a2 : Int32} {a3 : Int64} {a4 : Int32} {a5 : Int32} {a6 : Int32} : ∀ G : ez_F, fx_up X 2 G 189 253 [.ref 35, .int a0, .int a1, .int a2, .long a3, ez_fill, .int a4, .int a5, .int a6] [] (ev_hp I J R T) cz kz = G 189 217 [.ref 35, .int a0, .int a1, .int a2, .long a3, ez_fill, .int a4, .int a5, .int (a6 + (1 : Int32))] [] (ev_hp I J R T) cz kz := by
  intro G
  rfl
theorem fn9_217 {n f t b a i : Int32} {z : Int64}
    (H : ((t ≤ i → pw N X 189 56 [.ref 35, .int n] [] (ev_hp I J R T) Q) ∧ (¬ (t ≤ i) → (ev_ix i 401 → (ev_ix i 401 → (ev_ix i 401 → (ev_ix ((upd (I 59) i.toNatClampNeg (I 58 i.toNatClampNeg)) i.toNatClampNeg) 401 → (ev_ix ((upd (I 59) i.toNatClampNeg (I 58 i.toNatClampNeg)) i.toNatClampNeg) 401 → pw N X 189 217 [.ref 35, .int n, .int f, .int t, .long z, ez_fill, .int b, .int a, .int (i + (1 : Int32))] [] (ev_hp (ev_sI (ev_sI I 59 (upd (I 59) i.toNatClampNeg (I 58 i.toNatClampNeg))) 57 (upd (I 57) (((upd (I 59) i.toNatClampNeg (I 58 i.toNatClampNeg)) i.toNatClampNeg).toNatClampNeg) ((I 57 ((upd (I 59) i.toNatClampNeg (I 58 i.toNatClampNeg)) i.toNatClampNeg).toNatClampNeg) + (1 : Int32)))) J R T) Q)))))))) : pw (N + 1) X 189 217 [.ref 35, .int n, .int f, .int t, .long z, ez_fill, .int b, .int a, .int i] [] (ev_hp I J R T) Q := by
  refine pw_if (by decide) (fun _ _ => cv9_r63) (fun w1 => ?_) (fun w1 => ?_)
  · have h1 := H.1 w1
    refine pw_p (pw_seg (by decide) (fun _ _ => cv9_r64) ?_)
    refine pw_cutl (by rfl) ?_
    exact h1
  · have h1 := H.2 w1
    refine pw_p (pw_seg (by decide) (fun _ _ => cv9_r65) ?_)
    refine pw_p (pw_iald (by rfl) (cx_getI (show cx_Ds[58]? = some (0, 401, []) from rfl)) (fun w2 => ?_))
    have h2 := h1 w2
    refine pw_p (pw_iast (by rfl) (cx_getI (show cx_Ds[59]? = some (0, 401, []) from rfl)) (cx_setI (show cx_Ds[59]? = some (0, 401, []) from rfl) _) (fun w2 => ?_))
    have h2 := h2 w2
    refine pw_p (pw_seg (by decide) (fun _ _ => cv9_r66) ?_)
    refine pw_p (pw_iald (by rfl) (cx_getI (show cx_Ds[59]? = some (0, 401, []) from rfl)) (fun w2 => ?_))
    have h2 := h2 w2
    refine pw_p (pw_seg (by decide) (fun _ _ => cv9_r67) ?_)
    refine pw_p (pw_iald (by rfl) (cx_getI (show cx_Ds[57]? = some (0, 401, []) from rfl)) (fun w2 => ?_))
    have h2 := h2 w2
    refine pw_p (pw_seg (by decide) (fun _ _ => cv9_r68) ?_)
    refine pw_p (pw_iast (by rfl) (cx_getI (show cx_Ds[57]? = some (0, 401, []) from rfl)) (cx_setI (show cx_Ds[57]? = some (0, 401, []) from rfl) _) (fun w2 => ?_))
    have h2 := h2 w2
    refine pw_p (pw_seg (by decide) (fun _ _ => cv9_r69) ?_)
    exact h2
set_option maxRecDepth 100000 in
theorem cv9_r70 {a0 : Int32} : ∀ G : ez_F, fx_up X 5 G 196 0 [.ref 35, .int a0] [] (ev_hp I J R T) cz kz = ev_C G 198 [.long a0.toInt64, .long (0 : Int64), .long (2 : Int64)] (ev_hp I J R T) fun r h1 c1 k1 => G 196 9 [.ref 35, .int a0] (r.toList ++ []) h1 (cz + c1) (kz + k1) := by
  intro G
  rfl
set_option maxRecDepth 100000 in
theorem cv9_r71 {a0 : Int32} {a1 : Int32} : ∀ G : ez_F, fx_up X 1 G 196 9 [.ref 35, .int a0] [.int a1] (ev_hp I J R T) cz kz = bif decide (¬ a1 = (0 : Int32)) then G 196 15 [.ref 35, .int a0] [] (ev_hp I J R T) cz kz else G 196 12 [.ref 35, .int a0] [] (ev_hp I J R T) cz kz := by
  intro G
  rfl
set_option maxRecDepth 100000 in
theorem cv9_r72 {a0 : Int32} : ∀ G : ez_F, fx_up X 2 G 196 15 [.ref 35, .int a0] [] (ev_hp I J R T) cz kz = ev_C G 201 [.ref 35] (ev_hp I J R T) fun r h1 c1 k1 => G 196 19 [.ref 35, .int a0] (r.toList ++ []) h1 (cz + c1) (kz + k1) := by
  intro G
  rfl
set_option maxRecDepth 100000 in
theorem cv9_r73 {a0 : Int32} : ∀ G : ez_F, fx_up X 2 G 196 12 [.ref 35, .int a0] [] (ev_hp I J R T) cz kz = some (some (.int (-3 : Int32)), (ev_hp I J R T), cz, kz) := by
  intro G
  rfl
theorem hm_0 {x : Int32}
    (H : ((¬ (ev_il x.toInt64 (0 : Int64) (2 : Int64)) = (0 : Int32) → (∃ Q1 : pw_Q, pe N X 201 [.ref 35] (ev_hp I J R T) Q1 ∧ ∀ (r : Option Value) (h1 : ez_H), Q1 r h1 → pw N X 196 19 [.ref 35, .int x] (r.toList ++ []) h1 Q)) ∧ (¬ (¬ (ev_il x.toInt64 (0 : Int64) (2 : Int64)) = (0 : Int32)) → Q (some (.int (-3 : Int32))) (ev_hp I J R T)))) : pw (N + 1) X 196 0 [.ref 35, .int x] [] (ev_hp I J R T) Q := by
  refine pw_callp (by decide) (fun _ _ => cv9_r70) (pe_is (ec_in _ _ _ _ _)) ?_
  refine pw_p (pw_if (by decide) (fun _ _ => cv9_r71) (fun w1 => ?_) (fun w1 => ?_))
  · have h1 := H.1 w1
    obtain ⟨Q1, hc, hk⟩ := h1
    exact pw_p (pw_call (by decide) (fun _ _ => cv9_r72) hc hk)
  · have h1 := H.2 w1
    exact pw_p (pw_ret (by decide) (fun _ _ => cv9_r73) h1)
set_option maxRecDepth 100000 in
theorem cv9_r74 {a0 : Int32} {a1 : Int32} : ∀ G : ez_F, fx_up X 1 G 196 19 [.ref 35, .int a0] [.int a1] (ev_hp I J R T) cz kz = bif decide (a1 = (0 : Int32)) then G 196 25 [.ref 35, .int a0] [] (ev_hp I J R T) cz kz else G 196 22 [.ref 35, .int a0] [] (ev_hp I J R T) cz kz := by
  intro G
  rfl
set_option maxRecDepth 100000 in
theorem cv9_r75 {a0 : Int32} : ∀ G : ez_F, fx_up X 8 G 196 25 [.ref 35, .int a0] [] (ev_hp I J R T) cz kz = ev_C G 189 [.ref 35] (ev_hp I J R T) fun r h1 c1 k1 => G 196 36 [.ref 35, .int a0, .int (-1 : Int32), .int (-1 : Int32), .int (0 : Int32)] (r.toList ++ []) h1 (cz + c1) (kz + k1) := by
  intro G
  rfl
set_option maxRecDepth 100000 in
theorem cv9_r76 {a0 : Int32} : ∀ G : ez_F, fx_up X 2 G 196 22 [.ref 35, .int a0] [] (ev_hp I J R T) cz kz = some (some (.int (-6 : Int32)), (ev_hp I J R T), cz, kz) := by
  intro G
  rfl
theorem hm_19 {x v : Int32}
    (H : ((v = (0 : Int32) → (∃ Q1 : pw_Q, pe N X 189 [.ref 35] (ev_hp I J R T) Q1 ∧ ∀ (r : Option Value) (h1 : ez_H), Q1 r h1 → pw N X 196 36 [.ref 35, .int x, .int (-1 : Int32), .int (-1 : Int32), .int (0 : Int32)] (r.toList ++ []) h1 Q)) ∧ (¬ (v = (0 : Int32)) → Q (some (.int (-6 : Int32))) (ev_hp I J R T)))) : pw (N + 1) X 196 19 [.ref 35, .int x] [.int v] (ev_hp I J R T) Q := by
  refine pw_if (by decide) (fun _ _ => cv9_r74) (fun w1 => ?_) (fun w1 => ?_)
  · have h1 := H.1 w1
    obtain ⟨Q1, hc, hk⟩ := h1
    exact pw_p (pw_call (by decide) (fun _ _ => cv9_r75) hc hk)
  · have h1 := H.2 w1
    exact pw_p (pw_ret (by decide) (fun _ _ => cv9_r76) h1)
set_option maxRecDepth 100000 in
theorem cv9_r77 {a0 : Int32} {a1 : Int32} {a2 : Int32} {a3 : Int32} : ∀ G : ez_F, fx_up X 2 G 196 36 [.ref 35, .int a0, .int a1, .int a2, .int a3] [] (ev_hp I J R T) cz kz = G 196 39 [.ref 35, .int a0, .int a1, .int a2, .int a3, .int (0 : Int32)] [] (ev_hp I J R T) cz kz := by
  intro G
  rfl
theorem hm_36 {x w m s : Int32}
    (H : pw N X 196 39 [.ref 35, .int x, .int w, .int m, .int s, .int (0 : Int32)] [] (ev_hp I J R T) Q) : pw (N + 1) X 196 36 [.ref 35, .int x, .int w, .int m, .int s] [] (ev_hp I J R T) Q := by
  refine pw_seg (by decide) (fun _ _ => cv9_r77) ?_
  exact H
set_option maxRecDepth 100000 in
theorem cv9_r78 {a0 : Int32} {a1 : Int32} {a2 : Int32} {a3 : Int32} {a4 : Int32} : ∀ G : ez_F, fx_up X 3 G 196 39 [.ref 35, .int a0, .int a1, .int a2, .int a3, .int a4] [] (ev_hp I J R T) cz kz = G 196 45 [.ref 35, .int a0, .int a1, .int a2, .int a3, .int a4] [.int (I 35 14), .int a4] (ev_hp I J R T) cz kz := by
  intro G
  rfl
set_option maxRecDepth 100000 in
theorem cv9_r79 {a0 : Int32} {a1 : Int32} {a2 : Int32} {a3 : Int32} {a4 : Int32} {a5 : Int32} {a6 : Int32} : ∀ G : ez_F, fx_up X 1 G 196 45 [.ref 35, .int a0, .int a1, .int a2, .int a3, .int a4] [.int a5, .int a6] (ev_hp I J R T) cz kz = bif decide (a5 ≤ a6) then G 196 96 [.ref 35, .int a0, .int a1, .int a2, .int a3, .int a4] [] (ev_hp I J R T) cz kz else G 196 48 [.ref 35, .int a0, .int a1, .int a2, .int a3, .int a4] [] (ev_hp I J R T) cz kz := by
  intro G
  rfl
set_option maxRecDepth 100000 in
theorem cv9_r80 {a0 : Int32} {a1 : Int32} {a2 : Int32} {a3 : Int32} {a4 : Int32} : ∀ G : ez_F, fx_up X 3 G 196 48 [.ref 35, .int a0, .int a1, .int a2, .int a3, .int a4] [] (ev_hp I J R T) cz kz = G 196 54 [.ref 35, .int a0, .int a1, .int a2, .int a3, .int a4] [.int a4, .ref 57] (ev_hp I J R T) cz kz := by
  intro G
  rfl
set_option maxRecDepth 100000 in
theorem cv9_r81 {a0 : Int32} {a1 : Int32} {a2 : Int32} {a3 : Int32} {a4 : Int32} {a5 : Int32} : ∀ G : ez_F, fx_up X 8 G 196 55 [.ref 35, .int a0, .int a1, .int a2, .int a3, .int a4] [.int a5] (ev_hp I J R T) cz kz = bif decide (a5 ≤ a2) then G 196 75 [.ref 35, .int a0, .int a1, .int a2, .int (a3 + a5), .int a4, .int a5] [] (ev_hp I J R T) cz kz else G 196 70 [.ref 35, .int a0, .int a1, .int a2, .int (a3 + a5), .int a4, .int a5] [] (ev_hp I J R T) cz kz := by
  intro G
  rfl
set_option maxRecDepth 100000 in
theorem cv9_r82 {a0 : Int32} {a1 : Int32} {a2 : Int32} {a3 : Int32} {a4 : Int32} {a5 : Int32} : ∀ G : ez_F, fx_up X 5 G 196 75 [.ref 35, .int a0, .int a1, .int a2, .int a3, .int a4, .int a5] [] (ev_hp I J R T) cz kz = bif decide (a5 ≤ a2) then G 196 88 [.ref 35, .int a0, .int a1, .int a2, .int a3, .int a4, .int a5] [] (ev_hp I J R T) cz kz else G 196 83 [.ref 35, .int a0, .int a1, .int a2, .int a3, .int a4, .int a5] [] (ev_hp I J R T) cz kz := by
  intro G
  rfl
set_option maxRecDepth 100000 in
theorem cv9_r83 {a0 : Int32} {a1 : Int32} {a2 : Int32} {a3 : Int32} {a4 : Int32} {a5 : Int32} : ∀ G : ez_F, fx_up X 4 G 196 88 [.ref 35, .int a0, .int a1, .int a2, .int a3, .int a4, .int a5] [] (ev_hp I J R T) cz kz = G 196 39 [.ref 35, .int a0, .int a1, .int a2, .int a3, .int (a4 + (1 : Int32)), .int a5] [] (ev_hp I J R T) cz kz := by
  intro G
  rfl
set_option maxRecDepth 100000 in
theorem cv9_r84 {a0 : Int32} {a1 : Int32} {a2 : Int32} {a3 : Int32} {a4 : Int32} {a5 : Int32} : ∀ G : ez_F, fx_up X 5 G 196 83 [.ref 35, .int a0, .int a1, .int a2, .int a3, .int a4, .int a5] [] (ev_hp I J R T) cz kz = G 196 39 [.ref 35, .int a0, .int a1, .int a5, .int a3, .int (a4 + (1 : Int32)), .int a5] [] (ev_hp I J R T) cz kz := by
  intro G
  rfl
set_option maxRecDepth 100000 in
theorem cv9_r85 {a0 : Int32} {a1 : Int32} {a2 : Int32} {a3 : Int32} {a4 : Int32} {a5 : Int32} : ∀ G : ez_F, fx_up X 6 G 196 70 [.ref 35, .int a0, .int a1, .int a2, .int a3, .int a4, .int a5] [] (ev_hp I J R T) cz kz = bif decide (a5 ≤ a2) then G 196 88 [.ref 35, .int a0, .int a4, .int a2, .int a3, .int a4, .int a5] [] (ev_hp I J R T) cz kz else G 196 83 [.ref 35, .int a0, .int a4, .int a2, .int a3, .int a4, .int a5] [] (ev_hp I J R T) cz kz := by
  intro G
  rfl
theorem hm_39 {x w m s k : Int32}
    (H : (((I 35 14) ≤ k → pw N X 196 96 [.ref 35, .int x, .int w, .int m, .int s, .int k] [] (ev_hp I J R T) Q) ∧ (¬ ((I 35 14) ≤ k) → (ev_ix k 401 → (((I 57 k.toNatClampNeg) ≤ m → (((I 57 k.toNatClampNeg) ≤ m → pw N X 196 39 [.ref 35, .int x, .int w, .int m, .int (s + (I 57 k.toNatClampNeg)), .int (k + (1 : Int32))] [] (ev_hp I J R T) Q) ∧ (¬ ((I 57 k.toNatClampNeg) ≤ m) → pw N X 196 39 [.ref 35, .int x, .int w, .int (I 57 k.toNatClampNeg), .int (s + (I 57 k.toNatClampNeg)), .int (k + (1 : Int32))] [] (ev_hp I J R T) Q))) ∧ (¬ ((I 57 k.toNatClampNeg) ≤ m) → (((I 57 k.toNatClampNeg) ≤ m → pw N X 196 39 [.ref 35, .int x, .int k, .int m, .int (s + (I 57 k.toNatClampNeg)), .int (k + (1 : Int32))] [] (ev_hp I J R T) Q) ∧ (¬ ((I 57 k.toNatClampNeg) ≤ m) → pw N X 196 39 [.ref 35, .int x, .int k, .int (I 57 k.toNatClampNeg), .int (s + (I 57 k.toNatClampNeg)), .int (k + (1 : Int32))] [] (ev_hp I J R T) Q)))))))) : pw (N + 1) X 196 39 [.ref 35, .int x, .int w, .int m, .int s, .int k] [] (ev_hp I J R T) Q := by
  refine pw_seg (by decide) (fun _ _ => cv9_r78) ?_
  refine pw_p (pw_if (by decide) (fun _ _ => cv9_r79) (fun w1 => ?_) (fun w1 => ?_))
  · have h1 := H.1 w1
    exact h1
  · have h1 := H.2 w1
    refine pw_p (pw_seg (by decide) (fun _ _ => cv9_r80) ?_)
    refine pw_p (pw_iald (by rfl) (cx_getI (show cx_Ds[57]? = some (0, 401, []) from rfl)) (fun w2 => ?_))
    have h2 := h1 w2
    refine pw_p (pw_if (by decide) (fun _ _ => cv9_r81) (fun w2 => ?_) (fun w2 => ?_))
    · have h2 := h2.1 w2
      refine pw_p (pw_if (by decide) (fun _ _ => cv9_r82) (fun w3 => ?_) (fun w3 => ?_))
      · have h3 := h2.1 w3
        refine pw_p (pw_seg (by decide) (fun _ _ => cv9_r83) ?_)
        refine pw_cutl (by rfl) ?_
        exact h3
      · have h3 := h2.2 w3
        refine pw_p (pw_seg (by decide) (fun _ _ => cv9_r84) ?_)
        refine pw_cutl (by rfl) ?_
        exact h3
    · have h2 := h2.2 w2
      refine pw_p (pw_if (by decide) (fun _ _ => cv9_r85) (fun w3 => ?_) (fun w3 => ?_))
      · have h3 := h2.1 w3
        refine pw_p (pw_seg (by decide) (fun _ _ => cv9_r83) ?_)
        refine pw_cutl (by rfl) ?_
        exact h3
      · have h3 := h2.2 w3
        refine pw_p (pw_seg (by decide) (fun _ _ => cv9_r84) ?_)
        refine pw_cutl (by rfl) ?_
        exact h3
set_option maxRecDepth 100000 in
theorem cv9_r86 {a0 : Int32} {a1 : Int32} {a2 : Int32} {a3 : Int32} {a4 : Int32} : ∀ G : ez_F, fx_up X 2 G 196 96 [.ref 35, .int a0, .int a1, .int a2, .int a3, .int a4] [] (ev_hp I J R T) cz kz = bif decide (¬ a0 = (0 : Int32)) then G 196 104 [.ref 35, .int a0, .int a1, .int a2, .int a3, .int a4] [] (ev_hp I J R T) cz kz else G 196 100 [.ref 35, .int a0, .int a1, .int a2, .int a3, .int a4] [] (ev_hp I J R T) cz kz := by
  intro G
  rfl
set_option maxRecDepth 100000 in
theorem cv9_r87 {a0 : Int32} {a1 : Int32} {a2 : Int32} {a3 : Int32} {a4 : Int32} : ∀ G : ez_F, fx_up X 3 G 196 104 [.ref 35, .int a0, .int a1, .int a2, .int a3, .int a4] [] (ev_hp I J R T) cz kz = bif decide (¬ a0 = (1 : Int32)) then G 196 113 [.ref 35, .int a0, .int a1, .int a2, .int a3, .int a4] [] (ev_hp I J R T) cz kz else G 196 109 [.ref 35, .int a0, .int a1, .int a2, .int a3, .int a4] [] (ev_hp I J R T) cz kz := by
  intro G
  rfl
set_option maxRecDepth 100000 in
theorem cv9_r88 {a0 : Int32} {a1 : Int32} {a2 : Int32} {a3 : Int32} {a4 : Int32} : ∀ G : ez_F, fx_up X 2 G 196 113 [.ref 35, .int a0, .int a1, .int a2, .int a3, .int a4] [] (ev_hp I J R T) cz kz = G 196 117 [.ref 35, .int a0, .int a1, .int a2, .int a3, .int a4] [.int (I 35 14)] (ev_hp I J R T) cz kz := by
  intro G
  rfl
set_option maxRecDepth 100000 in
theorem cv9_r89 {a0 : Int32} {a1 : Int32} {a2 : Int32} {a3 : Int32} {a4 : Int32} {a5 : Int32} : ∀ G : ez_F, fx_up X 1 G 196 117 [.ref 35, .int a0, .int a1, .int a2, .int a3, .int a4] [.int a5] (ev_hp I J R T) cz kz = bif decide (¬ a5 = (0 : Int32)) then G 196 124 [.ref 35, .int a0, .int a1, .int a2, .int a3, .int a4] [] (ev_hp I J R T) cz kz else G 196 120 [.ref 35, .int a0, .int a1, .int a2, .int a3, .int a4] [] (ev_hp I J R T) cz kz := by
  intro G
  rfl
set_option maxRecDepth 100000 in
theorem cv9_r90 {a0 : Int32} {a1 : Int32} {a2 : Int32} {a3 : Int32} {a4 : Int32} : ∀ G : ez_F, fx_up X 2 G 196 124 [.ref 35, .int a0, .int a1, .int a2, .int a3, .int a4] [] (ev_hp I J R T) cz kz = some (some (.int a3), (ev_hp I J R T), cz, kz) := by
  intro G
  rfl
set_option maxRecDepth 100000 in
theorem cv9_r91 {a0 : Int32} {a1 : Int32} {a2 : Int32} {a3 : Int32} {a4 : Int32} : ∀ G : ez_F, fx_up X 3 G 196 120 [.ref 35, .int a0, .int a1, .int a2, .int a3, .int a4] [] (ev_hp I J R T) cz kz = some (some (.int (-1 : Int32)), (ev_hp I J R T), cz, kz) := by
  intro G
  rfl
set_option maxRecDepth 100000 in
theorem cv9_r92 {a0 : Int32} {a1 : Int32} {a2 : Int32} {a3 : Int32} {a4 : Int32} : ∀ G : ez_F, fx_up X 3 G 196 109 [.ref 35, .int a0, .int a1, .int a2, .int a3, .int a4] [] (ev_hp I J R T) cz kz = some (some (.int a2), (ev_hp I J R T), cz, kz) := by
  intro G
  rfl
set_option maxRecDepth 100000 in
theorem cv9_r93 {a0 : Int32} {a1 : Int32} {a2 : Int32} {a3 : Int32} {a4 : Int32} : ∀ G : ez_F, fx_up X 3 G 196 100 [.ref 35, .int a0, .int a1, .int a2, .int a3, .int a4] [] (ev_hp I J R T) cz kz = some (some (.int a1), (ev_hp I J R T), cz, kz) := by
  intro G
  rfl
theorem hm_96 {x w m s k : Int32}
    (H : ((¬ x = (0 : Int32) → ((¬ x = (1 : Int32) → ((¬ (I 35 14) = (0 : Int32) → Q (some (.int s)) (ev_hp I J R T)) ∧ (¬ (¬ (I 35 14) = (0 : Int32)) → Q (some (.int (-1 : Int32))) (ev_hp I J R T)))) ∧ (¬ (¬ x = (1 : Int32)) → Q (some (.int m)) (ev_hp I J R T)))) ∧ (¬ (¬ x = (0 : Int32)) → Q (some (.int w)) (ev_hp I J R T)))) : pw (N + 1) X 196 96 [.ref 35, .int x, .int w, .int m, .int s, .int k] [] (ev_hp I J R T) Q := by
  refine pw_if (by decide) (fun _ _ => cv9_r86) (fun w1 => ?_) (fun w1 => ?_)
  · have h1 := H.1 w1
    refine pw_p (pw_if (by decide) (fun _ _ => cv9_r87) (fun w2 => ?_) (fun w2 => ?_))
    · have h2 := h1.1 w2
      refine pw_p (pw_seg (by decide) (fun _ _ => cv9_r88) ?_)
      refine pw_p (pw_if (by decide) (fun _ _ => cv9_r89) (fun w3 => ?_) (fun w3 => ?_))
      · have h3 := h2.1 w3
        exact pw_p (pw_ret (by decide) (fun _ _ => cv9_r90) h3)
      · have h3 := h2.2 w3
        exact pw_p (pw_ret (by decide) (fun _ _ => cv9_r91) h3)
    · have h2 := h1.2 w2
      exact pw_p (pw_ret (by decide) (fun _ _ => cv9_r92) h2)
  · have h1 := H.2 w1
    exact pw_p (pw_ret (by decide) (fun _ _ => cv9_r93) h1)
end
/-! heaps of layings, one behind the other, but for a stretch that is under way -/
noncomputable def hsI (an : Int64 → Nat → Nat → Nat) (l nc : Nat) (fin : Nat → Nat) (n : Nat) (q hf ht : Nat → Nat) (hz : Nat → Int64) (D : Nat → Nat) (e t : Nat) : Prop := (∀ j, j < n → hf j ≤ ht j ∧ ht j ≤ l ∧ (ht j ≤ e ∨ t ≤ hf j)) ∧ (∀ j j', j < n → j' < n → j ≠ j' → ht j ≤ hf j' ∨ ht j' ≤ hf j) ∧ (∀ j, j < n → ∀ i, hf j ≤ i → i < ht j → fin (q i) = D (q i) + nd an l nc (seg q (hf j) (ht j)) (hz j) (q i)) ∧ ∀ i, i < l → (∀ j, j < n → i < hf j ∨ ht j ≤ i) → ¬ (e ≤ i ∧ i < t) → fin (q i) = D (q i)
noncomputable def fup {α : Type} (f : Nat → α) (n : Nat) (x : α) : Nat → α := fun j => if j = n then x else f j
theorem fup_s {α : Type} (f : Nat → α) (n : Nat) (x : α) : fup f n x n = x := if_pos rfl
theorem fup_n {α : Type} (f : Nat → α) {n j : Nat} (x : α) (h : j ≠ n) : fup f n x j = f j := if_neg h
section
variable {an : Int64 → Nat → Nat → Nat} {l nc n e t y : Nat} {fin q q' hf ht D : Nat → Nat} {hz : Nat → Int64} {z : Int64}
theorem hs_pop (h2 : ∀ z c k, an z c k ≤ 2) (h : hsI an l nc fin (n + 1) q hf ht hz D 0 0) (hs : spl an (seg q (hf n) (ht n)) l nc (hz n) = false) : hsI an l nc fin n q hf ht hz D 0 0 := by
  obtain ⟨h1, h3, h4, h5⟩ := h
  refine ⟨fun j hj => h1 j (by omega), fun j j' hj hj' => h3 j j' (by omega) (by omega), fun j hj => h4 j (by omega), fun i hi ho _ => ?_⟩
  by_cases hin : hf n ≤ i ∧ i < ht n
  · rw [h4 n (Nat.lt_succ_self n) i hin.1 hin.2, nd_eq h2 (seg q (hf n) (ht n)) (hz n) (q i), hs]
    rfl
  · refine h5 i hi (fun j hj => ?_) (by omega)
    by_cases ej : j = n
    · subst ej
      omega
    · exact ho j (by omega)
theorem hs_open (h : hsI an l nc fin (n + 1) q hf ht hz D 0 0) (hq : ord q l) : hsI an l nc fin n q hf ht hz (fun k => if seg q (hf n) (ht n) k = true then D k + 1 else D k) (hf n) (ht n) := by
  obtain ⟨h1, h3, h4, h5⟩ := h
  obtain ⟨b1, b2, -⟩ := h1 n (Nat.lt_succ_self n)
  have out : ∀ i, i < l → i < hf n ∨ ht n ≤ i → (if seg q (hf n) (ht n) (q i) = true then D (q i) + 1 else D (q i)) = D (q i) := fun i hi ho => by
    rw [seg_no hq b2 hi ho]
    rfl
  refine ⟨fun j hj => ?_, fun j j' hj hj' => h3 j j' (by omega) (by omega), fun j hj i i1 i2 => ?_, fun i hi ho hno => ?_⟩
  · obtain ⟨c1, c2, -⟩ := h1 j (by omega)
    exact ⟨c1, c2, h3 j n (by omega) (Nat.lt_succ_self n) (by omega)⟩
  · obtain ⟨c1, c2, -⟩ := h1 j (by omega)
    have := h3 j n (by omega) (Nat.lt_succ_self n) (by omega)
    show fin (q i) = (if seg q (hf n) (ht n) (q i) = true then D (q i) + 1 else D (q i)) + _
    rw [out i (by omega) (by omega)]
    exact h4 j (by omega) i i1 i2
  · show fin (q i) = if seg q (hf n) (ht n) (q i) = true then D (q i) + 1 else D (q i)
    rw [out i hi (by omega)]
    refine h5 i hi (fun j hj => ?_) (by omega)
    by_cases ej : j = n
    · subst ej
      omega
    · exact ho j (by omega)
theorem hs_c (h : hsI an l nc fin n q hf ht hz D e t) (hq : ∀ i, i < e ∨ t ≤ i → q' i = q i) : hsI an l nc fin n q' hf ht hz D e t := by
  obtain ⟨h1, h3, h4, h5⟩ := h
  refine ⟨h1, h3, fun j hj i i1 i2 => ?_, fun i hi ho hno => ?_⟩
  · have h6 := (h1 j hj).2.2
    rw [hq i (by omega), seg_c (fun s s1 s2 => hq s (by omega))]
    exact h4 j hj i i1 i2
  · rw [hq i (by omega)]
    exact h5 i hi ho hno
theorem hs_push (h : hsI an l nc fin n q hf ht hz D e t) (hey : e < y) (hyt : y ≤ t) (htl : t ≤ l) (hn : ∀ i, e ≤ i → i < y → fin (q i) = D (q i) + nd an l nc (seg q e y) z (q i)) : hsI an l nc fin (n + 1) q (fup hf n e) (fup ht n y) (fup hz n z) D y t := by
  obtain ⟨h1, h3, h4, h5⟩ := h
  refine ⟨fun j hj => ?_, fun j j' hj hj' hne => ?_, fun j hj i i1 i2 => ?_, fun i hi ho hno => ?_⟩
  · by_cases ej : j = n
    · rw [ej, fup_s, fup_s]
      omega
    · rw [fup_n _ _ ej, fup_n _ _ ej]
      have := h1 j (by omega)
      omega
  · by_cases ej : j = n
    · rw [ej, fup_s, fup_s, fup_n _ _ (show j' ≠ n by omega), fup_n _ _ (show j' ≠ n by omega)]
      have := h1 j' (by omega)
      omega
    · rw [fup_n _ _ ej, fup_n _ _ ej]
      by_cases ej' : j' = n
      · rw [ej', fup_s, fup_s]
        have := h1 j (by omega)
        omega
      · rw [fup_n _ _ ej', fup_n _ _ ej']
        exact h3 j j' (by omega) (by omega) hne
  · by_cases ej : j = n
    · subst ej
      rw [fup_s] at i1 i2
      rw [fup_s, fup_s, fup_s]
      exact hn i i1 i2
    · rw [fup_n _ _ ej] at i1 i2
      rw [fup_n _ _ ej, fup_n _ _ ej, fup_n _ _ ej]
      exact h4 j (by omega) i i1 i2
  · have hn' := ho n (Nat.lt_succ_self n)
    rw [fup_s, fup_s] at hn'
    refine h5 i hi (fun j hj => ?_) (by omega)
    have := ho j (by omega)
    rw [fup_n _ _ (show j ≠ n by omega), fup_n _ _ (show j ≠ n by omega)] at this
    exact this
theorem hs_close (h : hsI an l nc fin n q hf ht hz D t t) : hsI an l nc fin n q hf ht hz D 0 0 := by
  obtain ⟨h1, h3, h4, h5⟩ := h
  refine ⟨fun j hj => ?_, h3, h4, fun i hi ho _ => h5 i hi ho (by omega)⟩
  have := h1 j hj
  omega
/-- sorted by what they say, up to an answer -/
noncomputable def sdI (an : Nat → Nat) (G : Nat → Bool) (w : Nat → Nat) (f e v : Nat) : Prop := (∀ i, f ≤ i → i < e → G (w i) = true ∧ an (w i) < v) ∧ (∀ i j, f ≤ i → i < e → f ≤ j → j < e → w i = w j → i = j) ∧ ∀ k, G k = true → an k < v → ∃ i, f ≤ i ∧ i < e ∧ w i = k
theorem sd_up {an1 : Nat → Nat} {G : Nat → Bool} {w w' : Nat → Nat} {f e v j : Nat} (h : sdI an1 G w f e v) (hfe : f ≤ e) (hw : ∀ i, i < e → w' i = w i) (hl : lst w' l e (e + j)) (hs : seg w' e (e + j) = fun k => G k && decide (an1 k = v)) : sdI an1 G w' f (e + j) (v + 1) := by
  obtain ⟨h1, h2, h3⟩ := h
  have new : ∀ i, e ≤ i → i < e + j → G (w' i) = true ∧ an1 (w' i) = v := fun i i1 i2 => by
    have h := seg_in (q := w') i1 i2
    rw [hs] at h
    obtain ⟨a, b⟩ := Bool.and_eq_true_iff.mp h
    exact ⟨a, of_decide_eq_true b⟩
  have old : ∀ i, f ≤ i → i < e → G (w' i) = true ∧ an1 (w' i) < v := fun i i1 i2 => by
    rw [hw i i2]
    exact h1 i i1 i2
  refine ⟨fun i i1 i2 => ?_, fun i k i1 i2 k1 k2 ee => ?_, fun k k1 k2 => ?_⟩
  · by_cases c : i < e
    · have := old i i1 c
      exact ⟨this.1, by omega⟩
    · have := new i (by omega) i2
      exact ⟨this.1, by omega⟩
  · by_cases c : i < e
    · by_cases c' : k < e
      · rw [hw i c, hw k c'] at ee
        exact h2 i k i1 c k1 c' ee
      · have a := old i i1 c
        have b := new k (by omega) k2
        rw [ee] at a
        omega
    · by_cases c' : k < e
      · have a := old k k1 c'
        have b := new i (by omega) i2
        rw [ee] at b
        omega
      · exact hl.2 i k (by omega) i2 (by omega) k2 ee
  · by_cases c : an1 k < v
    · obtain ⟨i, i1, i2, i3⟩ := h3 k k1 c
      exact ⟨i, i1, by omega, by rw [hw i i2]; exact i3⟩
    · have hk : seg w' e (e + j) k = true := by
        rw [hs]
        show (G k && decide (an1 k = v)) = true
        rw [k1, decide_eq_true (show an1 k = v by omega)]
        rfl
      obtain ⟨i, i1, i2, i3⟩ := seg_iff.mp hk
      exact ⟨i, by omega, i2, i3⟩
noncomputable def mixq (q w : Nat → Nat) (f e : Nat) : Nat → Nat := fun i => if f ≤ i ∧ i < e then w i else q i
theorem mx_in {w : Nat → Nat} {f i : Nat} (h : f ≤ i ∧ i < e) : mixq q w f e i = w i := if_pos h
theorem mx_out {w : Nat → Nat} {f i : Nat} (h : ¬ (f ≤ i ∧ i < e)) : mixq q w f e i = q i := if_neg h
theorem sd_ord {an1 : Nat → Nat} {w : Nat → Nat} {f : Nat} (h2 : ∀ k, an1 k ≤ 2) (hq : ord q l) (hft : f ≤ t) (htl : t ≤ l) (h : sdI an1 (seg q f t) w f t 3) : ord (mixq q w f t) l ∧ seg w f t = seg q f t := by
  obtain ⟨a1, a2, a3⟩ := h
  have hseg : seg w f t = seg q f t := funext fun k => Bool.eq_iff_iff.mpr (by
    constructor
    · intro h
      obtain ⟨i, i1, i2, i3⟩ := seg_iff.mp h
      rw [← i3]
      exact (a1 i i1 i2).1
    · intro h
      have := h2 k
      obtain ⟨i, i1, i2, i3⟩ := a3 k h (by omega)
      exact seg_iff.mpr ⟨i, i1, i2, i3⟩)
  refine ⟨⟨fun i hi => ?_, fun i j hi hj ee => ?_, fun k hk => ?_⟩, hseg⟩
  · by_cases c : f ≤ i ∧ i < t
    · rw [mx_in c]
      obtain ⟨s, s1, s2, s3⟩ := seg_iff.mp (a1 i c.1 c.2).1
      rw [← s3]
      exact hq.1 s (by omega)
    · rw [mx_out c]
      exact hq.1 i hi
  · have cross : ∀ i j, i < l → j < l → (f ≤ i ∧ i < t) → ¬ (f ≤ j ∧ j < t) → w i = q j → False := fun i j hi hj c c' ee => by
      have h := (a1 i c.1 c.2).1
      rw [ee] at h
      rw [seg_no hq htl hj (by omega)] at h
      cases h
    by_cases c : f ≤ i ∧ i < t
    · by_cases c' : f ≤ j ∧ j < t
      · rw [mx_in c, mx_in c'] at ee
        exact a2 i j c.1 c.2 c'.1 c'.2 ee
      · rw [mx_in c, mx_out c'] at ee
        exact (cross i j hi hj c c' ee).elim
    · by_cases c' : f ≤ j ∧ j < t
      · rw [mx_out c, mx_in c'] at ee
        exact (cross j i hj hi c' c ee.symm).elim
      · rw [mx_out c, mx_out c'] at ee
        exact hq.2.1 i j hi hj ee
  · obtain ⟨s, s1, s2⟩ := hq.2.2 k hk
    by_cases c : f ≤ s ∧ s < t
    · have hG : seg q f t k = true := by
        rw [← s2]
        exact seg_in c.1 c.2
      have := h2 k
      obtain ⟨i, i1, i2, i3⟩ := a3 k hG (by omega)
      exact ⟨i, by omega, by rw [mx_in ⟨i1, i2⟩]; exact i3⟩
    · exact ⟨s, s1, by rw [mx_out c]; exact s2⟩
theorem seg_sh {w : Nat → Nat} {j : Nat} : seg (fun s => w (e + s)) 0 j = seg w e (e + j) := funext fun k => Bool.eq_iff_iff.mpr (by
  rw [seg_iff, seg_iff]
  constructor
  · rintro ⟨i, i1, i2, i3⟩
    exact ⟨e + i, by omega, by omega, i3⟩
  · rintro ⟨i, i1, i2, i3⟩
    exact ⟨i - e, by omega, by omega, by show w (e + (i - e)) = k; rw [show e + (i - e) = i by omega]; exact i3⟩)
theorem lst_sh {w : Nat → Nat} {j : Nat} : lst (fun s => w (e + s)) l 0 j ↔ lst w l e (e + j) := by
  constructor
  · rintro ⟨h1, h2⟩
    refine ⟨fun i i1 i2 => ?_, fun i k i1 i2 k1 k2 ee => ?_⟩
    · have h : w (e + (i - e)) < l := h1 (i - e) (Nat.zero_le _) (by omega)
      rw [show e + (i - e) = i by omega] at h
      exact h
    · have h := h2 (i - e) (k - e) (Nat.zero_le _) (by omega) (Nat.zero_le _) (by omega) (by
        show w (e + (i - e)) = w (e + (k - e))
        rw [show e + (i - e) = i by omega, show e + (k - e) = k by omega]
        exact ee)
      omega
  · rintro ⟨h1, h2⟩
    exact ⟨fun i _ i2 => h1 (e + i) (by omega) (by omega), fun i k _ i2 _ k2 ee => by have := h2 (e + i) (e + k) (by omega) (by omega) (by omega) (by omega) ee; omega⟩
theorem ord_lst {f : Nat} (hq : ord q l) (htl : t ≤ l) : lst q l f t := ⟨fun i _ h => hq.1 i (by omega), fun i j _ hi _ hj ee => hq.2.1 i j (by omega) (by omega) ee⟩
end
/-- the call for a heap, as far as looked for -/
noncomputable def cbP (M : Nat → Nat) (n c : Nat) : Prop := 0 < c ∧ M (bN M c) < n
theorem cb_step {M : Nat → Nat} {n c : Nat} : (M c < (if 0 < c ∧ M (bN M c) < n then M (bN M c) else n) → (0 < c + 1 ∧ M (bN M (c + 1)) < n) ∧ bN M (c + 1) = c) ∧ (¬ M c < (if 0 < c ∧ M (bN M c) < n then M (bN M c) else n) → ((0 < c + 1 ∧ M (bN M (c + 1)) < n) ↔ (0 < c ∧ M (bN M c) < n)) ∧ ((0 < c ∧ M (bN M c) < n) → bN M (c + 1) = bN M c)) := by
  have eb : bN M (c + 1) = if M c < M (bN M c) then c else bN M c := rfl
  by_cases h : 0 < c ∧ M (bN M c) < n
  · rw [if_pos h]
    refine ⟨fun g => ?_, fun g => ?_⟩
    · rw [eb, if_pos g]
      exact ⟨⟨by omega, by omega⟩, rfl⟩
    · rw [eb, if_neg g]
      exact ⟨⟨fun _ => h, fun _ => ⟨by omega, h.2⟩⟩, fun _ => rfl⟩
  · rw [if_neg h]
    refine ⟨fun g => ?_, fun g => ⟨⟨fun q => ?_, fun q => absurd q h⟩, fun q => absurd q h⟩⟩
    · have e1 : bN M (c + 1) = c := by
        rw [eb]
        by_cases c0 : c = 0
        · subst c0
          split <;> rfl
        · exact if_pos (by omega)
      rw [e1]
      exact ⟨⟨by omega, g⟩, rfl⟩
    · rw [eb] at q
      by_cases c0 : c = 0
      · subst c0
        have e0 : bN M 0 = 0 := rfl
        have q2 := q.2
        rw [e0] at q2
        split at q2 <;> omega
      · have q2 := q.2
        split at q2 <;> omega
section
variable {N : Nat} {X : ez_X} {I A : Nat → Nat → Int32} {J B : Nat → Nat → Int64} {R : Nat → Nat} {T : List ez_C} {x y : Int32} {z : Int64} {q : Nat → Nat} {f t : Nat}
noncomputable def cf_Q (I : Nat → Nat → Int32) (J : Nat → Nat → Int64) (nc f t : Nat) (q : Nat → Nat) (z : Int64) (A : Nat → Nat → Int32) (B : Nat → Nat → Int64) (R : Nat → Nat) (T : List ez_C) : pw_Q := fun r h => r = some (.int (if spl (anL I J (ls I J)) (seg q f t) (ls I J).length nc z = true then Int32.ofNat (bst (anL I J (ls I J)) (seg q f t) (ls I J).length nc z) else -1)) ∧ ∃ F, h = ev_hp (ev_sI A 53 F) B R T
theorem pe_callFor (hr : rl I J) (hB : cx_hB cx_B0 I) (hA : mg I J A B) {nc : Nat} (e16 : I 1 6 = Int32.ofNat nc) (hnc : 4 ≤ nc ∧ nc ≤ 36) (hl : (ls I J).length ≤ 400) (hft : f ≤ t) (htl : t ≤ (ls I J).length) (hq : lst q (ls I J).length f t) (h59 : ∀ i, f ≤ i → i < t → A 59 i = Int32.ofNat (q i)) (hx : x = Int32.ofNat f) (hy : y = Int32.ofNat t) : pe N X 177 [.ref 35, .int x, .int y, .long z] (ev_hp A B R T) (cf_Q I J nc f t q z A B R T) := by
  subst hx hy
  have h2 := anL_2 (I := I) (J := J) (L := ls I J)
  have hG := lst_sz hq
  have hM : ∀ c, mst (anL I J (ls I J)) (seg q f t) (ls I J).length z c ≤ t - f := fun c => by
    have := mst_le (an := anL I J (ls I J)) (G := seg q f t) (l := (ls I J).length) (z := z) h2 c
    omega
  unfold cf_Q
  have es : spl (anL I J (ls I J)) (seg q f t) (ls I J).length nc z = decide (mst (anL I J (ls I J)) (seg q f t) (ls I J).length z (bN (mst (anL I J (ls I J)) (seg q f t) (ls I J).length z) nc) < t - f) := by
    unfold spl bst
    rw [hG]
  have eb : bst (anL I J (ls I J)) (seg q f t) (ls I J).length nc z = bN (mst (anL I J (ls I J)) (seg q f t) (ls I J).length z) nc := rfl
  rw [es, eb]
  generalize hME : mst (anL I J (ls I J)) (seg q f t) (ls I J).length z = M at hM
  have cells : ∀ (d c : Nat), c + d = nc → ∀ F, ∀ N, pw N X 177 11 [.ref 35, .int (Int32.ofNat f), .int (Int32.ofNat t), .long z, ez_fill, .int (if 0 < c ∧ M (bN M c) < t - f then Int32.ofNat (bN M c) else -1), .int (Int32.ofNat (if 0 < c ∧ M (bN M c) < t - f then M (bN M c) else t - f)), .int (Int32.ofNat c)] [] (ev_hp (ev_sI A 53 F) B R T) (fun r h => r = some (.int (if decide (M (bN M nc) < t - f) = true then Int32.ofNat (bN M nc) else -1)) ∧ ∃ F, h = ev_hp (ev_sI A 53 F) B R T) := by
    intro d
    induction d with
    | zero =>
      intro c hcd F N
      obtain rfl : c = nc := by omega
      refine pw_p (cf9_11 ⟨fun _ => pw_p (cf9_173 ⟨?_, F, rfl⟩), fun g => ?_⟩)
      · by_cases g : M (bN M c) < t - f
        · rw [if_pos ⟨by omega, g⟩, decide_eq_true g, if_pos rfl]
        · rw [if_neg (fun u => g u.2), decide_eq_false g, if_neg (by decide)]
      · rw [e_16 hr (mg_53 hA), e16] at g
        exact absurd (Int32.le_refl _) g
    | succ d ihc =>
      intro c hcd F N
      have hMc := hM c
      have hls : (if 0 < c ∧ M (bN M c) < t - f then M (bN M c) else t - f) ≤ 400 := by
        have := hM (bN M c)
        split <;> omega
      refine pw_p (cf9_11 ⟨fun g => ?_, fun _ _ _ _ => ?_⟩)
      · rw [e_16 hr (mg_53 hA), e16, io_le (by omega) (by omega)] at g
        omega
      rw [show ((0 : Int32).toNatClampNeg) = 0 from rfl, show ((1 : Int32).toNatClampNeg) = 1 from rfl, show ((2 : Int32).toNatClampNeg) = 2 from rfl, sI2, sI2, sI2, cx_sI_s]
      have tally : ∀ (d i : Nat), i + d = t - f → ∀ F, (∀ v, v ≤ 2 → F v = Int32.ofNat (cq (fun s => decide (anL I J (ls I J) z c (q (f + s)) = v)) i)) → ∀ N, pw N X 177 44 [.ref 35, .int (Int32.ofNat f), .int (Int32.ofNat t), .long z, ez_fill, .int (if 0 < c ∧ M (bN M c) < t - f then Int32.ofNat (bN M c) else -1), .int (Int32.ofNat (if 0 < c ∧ M (bN M c) < t - f then M (bN M c) else t - f)), .int (Int32.ofNat c), .int (Int32.ofNat (f + i))] [] (ev_hp (ev_sI A 53 F) B R T) (fun r h => r = some (.int (if decide (M (bN M nc) < t - f) = true then Int32.ofNat (bN M nc) else -1)) ∧ ∃ F, h = ev_hp (ev_sI A 53 F) B R T) := by
        intro d
        induction d with
        | zero =>
          intro i hi F hF N
          obtain rfl : i = t - f := by omega
          have hp : ∀ v, v ≤ 2 → F v = Int32.ofNat (pt (anL I J (ls I J)) (seg q f t) (ls I J).length z c v) := fun v hv => by
            have h := lst_cq (p := fun k => decide (anL I J (ls I J) z c k = v)) hq
            rw [hF v hv]
            unfold pt
            rw [h]
          have hmx : mx3 (pt (anL I J (ls I J)) (seg q f t) (ls I J).length z c 0) (pt (anL I J (ls I J)) (seg q f t) (ls I J).length z c 1) (pt (anL I J (ls I J)) (seg q f t) (ls I J).length z c 2) = M c := by
            rw [← hME]
            rfl
          have hb3 := mx3_is (pt (anL I J (ls I J)) (seg q f t) (ls I J).length z c 0) (pt (anL I J (ls I J)) (seg q f t) (ls I J).length z c 1) (pt (anL I J (ls I J)) (seg q f t) (ls I J).length z c 2)
          have p0 := hp 0 (by decide)
          have p1 := hp 1 (by decide)
          have p2 := hp 2 (by decide)
          rw [hmx] at hb3
          generalize pt (anL I J (ls I J)) (seg q f t) (ls I J).length z c 0 = u0 at p0 hb3
          generalize pt (anL I J (ls I J)) (seg q f t) (ls I J).length z c 1 = u1 at p1 hb3
          generalize pt (anL I J (ls I J)) (seg q f t) (ls I J).length z c 2 = u2 at p2 hb3
          have h7 := fun N => ihc (c + 1) (by omega) F N
          obtain ⟨st1, st2⟩ := cb_step (M := M) (n := t - f) (c := c)
          generalize hm : (if 0 < c ∧ M (bN M c) < t - f then M (bN M c) else t - f) = mm at hls st1 st2 ⊢
          generalize hbb : (if 0 < c ∧ M (bN M c) < t - f then Int32.ofNat (bN M c) else -1) = bb at ⊢
          have key : ∀ u, u = M c → ∀ N, ((Int32.ofNat mm ≤ Int32.ofNat u → ((Int32.ofNat mm ≤ Int32.ofNat u → pw N X 177 11 [.ref 35, .int (Int32.ofNat f), .int (Int32.ofNat t), .long z, ez_fill, .int bb, .int (Int32.ofNat mm), .int (Int32.ofNat c + (1 : Int32))] [] (ev_hp (ev_sI A 53 F) B R T) (fun r h => r = some (.int (if decide (M (bN M nc) < t - f) = true then Int32.ofNat (bN M nc) else -1)) ∧ ∃ F, h = ev_hp (ev_sI A 53 F) B R T)) ∧ (¬ (Int32.ofNat mm ≤ Int32.ofNat u) → pw N X 177 11 [.ref 35, .int (Int32.ofNat f), .int (Int32.ofNat t), .long z, ez_fill, .int bb, .int (Int32.ofNat u), .int (Int32.ofNat c + (1 : Int32))] [] (ev_hp (ev_sI A 53 F) B R T) (fun r h => r = some (.int (if decide (M (bN M nc) < t - f) = true then Int32.ofNat (bN M nc) else -1)) ∧ ∃ F, h = ev_hp (ev_sI A 53 F) B R T)))) ∧ (¬ (Int32.ofNat mm ≤ Int32.ofNat u) → ((Int32.ofNat mm ≤ Int32.ofNat u → pw N X 177 11 [.ref 35, .int (Int32.ofNat f), .int (Int32.ofNat t), .long z, ez_fill, .int (Int32.ofNat c), .int (Int32.ofNat mm), .int (Int32.ofNat c + (1 : Int32))] [] (ev_hp (ev_sI A 53 F) B R T) (fun r h => r = some (.int (if decide (M (bN M nc) < t - f) = true then Int32.ofNat (bN M nc) else -1)) ∧ ∃ F, h = ev_hp (ev_sI A 53 F) B R T)) ∧ (¬ (Int32.ofNat mm ≤ Int32.ofNat u) → pw N X 177 11 [.ref 35, .int (Int32.ofNat f), .int (Int32.ofNat t), .long z, ez_fill, .int (Int32.ofNat c), .int (Int32.ofNat u), .int (Int32.ofNat c + (1 : Int32))] [] (ev_hp (ev_sI A 53 F) B R T) (fun r h => r = some (.int (if decide (M (bN M nc) < t - f) = true then Int32.ofNat (bN M nc) else -1)) ∧ ∃ F, h = ev_hp (ev_sI A 53 F) B R T))))) := by
            rintro u rfl N
            rw [io_1, io_le (by omega) (by omega)]
            by_cases g : M c < mm
            · obtain ⟨s1, s2⟩ := st1 g
              rw [if_pos s1, if_pos s1, s2] at h7
              exact ⟨fun u => absurd g (by omega), fun _ => ⟨fun u => absurd g (by omega), fun _ => h7 N⟩⟩
            · obtain ⟨s1, s2⟩ := st2 g
              refine ⟨fun _ => ⟨fun _ => ?_, fun u => absurd (by omega) u⟩, fun u => absurd (by omega) u⟩
              by_cases c1 : 0 < c ∧ M (bN M c) < t - f
              · rw [if_pos (s1.mpr c1), if_pos (s1.mpr c1), s2 c1] at h7
                rw [if_pos c1] at hm hbb
                rw [← hm, ← hbb]
                exact h7 N
              · rw [if_neg (fun u => c1 (s1.mp u)), if_neg (fun u => c1 (s1.mp u))] at h7
                rw [if_neg c1] at hm hbb
                rw [← hm, ← hbb]
                exact h7 N
          refine pw_p (cf9_44 ⟨fun _ => ?_, fun g => ?_⟩)
          rotate_left
          · rw [io_le (by omega) (by omega)] at g
            omega
          refine pw_p (cf9_79 ?_)
          rw [show ((0 : Int32).toNatClampNeg) = 0 from rfl, show ((1 : Int32).toNatClampNeg) = 1 from rfl, show ((2 : Int32).toNatClampNeg) = 2 from rfl, cx_sI_s, p0, p1, p2]
          refine fun _ _ => ⟨fun g _ _ => ⟨fun g2 => key u1 ?_ _, fun g2 _ => key u2 ?_ _⟩, fun g _ _ => ⟨fun g2 => key u0 ?_ _, fun g2 _ => key u2 ?_ _⟩⟩
          · rw [io_le (by omega) (by omega)] at g g2
            omega
          · rw [io_le (by omega) (by omega)] at g g2
            omega
          · rw [io_le (by omega) (by omega)] at g g2
            omega
          · rw [io_le (by omega) (by omega)] at g g2
            omega
        | succ d iht =>
          intro i hid F hF N
          have hqi := hq.1 (f + i) (by omega) (by omega)
          refine pw_p (cf9_44 ⟨fun g => ?_, fun _ _ => ?_⟩)
          · rw [io_le (by omega) (by omega)] at g
            omega
          rw [io_cl (by omega), cx_sI_n _ _ (show (59 : Nat) ≠ 53 by decide), h59 (f + i) (by omega) (by omega)]
          refine ⟨_, pe_plain hr hB (mg_53 hA) hqi hl (by omega) rfl rfl, ?_⟩
          rintro r h ⟨rfl, rfl⟩
          have hai := h2 z c (q (f + i))
          refine pw_p (cf9_68 fun _ _ => ?_)
          rw [io_cl (by omega), cx_sI_s, sI2, io_1]
          refine iht (i + 1) (by omega) _ (fun v hv => ?_) _
          rw [cq_up]
          by_cases e : v = anL I J (ls I J) z c (q (f + i))
          · rw [← e, upd_s, hF v hv, decide_eq_true rfl]
            exact io_1 _
          · rw [upd_n _ _ e, hF v hv, decide_eq_false (fun u => e u.symm)]
            rfl
      refine tally (t - f) 0 (by omega) _ (fun v hv => ?_) _
      rcases (show v = 0 ∨ v = 1 ∨ v = 2 by omega) with rfl | rfl | rfl
      · rw [upd_n _ _ (by decide), upd_n _ _ (by decide), upd_s]
        rfl
      · rw [upd_n _ _ (by decide), upd_s]
        rfl
      · rw [upd_s]
        rfl
  refine pe_of (pw_p (cf9_0 ?_))
  rw [io_sub hft]
  have h5 := cells nc 0 (by omega) (A 53) N
  rw [sI_self, if_neg (fun u => absurd u.1 (by decide)), if_neg (fun u => absurd u.1 (by decide))] at h5
  exact h5
end
end
section
/-! The reference: hardest. -/
theorem io_pred (n : Nat) : Int32.ofNat (n + 1) + (-1 : Int32) = Int32.ofNat n := by
  rw [← io_1, Int32.add_assoc, show (1 : Int32) + (-1) = 0 from by decide, Int32.add_zero]
section
variable {l nc e t f v : Nat} {q w : Nat → Nat} {an1 : Nat → Nat}
theorem sd_sz (hq : ord q l) (hft : f ≤ t) (htl : t ≤ l) (hfe : f ≤ e) (h : sdI an1 (seg q f t) w f e v) : e - f = cq (fun k => seg q f t k && decide (an1 k < v)) l ∧ e ≤ t := by
  have hl : lst w l f e := ⟨fun i i1 i2 => by
    obtain ⟨s, s1, s2, s3⟩ := seg_iff.mp (h.1 i i1 i2).1
    rw [← s3]
    exact hq.1 s (by omega), fun i j i1 i2 j1 j2 ee => h.2.1 i j i1 i2 j1 j2 ee⟩
  have hs : seg w f e = fun k => seg q f t k && decide (an1 k < v) := funext fun k => Bool.eq_iff_iff.mpr (by
    rw [Bool.and_eq_true, decide_eq_true_iff]
    constructor
    · intro h6
      obtain ⟨i, i1, i2, i3⟩ := seg_iff.mp h6
      have := h.1 i i1 i2
      rw [i3] at this
      exact this
    · rintro ⟨k1, k2⟩
      exact seg_iff.mpr (h.2.2 k k1 k2))
  have h1 := lst_sz hl
  rw [hs] at h1
  have h2 := cq_split (seg q f t) (fun k => decide (an1 k < v)) l
  have h3 := seg_sz hq htl hft
  exact ⟨h1.symm, by omega⟩
theorem sd_all (h2 : ∀ k, an1 k ≤ 2) (hq : ord q l) (hft : f ≤ t) (htl : t ≤ l) (hfe : f ≤ e) (h : sdI an1 (seg q f t) w f e 3) : e = t := by
  obtain ⟨h1, h3⟩ := sd_sz hq hft htl hfe h
  have e1 : cq (fun k => seg q f t k && decide (an1 k < 3)) l = cq (seg q f t) l := cq_c _ fun k _ => by
    rw [decide_eq_true (show an1 k < 3 by have := h2 k; omega), Bool.and_true]
  rw [e1, seg_sz hq htl hft] at h1
  omega
end
section
variable {N : Nat} {X : ez_X} {I A : Nat → Nat → Int32} {J B : Nat → Nat → Int64} {R : Nat → Nat} {T : List ez_C} {x y : Int32} {z : Int64}
theorem mg_w {F : Nat → Int32} {a : Nat} (h1 : a ≠ 35) (h2 : a ≠ 41) (h : mg I J A B) : mg I J (ev_sI A a F) B := mg_d h (fun k _ => by rw [cx_sI_n _ _ (Ne.symm h1)]) (cx_sI_n _ _ (Ne.symm h2)) rfl
theorem mg_j {F : Nat → Int64} (h : mg I J A B) : mg I J A (ev_sJ B 56 F) := mg_d h (fun _ _ => rfl) rfl (cx_sJ_n _ _ (by decide))
noncomputable def fn_Q (I : Nat → Nat → Int32) (J : Nat → Nat → Int64) (R : Nat → Nat) (T : List ez_C) : pw_Q := fun r h => r = none ∧ ∃ A B, h = ev_hp A B R T ∧ mg I J A B ∧ ∀ k, k < (ls I J).length → A 57 k = Int32.ofNat (ndN I J k)
/-- the rows of the heaps -/
noncomputable def hrw (n : Nat) (hf ht : Nat → Nat) (hz : Nat → Int64) (A : Nat → Nat → Int32) (B : Nat → Nat → Int64) : Prop := ∀ j, j < n → A 54 j = Int32.ofNat (hf j) ∧ A 55 j = Int32.ofNat (ht j) ∧ B 56 j = hz j
theorem hrw_w {n : Nat} {hf ht : Nat → Nat} {hz : Nat → Int64} {F : Nat → Int32} {a : Nat} (h1 : a ≠ 54) (h2 : a ≠ 55) (h : hrw n hf ht hz A B) : hrw n hf ht hz (ev_sI A a F) B := fun j hj => by
  rw [cx_sI_n _ _ (Ne.symm h1), cx_sI_n _ _ (Ne.symm h2)]
  exact h j hj
theorem pe_findNeeds (hr : rl I J) (hB : cx_hB cx_B0 I) (hA : mg I J A B) (hl : (ls I J).length ≤ 400) : pe N X 189 [.ref 35] (ev_hp A B R T) (fn_Q I J R T) := by
  obtain ⟨nc, e16, n1, n2⟩ := b_16 hB
  have enc : (I 1 6).toInt.toNat = nc := by
    rw [e16, io_ti (by omega)]
    exact Int.toNat_natCast nc
  have hndN : ∀ k, ndN I J k = nd (anL I J (ls I J)) (ls I J).length nc (seg (fun i => i) 0 (ls I J).length) 0 k := fun k => by
    unfold ndN
    rw [enc]
  have h2 := anL_2 (I := I) (J := J) (L := ls I J)
  have main : ∀ (N n : Nat) A B q hf ht hz D, mg I J A B → n ≤ 1210 → ord q (ls I J).length → (∀ i, i < (ls I J).length → A 59 i = Int32.ofNat (q i)) → (∀ k, k < (ls I J).length → A 57 k = Int32.ofNat (D k)) → hrw n hf ht hz A B → hsI (anL I J (ls I J)) (ls I J).length nc (ndN I J) n q hf ht hz D 0 0 → pw N X 189 56 [.ref 35, .int (Int32.ofNat n)] [] (ev_hp A B R T) (fn_Q I J R T) := by
    intro N
    induction N with
    | zero => exact fun _ _ _ _ _ _ _ _ _ _ _ _ _ _ _ => pw_0
    | succ N ih =>
      intro n A B q hf ht hz D hA hn hq h59 h57 hrows hS
      refine fn9_56 ⟨fun g => ?_, fun g _ _ _ => ?_⟩
      · rw [show (0 : Int32) = Int32.ofNat 0 from rfl, io_le (by omega) (by omega)] at g
        obtain rfl : n = 0 := by omega
        refine ⟨rfl, A, B, rfl, hA, fun k hk => ?_⟩
        obtain ⟨i, i1, i2⟩ := hq.2.2 k hk
        have h6 := hS.2.2.2 i i1 (fun j hj => absurd hj (Nat.not_lt_zero j)) (by omega)
        rw [i2] at h6
        rw [h57 k hk, h6]
      · cases n with
        | zero => exact absurd (Int32.le_refl _) g
        | succ n =>
          obtain ⟨e54, e55, e56⟩ := hrows n (Nat.lt_succ_self n)
          obtain ⟨b1, b2, -⟩ := hS.1 n (Nat.lt_succ_self n)
          rw [io_pred, io_cl (by omega), e54, e55, e56]
          refine ⟨_, pe_callFor hr hB hA e16 ⟨n1, n2⟩ hl b1 b2 (ord_lst hq b2) (fun i _ i2 => h59 i (by omega)) rfl rfl, ?_⟩
          rintro r h ⟨rfl, F, rfl⟩
          have k59 : ∀ i, i < (ls I J).length → ev_sI A 53 F 59 i = Int32.ofNat (q i) := fun i hi => by
            rw [cx_sI_n _ _ (show (59 : Nat) ≠ 53 by decide)]
            exact h59 i hi
          have k57 : ∀ k, k < (ls I J).length → ev_sI A 53 F 57 k = Int32.ofNat (D k) := fun k hk => by
            rw [cx_sI_n _ _ (show (57 : Nat) ≠ 53 by decide)]
            exact h57 k hk
          have krw : hrw n hf ht hz (ev_sI A 53 F) B := hrw_w (by decide) (by decide) (fun j hj => hrows j (by omega))
          by_cases hs : spl (anL I J (ls I J)) (seg q (hf n) (ht n)) (ls I J).length nc (hz n) = true
          rotate_left
          · rw [if_neg hs]
            exact pw_p (fn9_93 ⟨fun _ => ih n _ B q hf ht hz D (mg_53 hA) (by omega) hq k59 k57 krw (hs_pop h2 hS (Bool.eq_false_iff.mpr hs)), fun g => absurd rfl g⟩)
          rw [if_pos hs]
          have hop := hs_open hS hq
          have hbl : bst (anL I J (ls I J)) (seg q (hf n) (ht n)) (ls I J).length nc (hz n) < nc := bN_lt _ nc (by omega)
          have hgrp := hS.2.2.1 n (Nat.lt_succ_self n)
          generalize hbE : bst (anL I J (ls I J)) (seg q (hf n) (ht n)) (ls I J).length nc (hz n) = b at hbl
          generalize hfE : hf n = f at *
          generalize htE : ht n = t at *
          generalize hzE : hz n = z at *
          have hbm : ¬ Int32.ofNat b = -1 := fun ee => by
            have e2 := congrArg Int32.toInt ee
            rw [io_ti (by omega), show ((-1 : Int32)).toInt = -1 from by decide] at e2
            omega
          have h2b := h2 z b
          -- the group in its new order, and its needs
          have copy : ∀ (w : Nat → Nat) (n' : Nat) hf' ht' hz', n' ≤ 1210 → sdI (anL I J (ls I J) z b) (seg q f t) w f t 3 → hsI (anL I J (ls I J)) (ls I J).length nc (ndN I J) n' (mixq q w f t) hf' ht' hz' (fun k => if seg q f t k = true then D k + 1 else D k) 0 0 → ∀ (d i : Nat), f + i + d = t → ∀ A B, mg I J A B → hrw n' hf' ht' hz' A B → (∀ s, f ≤ s → s < t → A 58 s = Int32.ofNat (w s)) → (∀ s, s < (ls I J).length → A 59 s = Int32.ofNat (mixq q w f (f + i) s)) → (∀ k, k < (ls I J).length → A 57 k = Int32.ofNat (if seg w f (f + i) k = true then D k + 1 else D k)) → pw N X 189 217 [.ref 35, .int (Int32.ofNat n'), .int (Int32.ofNat f), .int (Int32.ofNat t), .long z, ez_fill, .int (Int32.ofNat b), .int (Int32.ofNat t), .int (Int32.ofNat (f + i))] [] (ev_hp A B R T) (fn_Q I J R T) := by
            intro w n' hf' ht' hz' hn' hsd hS' d
            obtain ⟨o1, o2⟩ := sd_ord h2b hq b1 b2 hsd
            induction d with
            | zero =>
              intro i hi A B hA hrw' h58 h59 h57
              refine pw_p (fn9_217 ⟨fun _ => ih n' A B (mixq q w f t) hf' ht' hz' (fun k => if seg q f t k = true then D k + 1 else D k) hA hn' o1 ?_ ?_ hrw' hS', fun g => ?_⟩)
              · rw [← hi]
                exact h59
              · rw [← o2, ← hi]
                exact h57
              · rw [io_le (by omega) (by omega)] at g
                omega
            | succ d ihd =>
              intro i hid A B hA hrw' h58 h59 h57
              have hwl : w (f + i) < (ls I J).length := by
                obtain ⟨s, s1, s2, s3⟩ := seg_iff.mp (hsd.1 (f + i) (by omega) (by omega)).1
                rw [← s3]
                exact hq.1 s (by omega)
              have hno : seg w f (f + i) (w (f + i)) = false := by
                cases hb : seg w f (f + i) (w (f + i))
                · rfl
                · obtain ⟨s, s1, s2, s3⟩ := seg_iff.mp hb
                  have := hsd.2.1 s (f + i) s1 (by omega) (by omega) (by omega) s3
                  omega
              refine pw_p (fn9_217 ⟨fun g => ?_, fun _ _ _ _ _ _ => ?_⟩)
              · rw [io_le (by omega) (by omega)] at g
                omega
              rw [io_cl (by omega), h58 (f + i) (by omega) (by omega), upd_s, io_cl (by omega), h57 _ hwl, hno, if_neg (by decide), io_1, io_1]
              refine ihd (i + 1) (by omega) _ B (mg_w (by decide) (by decide) (mg_59 hA)) (hrw_w (by decide) (by decide) (hrw_w (by decide) (by decide) hrw')) (fun s s1 s2 => ?_) (fun s hs => ?_) (fun k hk => ?_)
              · rw [cx_sI_n _ _ (show (58 : Nat) ≠ 57 by decide), cx_sI_n _ _ (show (58 : Nat) ≠ 59 by decide)]
                exact h58 s s1 s2
              · rw [cx_sI_n _ _ (show (59 : Nat) ≠ 57 by decide), cx_sI_s]
                by_cases c : s = f + i
                · rw [c, upd_s, mx_in (by omega)]
                · rw [upd_n _ _ c, h59 s hs]
                  by_cases c2 : f ≤ s ∧ s < f + i
                  · rw [mx_in c2, mx_in (by omega)]
                  · rw [mx_out c2, mx_out (by omega)]
              · rw [cx_sI_s]
                by_cases c : k = w (f + i)
                · rw [c, upd_s, if_pos (seg_in (by omega) (by omega))]
                · rw [upd_n _ _ c, h57 k hk]
                  have es : seg w f (f + (i + 1)) k = seg w f (f + i) k := Bool.eq_iff_iff.mpr (by
                    rw [seg_iff, seg_iff]
                    constructor
                    · rintro ⟨s, s1, s2, s3⟩
                      by_cases ej : s = f + i
                      · rw [ej] at s3
                        exact absurd s3.symm c
                      · exact ⟨s, s1, by omega, s3⟩
                    · rintro ⟨s, s1, s2, s3⟩
                      exact ⟨s, s1, by omega, s3⟩)
                  rw [es]
          -- sorted by what they say
          have sort : ∀ (dv v : Nat), v + dv = 3 → ∀ (n' : Nat) A B hf' ht' hz' w e, mg I J A B → n' ≤ 1210 → (∀ i, i < (ls I J).length → A 59 i = Int32.ofNat (q i)) → (∀ k, k < (ls I J).length → A 57 k = Int32.ofNat (D k)) → hrw n' hf' ht' hz' A B → f ≤ e → (∀ s, f ≤ s → s < e → A 58 s = Int32.ofNat (w s)) → sdI (anL I J (ls I J) z b) (seg q f t) w f e v → hsI (anL I J (ls I J)) (ls I J).length nc (ndN I J) n' (mixq q w f e) hf' ht' hz' (fun k => if seg q f t k = true then D k + 1 else D k) e t → pw N X 189 107 [.ref 35, .int (Int32.ofNat n'), .int (Int32.ofNat f), .int (Int32.ofNat t), .long z, ez_fill, .int (Int32.ofNat b), .int (Int32.ofNat e), .int (Int32.ofNat v)] [] (ev_hp A B R T) (fn_Q I J R T) := by
            intro dv
            induction dv with
            | zero =>
              intro v hv n' A B hf' ht' hz' w e hA hn' h59 h57 hrw' hfe h58 hsd hS'
              obtain rfl : v = 3 := by omega
              obtain rfl := sd_all h2b hq b1 b2 hfe hsd
              refine pw_p (fn9_107 ⟨fun _ => copy w n' hf' ht' hz' hn' hsd (hs_close hS') (e - f) 0 (by omega) A B hA hrw' h58 (fun s hs => ?_) (fun k hk => ?_), fun g => absurd (Int32.le_refl _) g⟩)
              · rw [mx_out (by omega)]
                exact h59 s hs
              · have es : seg w f (f + 0) k = false := by
                  cases hb : seg w f (f + 0) k
                  · rfl
                  · obtain ⟨s, s1, s2, s3⟩ := seg_iff.mp hb
                    omega
                rw [es, if_neg (by decide)]
                exact h57 k hk
            | succ dv ihv =>
              intro v hv n' A B hf' ht' hz' w e hA hn' h59 h57 hrw' hfe h58 hsd hS'
              have het := (sd_sz hq b1 b2 hfe hsd).2
              refine pw_p (fn9_107 ⟨fun g => ?_, fun _ => ?_⟩)
              · rw [show (3 : Int32) = Int32.ofNat 3 from rfl, io_le (by omega) (by omega)] at g
                omega
              have inner : ∀ (d i : Nat), i + d = t - f → ∀ (A : Nat → Nat → Int32) (j : Nat) (w' : Nat → Nat), mg I J A B → (∀ i, i < (ls I J).length → A 59 i = Int32.ofNat (q i)) → (∀ k, k < (ls I J).length → A 57 k = Int32.ofNat (D k)) → hrw n' hf' ht' hz' A B → (∀ s, f ≤ s → s < e + j → A 58 s = Int32.ofNat (w' s)) → (∀ s, s < e → w' s = w s) → sou (anL I J (ls I J) z b) v (fun s => q (f + s)) (fun s => w' (e + s)) (ls I J).length j i → pw N X 189 120 [.ref 35, .int (Int32.ofNat n'), .int (Int32.ofNat f), .int (Int32.ofNat t), .long z, ez_fill, .int (Int32.ofNat b), .int (Int32.ofNat (e + j)), .int (Int32.ofNat v), .int (Int32.ofNat e), .int (Int32.ofNat (f + i))] [] (ev_hp A B R T) (fn_Q I J R T) := by
                intro d
                induction d with
                | zero =>
                  intro i hi A j w' hA h59 h57 hrw' h58 hww hso
                  obtain rfl : i = t - f := by omega
                  have hseg : seg w' e (e + j) = fun k => seg q f t k && decide (anL I J (ls I J) z b k = v) := by
                    have h6 := sou_seg hso
                    rw [seg_sh, seg_sh, show f + (t - f) = t by omega] at h6
                    exact h6
                  have hlw := lst_sh.mp hso.2.1
                  have hsd' := sd_up hsd hfe hww hlw hseg
                  have hyt := (sd_sz hq b1 b2 (by omega) hsd').2
                  have hSc : hsI (anL I J (ls I J)) (ls I J).length nc (ndN I J) n' (mixq q w' f (e + j)) hf' ht' hz' (fun k => if seg q f t k = true then D k + 1 else D k) e t := hs_c hS' (fun i hi => by
                    by_cases c : f ≤ i ∧ i < e
                    · rw [mx_in c, mx_in (by omega)]
                      exact hww i c.2
                    · rw [mx_out c, mx_out (by omega)])
                  refine pw_p (fn9_120 ⟨fun _ => ?_, fun g => ?_⟩)
                  rotate_left
                  · rw [io_le (by omega) (by omega)] at g
                    omega
                  refine pw_p (fn9_169 ?_)
                  rw [io_le (by omega) (by omega)]
                  refine ⟨fun g => ?_, fun g g1 _ _ => ?_⟩
                  · obtain rfl : j = 0 := by omega
                    rw [io_1]
                    exact ihv (v + 1) (by omega) n' A B hf' ht' hz' w' (e + 0) hA hn' h59 h57 hrw' hfe h58 hsd' hSc
                  · have hn1 := ix_lt (by omega) g1
                    rw [io_cl (by omega), io_1, io_1]
                    have hc1 : (1 : Int64) <<< ((Int32.ofNat b).toInt64 &&& (63 : Int64)) = cell1 b := rfl
                    rw [hc1]
                    refine ihv (v + 1) (by omega) (n' + 1) _ _ (fup hf' n' e) (fup ht' n' (e + j)) (fup hz' n' (z ||| cell1 b)) w' (e + j) (mg_j (mg_w (by decide) (by decide) (mg_w (by decide) (by decide) hA))) (by omega) (fun i hi => ?_) (fun k hk => ?_) (fun s hs => ?_) (by omega) (fun s s1 s2 => ?_) hsd' (hs_push hSc (by omega) hyt b2 fun i i1 i2 => ?_)
                    · rw [cx_sI_n _ _ (show (59 : Nat) ≠ 55 by decide), cx_sI_n _ _ (show (59 : Nat) ≠ 54 by decide)]
                      exact h59 i hi
                    · rw [cx_sI_n _ _ (show (57 : Nat) ≠ 55 by decide), cx_sI_n _ _ (show (57 : Nat) ≠ 54 by decide)]
                      exact h57 k hk
                    · rw [cx_sI_n _ _ (show (54 : Nat) ≠ 55 by decide), cx_sI_s, cx_sI_s, cx_sJ_s]
                      by_cases c : s = n'
                      · rw [c, upd_s, upd_s, pv_s, fup_s, fup_s, fup_s]
                        exact ⟨rfl, rfl, rfl⟩
                      · rw [upd_n _ _ c, upd_n _ _ c, pv_n _ _ c, fup_n _ _ c, fup_n _ _ c, fup_n _ _ c]
                        exact hrw' s (by omega)
                    · rw [cx_sI_n _ _ (show (58 : Nat) ≠ 55 by decide), cx_sI_n _ _ (show (58 : Nat) ≠ 54 by decide)]
                      exact h58 s s1 s2
                    · have hin : seg w' e (e + j) (w' i) = true := seg_in i1 i2
                      rw [hseg] at hin
                      obtain ⟨k1, k2⟩ := Bool.and_eq_true_iff.mp hin
                      obtain ⟨s, s1, s2, s3⟩ := seg_iff.mp k1
                      have h6 := hgrp s s1 s2
                      rw [s3] at h6
                      have e3 : seg (mixq q w' f (e + j)) e (e + j) = nxt (anL I J (ls I J)) (seg q f t) (ls I J).length nc z v := by
                        rw [seg_c (q := w') (fun s s1 s2 => mx_in (by omega)), hseg]
                        unfold nxt
                        rw [hbE]
                      rw [mx_in (show f ≤ i ∧ i < e + j by omega), e3]
                      show ndN I J (w' i) = (if seg q f t (w' i) = true then D (w' i) + 1 else D (w' i)) + _
                      rw [if_pos k1, h6, nd_eq h2 (seg q f t) z (w' i), if_pos hs, hbE, of_decide_eq_true k2]
                      omega
                | succ d ih2 =>
                  intro i hid A j w' hA h59 h57 hrw' h58 hww hso
                  have hqi := hq.1 (f + i) (by omega)
                  have hji := hso.1
                  have hai := h2 z b (q (f + i))
                  refine pw_p (fn9_120 ⟨fun g => ?_, fun _ _ => ?_⟩)
                  · rw [io_le (by omega) (by omega)] at g
                    omega
                  rw [io_cl (by omega), h59 (f + i) (by omega)]
                  refine ⟨_, pe_plain hr hB hA hqi hl (by omega) rfl rfl, ?_⟩
                  rintro r h ⟨rfl, rfl⟩
                  refine pw_p (fn9_141 ?_)
                  rw [io_eq (by omega) (by omega), io_1, io_1, io_cl (by omega), io_cl (by omega), h59 (f + i) (by omega)]
                  refine ⟨fun g => ih2 (i + 1) (by omega) A j w' hA h59 h57 hrw' h58 hww (sou_no hso g), fun g _ _ => ?_⟩
                  have hsy := sou_yes hso (lst_sh.mpr (show lst q (ls I J).length f (f + (t - f)) by rw [show f + (t - f) = t by omega]; exact ord_lst hq b2)) (show i < t - f by omega) (Classical.not_not.mp g)
                  have ew : (fun s => if s = j then (fun s => q (f + s)) i else (fun s => w' (e + s)) s) = fun s => fup w' (e + j) (q (f + i)) (e + s) := funext fun s => by
                    show (if s = j then q (f + i) else w' (e + s)) = _
                    by_cases c : s = j
                    · rw [if_pos c, c, fup_s]
                    · rw [if_neg c, fup_n _ _ (by omega)]
                  rw [ew] at hsy
                  refine ih2 (i + 1) (by omega) _ (j + 1) (fup w' (e + j) (q (f + i))) (mg_w (by decide) (by decide) hA) (fun s hs => ?_) (fun k hk => ?_) (hrw_w (by decide) (by decide) hrw') (fun s s1 s2 => ?_) (fun s hs => ?_) hsy
                  · rw [cx_sI_n _ _ (show (59 : Nat) ≠ 58 by decide)]
                    exact h59 s hs
                  · rw [cx_sI_n _ _ (show (57 : Nat) ≠ 58 by decide)]
                    exact h57 k hk
                  · rw [cx_sI_s]
                    by_cases c : s = e + j
                    · rw [c, upd_s, fup_s]
                    · rw [upd_n _ _ c, fup_n _ _ c]
                      exact h58 s s1 (by omega)
                  · rw [fup_n _ _ (by omega)]
                    exact hww s hs
              exact inner (t - f) 0 (by omega) A 0 w hA h59 h57 hrw' h58 (fun _ _ => rfl) ⟨Nat.le_refl _, ⟨fun s _ hs => absurd hs (Nat.not_lt_zero s), fun s _ _ hs => absurd hs (Nat.not_lt_zero s)⟩, fun u => ⟨fun ⟨s, hs, _⟩ => absurd hs (Nat.not_lt_zero s), fun ⟨s, hs, _⟩ => absurd hs (Nat.not_lt_zero s)⟩⟩
          refine pw_p (fn9_93 ⟨fun g => absurd g hbm, fun _ => ?_⟩)
          refine sort 3 0 rfl n _ B hf ht hz q f (mg_53 hA) (by omega) k59 k57 krw (Nat.le_refl _) (fun s s1 s2 => absurd s2 (by omega)) ⟨fun i i1 i2 => absurd i2 (by omega), fun i _ i1 i2 => absurd i2 (by omega), fun k _ hk => absurd hk (Nat.not_lt_zero _)⟩ (hs_c hop (fun i hi => ?_))
          exact mx_out (by omega)
  have start : ∀ (d i : Nat), i + d = (ls I J).length → ∀ A, mg I J A B → (∀ s, s < i → A 59 s = Int32.ofNat s ∧ A 57 s = 0) → ∀ N, pw N X 189 2 [.ref 35, .int (Int32.ofNat i)] [] (ev_hp A B R T) (fn_Q I J R T) := by
    intro d
    induction d with
    | zero =>
      intro i hi A hA h5 N
      obtain rfl : i = (ls I J).length := by omega
      refine pw_p (fn9_2 ⟨fun _ _ _ _ => ?_, fun g => ?_⟩)
      rotate_left
      · rw [hA.2.1] at g
        exact absurd (Int32.le_refl _) g
      rw [show ((0 : Int32).toNatClampNeg) = 0 from rfl, hA.2.1]
      refine main N 1 _ _ (fun i => i) (fun _ => 0) (fun _ => (ls I J).length) (fun _ => 0) (fun _ => 0) (mg_j (mg_w (by decide) (by decide) (mg_w (by decide) (by decide) hA))) (by decide) (ord_id _) (fun s hs => ?_) (fun k hk => ?_) (fun j hj => ?_) ⟨fun j hj => ⟨Nat.zero_le _, Nat.le_refl _, Or.inr (Nat.le_refl _)⟩, fun j j' hj hj' hne => absurd hne (by omega), fun j hj i i1 i2 => ?_, fun i hi ho _ => ?_⟩
      · rw [cx_sI_n _ _ (show (59 : Nat) ≠ 55 by decide), cx_sI_n _ _ (show (59 : Nat) ≠ 54 by decide)]
        exact (h5 s hs).1
      · rw [cx_sI_n _ _ (show (57 : Nat) ≠ 55 by decide), cx_sI_n _ _ (show (57 : Nat) ≠ 54 by decide)]
        exact (h5 k hk).2
      · obtain rfl : j = 0 := by omega
        rw [cx_sI_n _ _ (show (54 : Nat) ≠ 55 by decide), cx_sI_s, cx_sI_s, cx_sJ_s, upd_s, upd_s, pv_s]
        exact ⟨rfl, rfl, rfl⟩
      · rw [hndN]
        exact (Nat.zero_add _).symm
      · have h7 : i < 0 ∨ (ls I J).length ≤ i := ho 0 (by decide)
        omega
    | succ d ih =>
      intro i hid A hA h5 N
      refine pw_p (fn9_2 ⟨fun g => ?_, fun _ _ _ => ?_⟩)
      · rw [hA.2.1, io_le (by omega) (by omega)] at g
        omega
      rw [io_cl (by omega), io_1]
      refine ih (i + 1) (by omega) _ ?_ (fun s hs => ?_) _
      · exact mg_w (by decide) (by decide) (mg_59 hA)
      rw [cx_sI_n _ _ (show (59 : Nat) ≠ 57 by decide), cx_sI_s, cx_sI_s]
      by_cases c : s = i
      · rw [c, upd_s, upd_s]
        exact ⟨rfl, rfl⟩
      · rw [upd_n _ _ c, upd_n _ _ c]
        exact h5 s (by omega)
  exact pe_of (pw_p (fn9_0 (start (ls I J).length 0 (by omega) A hA (fun s hs => absurd hs (Nat.not_lt_zero s)) _)))
theorem pe_mhardest (hr : rl I J) (hm : mk I J) (hB : cx_hB cx_B0 I) : pe N X 196 [.ref 35, .int x] (ev_hp I J R T) (fun r _ => r = some (.int (v_hardest I J x))) := by
  refine pe_of (pw_p (hm_0 ?_))
  rw [il_02]
  refine ⟨fun hx => ⟨_, pe_mcr hr hm hB _, ?_⟩, fun hx => ?_⟩
  rotate_left
  · unfold v_hardest
    rw [if_pos (Classical.not_not.mp hx)]
  rintro r h ⟨A, B, rfl, ⟨h1, rfl⟩ | ⟨h1, rfl, hA⟩⟩
  · refine pw_p (hm_19 ⟨fun z => absurd z (by decide), fun _ => ?_⟩)
    unfold v_hardest
    rw [if_neg hx, if_neg h1]
  · have h400 := h1.2
    refine pw_p (hm_19 ⟨fun _ => ⟨_, pe_findNeeds hr hB hA h400, ?_⟩, fun z => absurd rfl z⟩)
    rintro r h ⟨rfl, A, B, rfl, hA, h57⟩
    refine pw_p (hm_36 ?_)
    have hF : ∀ k, ndN I J k ≤ 400 := fun k => by
      have := ndN_le (I := I) (J := J) k
      omega
    have loop : ∀ (d k : Nat), k + d = (ls I J).length → ∀ N, pw N X 196 39 [.ref 35, .int x, .int (if k = 0 then -1 else Int32.ofNat (mnN (ndN I J) k)), .int (if k = 0 then -1 else Int32.ofNat (ndN I J (mnN (ndN I J) k))), .int (Int32.ofNat (suN (ndN I J) k)), .int (Int32.ofNat k)] [] (ev_hp A B R T) (fun r _ => r = some (.int (v_hardest I J x))) := by
      intro d
      induction d with
      | zero =>
        intro k hkd N
        obtain rfl : k = (ls I J).length := by omega
        refine pw_p (hm_39 ⟨fun _ => pw_p (hm_96 ?_), fun g => ?_⟩)
        rotate_left
        · rw [hA.2.1] at g
          exact absurd (Int32.le_refl _) g
        have hv : v_hardest I J x = (if (ls I J).length = 0 then -1 else if x = 2 then Int32.ofNat (suN (ndN I J) (ls I J).length) else if x = 0 then Int32.ofNat (mnN (ndN I J) (ls I J).length) else Int32.ofNat (ndN I J (mnN (ndN I J) (ls I J).length))) := by
          unfold v_hardest
          rw [if_neg hx, if_pos h1]
        rw [hv, hA.2.1, show (0 : Int32) = Int32.ofNat 0 from rfl]
        have hx3 : ∃ u : Nat, x = Int32.ofNat u ∧ u ≤ 2 := by
          obtain ⟨u, rfl, -, u2⟩ := wi_nat (u := 0) (v := 2) (by omega) hx (by omega)
          exact ⟨u, rfl, u2⟩
        obtain ⟨u, rfl, hu⟩ := hx3
        by_cases hl0 : (ls I J).length = 0
        · rw [if_pos hl0, if_pos hl0, if_pos hl0, hl0]
          exact ⟨fun _ => ⟨fun _ => ⟨fun g => absurd rfl g, fun _ => rfl⟩, fun _ => rfl⟩, fun _ => rfl⟩
        · rw [if_neg hl0, if_neg hl0, if_neg hl0]
          rcases (show u = 0 ∨ u = 1 ∨ u = 2 by omega) with rfl | rfl | rfl
          · exact ⟨fun g => absurd rfl g, fun _ => rfl⟩
          · exact ⟨fun _ => ⟨fun g => absurd rfl g, fun _ => rfl⟩, fun g => absurd (by decide) g⟩
          · refine ⟨fun _ => ⟨fun _ => ⟨fun _ => rfl, fun g => ?_⟩, fun g => absurd (by decide) g⟩, fun g => absurd (by decide) g⟩
            have g := Classical.not_not.mp g
            rw [io_eq (by omega) (by omega)] at g
            exact absurd g hl0
      | succ d ih =>
        intro k hkd N
        have hk : k < (ls I J).length := by omega
        have h6 := fun N => ih (k + 1) (by omega) N
        have hFk := hF k
        have hFm := hF (mnN (ndN I J) k)
        have em : mnN (ndN I J) (k + 1) = if ndN I J (mnN (ndN I J) k) < ndN I J k then k else mnN (ndN I J) k := rfl
        have eu : suN (ndN I J) (k + 1) = suN (ndN I J) k + ndN I J k := rfl
        rw [if_neg (Nat.succ_ne_zero k), if_neg (Nat.succ_ne_zero k), eu] at h6
        refine pw_p (hm_39 ⟨fun g => ?_, fun _ _ => ?_⟩)
        · rw [hA.2.1, io_le (by omega) (by omega)] at g
          omega
        rw [io_cl (by omega), h57 k hk, io_add, io_1]
        by_cases hk0 : k = 0
        · have e1 : mnN (ndN I J) (k + 1) = k := by
            rw [em]
            subst hk0
            split <;> rfl
          rw [e1] at h6
          rw [if_pos hk0, if_pos hk0]
          have hgt : ¬ Int32.ofNat (ndN I J k) ≤ -1 := fun z => by
            rw [Int32.le_iff_toInt_le, io_ti (by omega), show ((-1 : Int32)).toInt = -1 from by decide] at z
            omega
          exact ⟨fun g => absurd g hgt, fun _ => ⟨fun g => absurd g hgt, fun _ => h6 _⟩⟩
        · rw [if_neg hk0, if_neg hk0, io_le (by omega) (by omega)]
          by_cases g : ndN I J (mnN (ndN I J) k) < ndN I J k
          · rw [em, if_pos g] at h6
            exact ⟨fun z => absurd z (by omega), fun _ => ⟨fun z => absurd z (by omega), fun _ => h6 _⟩⟩
          · rw [em, if_neg g] at h6
            exact ⟨fun _ => ⟨fun _ => h6 _, fun z => absurd (by omega) z⟩, fun z => absurd (by omega) z⟩
    exact loop (ls I J).length 0 (by omega) _
end
end
section
/-! Relation 5: what the caller holds. -/
/-- the cells on which needs rest -/
abbrev nb_K : Type := Int32 × (Nat → Int32) × (Nat → Int64) × Int32 × Int32 × Int32 × Int32 × Int32 × Int32 × Int64 × Int64 × Int64
noncomputable def nb (I : Nat → Nat → Int32) (J : Nat → Nat → Int64) : nb_K := (I 3 3, I 5, J 4, I 2 0, I 2 1, I 1 3, I 1 4, I 1 5, I 1 6, J 1 7, J 1 8, J 1 9)
noncomputable def nb_l : List (Nat × Nat) := [(3, 3), (2, 0), (2, 1), (1, 3), (1, 4), (1, 5), (1, 6), (1, 7), (1, 8), (1, 9), (22, 8)]
noncomputable def nb_fx (md : List (Nat × Nat)) : Bool := (nb_l.all fun e => !cx_may md e.1 e.2) && ([5, 4, 28].all fun a => fr_no md a)
section
variable {N : Nat} {X : ez_X} {I I' A : Nat → Nat → Int32} {J J' B : Nat → Nat → Int64} {R R' : Nat → Nat} {T T' : List ez_C} {x y : Int32}
theorem nb_b4 (e : b4 I' J' = b4 I J) : nb I' J' = nb I J := by
  unfold b4 at e
  simp only [Prod.mk.injEq] at e
  obtain ⟨e81, e33, e5, e4, e20, e21, e9, e11, e12, e13, e14, e15, e16, e17, e18, e19⟩ := e
  unfold nb
  rw [e33, e5, e4, e20, e21, e13, e14, e15, e16, e17, e18, e19]
theorem nb_use (e : nb I' J' = nb I J) : ls I' J' = ls I J ∧ ∀ k, ndN I' J' k = ndN I J k := by
  unfold nb at e
  simp only [Prod.mk.injEq] at e
  obtain ⟨e33, e5, e4, e20, e21, e13, e14, e15, e16, e17, e18, e19⟩ := e
  have hl : ls I' J' = ls I J := ls_eq e33 e5 e4 e13 e15 e16 e17 e18 e19 e20
  have hs : ∀ t, ly_s I' J' t = ly_s I J t := fun t => funext fun s => by
    unfold ly_s
    rw [e33, e4]
  have ha : ∀ L, anL I' J' L = anL I J L := fun L => funext fun z => funext fun c => funext fun k => by
    unfold anL snk ly_w
    rw [hs, e21]
  refine ⟨hl, fun k => ?_⟩
  unfold ndN
  rw [hl, ha, e16]
theorem d6_b (e : nb I' J' = nb I J) (h8 : I' 22 8 = I 22 8) (h28 : I' 28 = I 28) (h : d6 I J) : d6 I' J' := by
  obtain ⟨e1, e2⟩ := nb_use e
  unfold d6
  rw [h8, h28, e1]
  simp only [e2]
  exact h
theorem d6_fr {md : List (Nat × Nat)} (h : nb_fx md = true) (hf : cx_fr md I J I' J') (hd : d6 I J) : d6 I' J' := by
  obtain ⟨h1, h2⟩ := Bool.and_eq_true_iff.mp h
  have f : ∀ a k, (a, k) ∈ nb_l → I' a k = I a k ∧ J' a k = J a k := fun a k hm => hf a k (by
    have := List.all_eq_true.mp h1 (a, k) hm
    simpa using this)
  have g : ∀ a, a ∈ [5, 4, 28] → fr_no md a = true := fun a hm => List.all_eq_true.mp h2 a hm
  refine d6_b ?_ (f 22 8 (by decide)).1 (fr_I (g 28 (by decide)) hf) hd
  unfold nb
  rw [(f 3 3 (by decide)).1, (f 2 0 (by decide)).1, (f 2 1 (by decide)).1, (f 1 3 (by decide)).1, (f 1 4 (by decide)).1, (f 1 5 (by decide)).1, (f 1 6 (by decide)).1, (f 1 7 (by decide)).2, (f 1 8 (by decide)).2, (f 1 9 (by decide)).2, fr_I (g 5 (by decide)) hf, fr_J (g 4 (by decide)) hf]
theorem d6_cells (hs : ∀ p, p < 35 → (ev_hp I' J' R' T')[p]? = (ev_hp I J R T)[p]?) (h : d6 I J) : d6 I' J' := by
  refine d6_b (nb_b4 (b4_hp fun p hp => hs p (by omega)).1) ?_ ?_ h
  · exact h1_f (n := 0) (show cx_Ds[22]? = some (0 + 2, _, _) from rfl) rfl (hs 22 (by decide))
  · exact h1_row (show cx_Ds[28]? = some (0, _, _) from rfl) (hs 28 (by decide))
theorem d6_hp (e : ev_hp I J R T = ev_hp I' J' R' T') (h : d6 I J) : d6 I' J' := d6_cells (fun p _ => by rw [e]) h
/-- behind a call that forgets needs, or changes nothing that they rest on -/
noncomputable def d6_X (I : Nat → Nat → Int32) (J : Nat → Nat → Int64) (R : Nat → Nat) (T : List ez_C) (h : ez_H) : Prop := ∃ A B, h = ev_hp A B R T ∧ (A 22 8 = 0 ∨ (A = I ∧ B = J) ∨ (A 22 8 = I 22 8 ∧ A 28 = I 28 ∧ nb A B = nb I J))
theorem d6_x {h : ez_H} (hx : d6_X I J R T h) (e : h = ev_hp I' J' R' T') (hd : d6 I J) : d6 I' J' := by
  obtain ⟨A, B, e1, hx⟩ := hx
  refine d6_hp (e1.symm.trans e) ?_
  rcases hx with h1 | ⟨rfl, rfl⟩ | ⟨h1, h2, h3⟩
  · exact Or.inl h1
  · exact hd
  · exact d6_b h3 h1 h2 hd
theorem x5_set (x y : Int32) : ev_W X 42 0 (ez_lay [.ref 0, .int x, .int y]) [] (ev_hp I J R T) 0 0 (fun _ h _ _ => d6_X I J R T h) := by
  refine (eg_set X I J R T x y).mono ?_
  intro r h c k hq
  rcases hq with ⟨-, -, e, -⟩ | ⟨-, n1, -, n0, -, -, e, -⟩ | ⟨-, n1, -, n0, -, -, e, -⟩ | ⟨-, n1, -, -, -, e, -⟩ | ⟨-, n1, -, -, e, -⟩ | ⟨-, -, -, n0, n1, -, e, -⟩ | ⟨-, -, -, n0, -, -, e, -⟩ | ⟨-, -, -, -, -, e, -⟩ | ⟨-, -, -, -, e, -⟩
  · exact ⟨I, J, e, Or.inr (Or.inl ⟨rfl, rfl⟩)⟩
  · exact ⟨_, _, e, Or.inr (Or.inr ⟨rfl, rfl, nb_b4 (b4_set n1 n0)⟩)⟩
  · exact ⟨_, _, e, Or.inl rfl⟩
  · exact ⟨_, _, e, Or.inl rfl⟩
  · exact ⟨I, J, e, Or.inr (Or.inl ⟨rfl, rfl⟩)⟩
  · exact ⟨_, _, e, Or.inr (Or.inr ⟨rfl, rfl, nb_b4 (b4_set n1 n0)⟩)⟩
  · exact ⟨_, _, e, Or.inl rfl⟩
  · exact ⟨_, _, e, Or.inl rfl⟩
  · exact ⟨I, J, e, Or.inr (Or.inl ⟨rfl, rfl⟩)⟩
theorem x5_grid (x y z : Int32) (hz : z = 0 ∨ z = 1) : ev_W X 18 0 (ez_lay [.ref 0, .int x, .int y, .int z]) [] (ev_hp I J R T) 0 0 (fun _ h _ _ => d6_X I J R T h) := by
  rcases hz with rfl | rfl
  · refine (eg_grid0 X I J R T x y).mono ?_
    rintro r h1 c1 k1 (⟨a, e, hh, -⟩ | ⟨z, y, f, hf, a, b, e, hh, -⟩ | ⟨a, b, e, hh, -⟩)
    · exact ⟨I, J, hh, Or.inr (Or.inl ⟨rfl, rfl⟩)⟩
    · exact ⟨_, _, hh, Or.inl rfl⟩
    · exact ⟨I, J, hh, Or.inr (Or.inl ⟨rfl, rfl⟩)⟩
  · refine (eg_grid1 X I J R T x y).mono ?_
    rintro r h1 c1 k1 (⟨a, e, hh, -⟩ | ⟨z, y, f, hf, a, b, e, hh, -⟩ | ⟨a, b, e, hh, -⟩)
    · exact ⟨I, J, hh, Or.inr (Or.inl ⟨rfl, rfl⟩)⟩
    · exact ⟨_, _, hh, Or.inl rfl⟩
    · exact ⟨I, J, hh, Or.inr (Or.inl ⟨rfl, rfl⟩)⟩
theorem x5_ship (hB : cx_hB cx_B0 I) : pe N X 43 [.ref 0, .int x, .int y] (ev_hp I J R T) (fun _ h => d6_X I J R T h) := by
  have hW := hB 1 3
  have hH := hB 1 4
  have hwr := hB 1 5
  have hns := hB 3 3
  rw [show cx_B0 1 3 = (2, 6) from rfl] at hW
  rw [show cx_B0 1 4 = (2, 6) from rfl] at hH
  rw [show cx_B0 1 5 = (0, 1) from rfl] at hwr
  rw [show cx_B0 3 3 = (0, 3) from rfl] at hns
  simp only at hW hH hwr hns
  have hwr := cx_01 hwr.1 hwr.2
  have refused : d6_X I J R T (ev_hp I J R T) := ⟨I, J, rfl, Or.inr (Or.inl ⟨rfl, rfl⟩)⟩
  refine pe_of (pw_p (sx_0 ⟨fun _ => refused, fun h1 => ⟨fun _ => refused, fun _ => ⟨fun h2 => ⟨fun _ => ⟨fun h3 => ?_, fun _ => refused⟩, fun _ => refused⟩, fun _ => refused⟩⟩⟩))
  obtain ⟨sh, rfl, s1, s2⟩ := wi_nat (u := 1) (v := 65535) (by omega) h1 (by omega)
  obtain ⟨tn, rfl, -, t2⟩ := wi_nat (u := 0) (v := 2) (by omega) h2 (by omega)
  obtain ⟨ns, e3, n1⟩ : ∃ ns : Nat, I 3 3 = Int32.ofNat ns ∧ ns < 3 := by
    rw [Int32.lt_iff_toInt_lt, show (3 : Int32).toInt = 3 from by decide] at h3
    exact ⟨(I 3 3).toInt.toNat, io_nat hns.1, by omega⟩
  refine ⟨_, pe_build n1 e3 hwr hW hH (by omega) (by omega), ?_⟩
  rintro r h ⟨rfl, I2, J2, rfl, ⟨n, f, g1, g2, -⟩⟩
  refine pw_p (sx_66 ⟨_, pe_W (ea_S_layingsChanged_28_0 X _ _ R T), ?_⟩)
  rintro r h ⟨_, _, rfl, rfl, -⟩
  exact pw_p (sx_71 ⟨_, _, rfl, Or.inl rfl⟩)
theorem v_need_b (e : bk I' J' = bk I J) : v_need I' J' x = v_need I J x := by
  obtain ⟨l1, l2⟩ := bk_ls e
  have hn := (nb_use (nb_b4 (b4_bk e).1)).2
  unfold v_need
  rw [l2 0, l2 1, l2 2, l1, hn]
theorem v_hardest_b (e : bk I' J' = bk I J) : v_hardest I' J' x = v_hardest I J x := by
  obtain ⟨l1, l2⟩ := bk_ls e
  have hn : ndN I' J' = ndN I J := funext (nb_use (nb_b4 (b4_bk e).1)).2
  unfold v_hardest
  rw [l2 0, l2 1, l2 2, l1, hn]
end
noncomputable def rl5 (I : Nat → Nat → Int32) (J : Nat → Nat → Int64) (R : Nat → Nat) (T : List ez_C) : Prop := rl4 I J R T ∧ d6 I J
section
variable {X : ez_X} {m : Nat} {K : cx_K} {as : List Value} {σ0 : List Int} {I : Nat → Nat → Int32} {J : Nat → Nat → Int64} {R : Nat → Nat} {T : List ez_C}
theorem r5_w {M : Int32 → (Nat → Nat → Int32) → (Nat → Nat → Int64) → (Nat → Nat) → List ez_C → Prop} (hl : ev_W X m 0 (ez_lay as) [] (ev_hp I J R T) 0 0 (lw_mid T M)) (he : ev_W X m 0 (ez_lay as) [] (ev_hp I J R T) 0 0 (fun _ h _ _ => d6_X I J R T h)) (hd : d6 I J) : ev_W X m 0 (ez_lay as) [] (ev_hp I J R T) 0 0 (lw_mid T (fun v I1 J1 R1 T1 => M v I1 J1 R1 T1 ∧ d6 I1 J1)) := by
  refine (hl.both he).mono ?_
  rintro r h c k ⟨⟨v, I1, J1, R1, T1, e1, e2, e3, e4, e5, e6⟩, q⟩
  exact ⟨v, I1, J1, R1, T1, e1, e2, e3, e4, e5, e6, d6_x q e2 hd⟩
theorem r5_x {M : Int32 → (Nat → Nat → Int32) → (Nat → Nat → Int64) → (Nat → Nat) → List ez_C → Prop} (hl : ev_W X m 0 (ez_lay as) [] (ev_hp I J R T) 0 0 (lw_mid T M)) (he : ∀ N, pe N X m as (ev_hp I J R T) (fun _ h => d6_X I J R T h)) (hd : d6 I J) : ev_W X m 0 (ez_lay as) [] (ev_hp I J R T) 0 0 (lw_mid T (fun v I1 J1 R1 T1 => M v I1 J1 R1 T1 ∧ d6 I1 J1)) := by
  refine (W_pe hl he).mono ?_
  rintro r h c k ⟨⟨v, I1, J1, R1, T1, e1, e2, e3, e4, e5, e6⟩, q⟩
  exact ⟨v, I1, J1, R1, T1, e1, e2, e3, e4, e5, e6, d6_x q e2 hd⟩
theorem r5_f {M : Int32 → (Nat → Nat → Int32) → (Nat → Nat → Int64) → (Nat → Nat) → List ez_C → Prop} (hl : ev_W X m 0 (ez_lay as) [] (ev_hp I J R T) 0 0 (lw_mid T M)) (he : ∀ N, pe N X m as (ev_hp I J R T) (fun _ h => F6 h)) : ev_W X m 0 (ez_lay as) [] (ev_hp I J R T) 0 0 (lw_mid T (fun v I1 J1 R1 T1 => M v I1 J1 R1 T1 ∧ d6 I1 J1)) := by
  refine (W_pe hl he).mono ?_
  rintro r h c k ⟨⟨v, I1, J1, R1, T1, e1, e2, e3, e4, e5, e6⟩, A, B, R2, T2, q1, q2⟩
  exact ⟨v, I1, J1, R1, T1, e1, e2, e3, e4, e5, e6, d6_hp (q1.symm.trans e2) q2⟩
theorem r5_v {M : Int32 → (Nat → Nat → Int32) → (Nat → Nat → Int64) → (Nat → Nat) → List ez_C → Prop} (hl : ev_W X m 0 (ez_lay as) [] (ev_hp I J R T) 0 0 (lw_mid T M)) (hf : nb_fx K.2.1 = true) (hv : cx_valid cx_B0 m K) (hX2 : X.1 < 2 ^ 31) (hh : cx_hok cx_B0 I R T) (hok : cx_ok σ0 K.1 (ez_lay as) [] I T) (hd : d6 I J) : ev_W X m 0 (ez_lay as) [] (ev_hp I J R T) 0 0 (lw_mid T (fun v I1 J1 R1 T1 => M v I1 J1 R1 T1 ∧ d6 I1 J1)) := by
  refine (hl.both (hv X σ0 _ I J R T hX2 hh hok)).mono ?_
  rintro r h c k ⟨⟨v, I1, J1, R1, T1, e1, e2, e3, e4, e5, e6⟩, A, B, R2, T2, q1, -, q3, -⟩
  exact ⟨v, I1, J1, R1, T1, e1, e2, e3, e4, e5, e6, d6_hp (q1.symm.trans e2) (d6_fr hf q3 hd)⟩
theorem r5_m {M : Int32 → (Nat → Nat → Int32) → (Nat → Nat → Int64) → (Nat → Nat) → List ez_C → Prop} (hl : ev_W X m 0 (ez_lay as) [] (ev_hp I J R T) 0 0 (lw_mid T M)) (he : ∀ N, pe N X m as (ev_hp I J R T) (fun _ h => ∀ p, (p < 35 ∨ 65 ≤ p) → p < 65 + T.length → h[p]? = (ev_hp I J R T)[p]?)) (hd : d6 I J) : ev_W X m 0 (ez_lay as) [] (ev_hp I J R T) 0 0 (lw_mid T (fun v I1 J1 R1 T1 => M v I1 J1 R1 T1 ∧ d6 I1 J1)) := by
  refine (W_pe hl he).mono ?_
  rintro r h c k ⟨⟨v, I1, J1, R1, T1, e1, e2, e3, e4, e5, e6⟩, q⟩
  subst e2
  exact ⟨v, I1, J1, R1, T1, e1, rfl, e3, e4, e5, e6, d6_cells (fun p hp => q p (Or.inl hp) (by omega)) hd⟩
theorem r5_vL {M : Int64 → (Nat → Nat → Int32) → (Nat → Nat → Int64) → (Nat → Nat) → List ez_C → Prop} (hl : ev_W X m 0 (ez_lay as) [] (ev_hp I J R T) 0 0 (lw_midL T M)) (hf : nb_fx K.2.1 = true) (hv : cx_valid cx_B0 m K) (hX2 : X.1 < 2 ^ 31) (hh : cx_hok cx_B0 I R T) (hok : cx_ok σ0 K.1 (ez_lay as) [] I T) (hd : d6 I J) : ev_W X m 0 (ez_lay as) [] (ev_hp I J R T) 0 0 (lw_midL T (fun v I1 J1 R1 T1 => M v I1 J1 R1 T1 ∧ d6 I1 J1)) := by
  refine (hl.both (hv X σ0 _ I J R T hX2 hh hok)).mono ?_
  rintro r h c k ⟨⟨v, I1, J1, R1, T1, e1, e2, e3, e4, e5, e6⟩, A, B, R2, T2, q1, -, q3, -⟩
  exact ⟨v, I1, J1, R1, T1, e1, e2, e3, e4, e5, e6, d6_hp (q1.symm.trans e2) (d6_fr hf q3 hd)⟩
theorem r5_mL {M : Int64 → (Nat → Nat → Int32) → (Nat → Nat → Int64) → (Nat → Nat) → List ez_C → Prop} (hl : ev_W X m 0 (ez_lay as) [] (ev_hp I J R T) 0 0 (lw_midL T M)) (he : ∀ N, pe N X m as (ev_hp I J R T) (fun _ h => ∀ p, (p < 35 ∨ 65 ≤ p) → p < 65 + T.length → h[p]? = (ev_hp I J R T)[p]?)) (hd : d6 I J) : ev_W X m 0 (ez_lay as) [] (ev_hp I J R T) 0 0 (lw_midL T (fun v I1 J1 R1 T1 => M v I1 J1 R1 T1 ∧ d6 I1 J1)) := by
  refine (W_pe hl he).mono ?_
  rintro r h c k ⟨⟨v, I1, J1, R1, T1, e1, e2, e3, e4, e5, e6⟩, q⟩
  subst e2
  exact ⟨v, I1, J1, R1, T1, e1, rfl, e3, e4, e5, e6, d6_cells (fun p hp => q p (Or.inl hp) (by omega)) hd⟩
end
section
variable {X : ez_X} {I I1 : Nat → Nat → Int32} {J J1 : Nat → Nat → Int64} {R R1 : Nat → Nat} {T T1 : List ez_C} {v : Int32} {w : Int64}
theorem l5x_grid (hX2 : X.1 < 2 ^ 31) (hh : cx_hok cx_B0 I R T) (hr : rl5 I J R T) (x y z : Int32) (hz : z = 0 ∨ z = 1) : ev_W X 18 0 (ez_lay [.ref 0, .int x, .int y, .int z]) [] (ev_hp I J R T) 0 0 (lw_mid T (fun v I1 J1 R1 T1 => (((mi_k ck_18_0.2.1 (kf_grid x y z) I J v I1 J1 R1 T1 ∧ cp I1 J1 R1 T1) ∧ ∃ K f, C3 K ∧ (∀ j, j < 12 → f j = -1) ∧ ck I1 J1 = fx_grid x y z f K) ∧ d4 I1 J1 R1 T1) ∧ d6 I1 J1)) := r5_w (l4x_grid hX2 hh hr.1 x y z hz) (x5_grid x y z hz) hr.2
theorem l5m_grid (hX2 : X.1 < 2 ^ 31) (hh : cx_hok cx_B0 I R T) (hr : rl5 I J R T) (x y z : Int32) (hz : z = 0 ∨ z = 1) (hh1 : cx_hok cx_B0 I1 R1 T1) (hm : (((mi_k ck_18_0.2.1 (kf_grid x y z) I J v I1 J1 R1 T1 ∧ cp I1 J1 R1 T1) ∧ ∃ K f, C3 K ∧ (∀ j, j < 12 → f j = -1) ∧ ck I1 J1 = fx_grid x y z f K) ∧ d4 I1 J1 R1 T1) ∧ d6 I1 J1) : ev_W X 195 0 (ez_lay [.ref 35, .int x, .int y, .int z]) [] (ev_hp I1 J1 R1 T1) 0 0 (lw_mid T1 (fun u I2 J2 R2 T2 => rl5 I2 J2 R2 T2)) := r5_m (l4m_grid hX2 hh hr.1 x y z hz hh1 hm.1) (fun N => keep_n (N := N) (by decide +kernel)) hm.2
theorem l5x_ship (hX2 : X.1 < 2 ^ 31) (hh : cx_hok cx_B0 I R T) (hr : rl5 I J R T) (x y : Int32) : ev_W X 43 0 (ez_lay [.ref 0, .int x, .int y]) [] (ev_hp I J R T) 0 0 (lw_mid T (fun v I1 J1 R1 T1 => ((((mi_k ck_43_0.2.1 (kf_ship x y) I J v I1 J1 R1 T1 ∧ mi_ship x y I J I1 J1) ∧ cp I1 J1 R1 T1) ∧ C3 (ck I1 J1)) ∧ d4 I1 J1 R1 T1) ∧ d6 I1 J1)) := r5_x (l4x_ship hX2 hh hr.1 x y) (fun N => x5_ship (N := N) hh.1) hr.2
theorem l5m_ship (hX2 : X.1 < 2 ^ 31) (hh : cx_hok cx_B0 I R T) (hr : rl5 I J R T) (x y : Int32) (hh1 : cx_hok cx_B0 I1 R1 T1) (hm : ((((mi_k ck_43_0.2.1 (kf_ship x y) I J v I1 J1 R1 T1 ∧ mi_ship x y I J I1 J1) ∧ cp I1 J1 R1 T1) ∧ C3 (ck I1 J1)) ∧ d4 I1 J1 R1 T1) ∧ d6 I1 J1) : ev_W X 220 0 (ez_lay [.ref 35, .int x, .int y]) [] (ev_hp I1 J1 R1 T1) 0 0 (lw_mid T1 (fun u I2 J2 R2 T2 => rl5 I2 J2 R2 T2)) := r5_m (l4m_ship hX2 hh hr.1 x y hh1 hm.1) (fun N => keep_n (N := N) (by decide +kernel)) hm.2
theorem l5x_set (hX2 : X.1 < 2 ^ 31) (hh : cx_hok cx_B0 I R T) (hr : rl5 I J R T) (x y : Int32) : ev_W X 42 0 (ez_lay [.ref 0, .int x, .int y]) [] (ev_hp I J R T) 0 0 (lw_mid T (fun v I1 J1 R1 T1 => (((mi_k ck_42_0.2.1 (kf_set x y) I J v I1 J1 R1 T1 ∧ cp I1 J1 R1 T1) ∧ C3 (ck I1 J1)) ∧ d4 I1 J1 R1 T1) ∧ d6 I1 J1)) := r5_w (l4x_set hX2 hh hr.1 x y) (x5_set x y) hr.2
theorem l5m_set (hX2 : X.1 < 2 ^ 31) (hh : cx_hok cx_B0 I R T) (hr : rl5 I J R T) (x y : Int32) (hh1 : cx_hok cx_B0 I1 R1 T1) (hm : (((mi_k ck_42_0.2.1 (kf_set x y) I J v I1 J1 R1 T1 ∧ cp I1 J1 R1 T1) ∧ C3 (ck I1 J1)) ∧ d4 I1 J1 R1 T1) ∧ d6 I1 J1) : ev_W X 219 0 (ez_lay [.ref 35, .int x, .int y]) [] (ev_hp I1 J1 R1 T1) 0 0 (lw_mid T1 (fun u I2 J2 R2 T2 => rl5 I2 J2 R2 T2)) := r5_m (l4m_set hX2 hh hr.1 x y hh1 hm.1) (fun N => keep_n (N := N) (by decide +kernel)) hm.2
theorem l5x_drift (hX2 : X.1 < 2 ^ 31) (hh : cx_hok cx_B0 I R T) (hr : rl5 I J R T) (x y : Int32) : ev_W X 16 0 (ez_lay [.ref 0, .int x, .int y]) [] (ev_hp I J R T) 0 0 (lw_mid T (fun v I1 J1 R1 T1 => (((mi_k ck_16_0.2.1 (kf_drift x y) I J v I1 J1 R1 T1 ∧ cp I1 J1 R1 T1) ∧ ∃ K, C3 K ∧ ck I1 J1 = fx_drift x y K) ∧ d4 I1 J1 R1 T1) ∧ d6 I1 J1)) := r5_v (l4x_drift hX2 hh hr.1 x y) (by rfl) cv_16_0 hX2 hh ao_2 hr.2
theorem l5m_drift (hX2 : X.1 < 2 ^ 31) (hh : cx_hok cx_B0 I R T) (hr : rl5 I J R T) (x y : Int32) (hh1 : cx_hok cx_B0 I1 R1 T1) (hm : (((mi_k ck_16_0.2.1 (kf_drift x y) I J v I1 J1 R1 T1 ∧ cp I1 J1 R1 T1) ∧ ∃ K, C3 K ∧ ck I1 J1 = fx_drift x y K) ∧ d4 I1 J1 R1 T1) ∧ d6 I1 J1) : ev_W X 185 0 (ez_lay [.ref 35, .int x, .int y]) [] (ev_hp I1 J1 R1 T1) 0 0 (lw_mid T1 (fun u I2 J2 R2 T2 => rl5 I2 J2 R2 T2)) := r5_m (l4m_drift hX2 hh hr.1 x y hh1 hm.1) (fun N => keep_n (N := N) (by decide +kernel)) hm.2
theorem l5x_spots (hX2 : X.1 < 2 ^ 31) (hh : cx_hok cx_B0 I R T) (hr : rl5 I J R T) (x : Int32) : ev_W X 46 0 (ez_lay [.ref 0, .int x]) [] (ev_hp I J R T) 0 0 (lw_mid T (fun v I1 J1 R1 T1 => ((rl2 I1 J1 R1 T1 ∧ C3 (ck I1 J1)) ∧ d4 I1 J1 R1 T1) ∧ d6 I1 J1)) := r5_v (l4x_spots hX2 hh hr.1 x) (by rfl) cv_46_0 hX2 hh ao_1 hr.2
theorem l5m_spots (hX2 : X.1 < 2 ^ 31) (hh : cx_hok cx_B0 I R T) (hr : rl5 I J R T) (x : Int32) (hh1 : cx_hok cx_B0 I1 R1 T1) (hm : ((rl2 I1 J1 R1 T1 ∧ C3 (ck I1 J1)) ∧ d4 I1 J1 R1 T1) ∧ d6 I1 J1) : ev_W X 223 0 (ez_lay [.ref 35, .int x]) [] (ev_hp I1 J1 R1 T1) 0 0 (lw_mid T1 (fun u I2 J2 R2 T2 => rl5 I2 J2 R2 T2)) := r5_m (l4m_spots hX2 hh hr.1 x hh1 hm.1) (fun N => keep_n (N := N) (by decide +kernel)) hm.2
theorem l5x_spot (hX2 : X.1 < 2 ^ 31) (hh : cx_hok cx_B0 I R T) (hr : rl5 I J R T) (x y : Int32) : ev_W X 44 0 (ez_lay [.ref 0, .int x, .int y]) [] (ev_hp I J R T) 0 0 (lw_midL T (fun v I1 J1 R1 T1 => ((rl2 I1 J1 R1 T1 ∧ C3 (ck I1 J1)) ∧ d4 I1 J1 R1 T1) ∧ d6 I1 J1)) := r5_vL (l4x_spot hX2 hh hr.1 x y) (by rfl) cv_44_0 hX2 hh ao_2 hr.2
theorem l5m_spot (hX2 : X.1 < 2 ^ 31) (hh : cx_hok cx_B0 I R T) (hr : rl5 I J R T) (x y : Int32) (hh1 : cx_hok cx_B0 I1 R1 T1) (hm : ((rl2 I1 J1 R1 T1 ∧ C3 (ck I1 J1)) ∧ d4 I1 J1 R1 T1) ∧ d6 I1 J1) : ev_W X 222 0 (ez_lay [.ref 35, .int x, .int y]) [] (ev_hp I1 J1 R1 T1) 0 0 (lw_midL T1 (fun u I2 J2 R2 T2 => rl5 I2 J2 R2 T2)) := r5_mL (l4m_spot hX2 hh hr.1 x y hh1 hm.1) (fun N => keep_n (N := N) (by decide +kernel)) hm.2
theorem l5x_layings (hX2 : X.1 < 2 ^ 31) (hh : cx_hok cx_B0 I R T) (hr : rl5 I J R T) : ev_W X 27 0 (ez_lay [.ref 0]) [] (ev_hp I J R T) 0 0 (lw_mid T (fun v I1 J1 R1 T1 => ((rl2 I1 J1 R1 T1 ∧ C3 (ck I1 J1)) ∧ d4 I1 J1 R1 T1) ∧ d6 I1 J1)) := r5_v (l4x_layings hX2 hh hr.1) (by rfl) cv_27_0 hX2 hh ao_0 hr.2
theorem l5m_layings (hX2 : X.1 < 2 ^ 31) (hh : cx_hok cx_B0 I R T) (hr : rl5 I J R T) (hh1 : cx_hok cx_B0 I1 R1 T1) (hm : ((rl2 I1 J1 R1 T1 ∧ C3 (ck I1 J1)) ∧ d4 I1 J1 R1 T1) ∧ d6 I1 J1) : ev_W X 206 0 (ez_lay [.ref 35]) [] (ev_hp I1 J1 R1 T1) 0 0 (lw_mid T1 (fun u I2 J2 R2 T2 => rl5 I2 J2 R2 T2)) := r5_m (l4m_layings hX2 hh hr.1 hh1 hm.1) (fun N => keep_n (N := N) (by decide +kernel)) hm.2
theorem l5x_laid (hX2 : X.1 < 2 ^ 31) (hh : cx_hok cx_B0 I R T) (hr : rl5 I J R T) (x y : Int32) : ev_W X 26 0 (ez_lay [.ref 0, .int x, .int y]) [] (ev_hp I J R T) 0 0 (lw_mid T (fun v I1 J1 R1 T1 => ((rl2 I1 J1 R1 T1 ∧ C3 (ck I1 J1)) ∧ d4 I1 J1 R1 T1) ∧ d6 I1 J1)) := r5_v (l4x_laid hX2 hh hr.1 x y) (by rfl) cv_26_0 hX2 hh ao_2 hr.2
theorem l5m_laid (hX2 : X.1 < 2 ^ 31) (hh : cx_hok cx_B0 I R T) (hr : rl5 I J R T) (x y : Int32) (hh1 : cx_hok cx_B0 I1 R1 T1) (hm : ((rl2 I1 J1 R1 T1 ∧ C3 (ck I1 J1)) ∧ d4 I1 J1 R1 T1) ∧ d6 I1 J1) : ev_W X 205 0 (ez_lay [.ref 35, .int x, .int y]) [] (ev_hp I1 J1 R1 T1) 0 0 (lw_mid T1 (fun u I2 J2 R2 T2 => rl5 I2 J2 R2 T2)) := r5_m (l4m_laid hX2 hh hr.1 x y hh1 hm.1) (fun N => keep_n (N := N) (by decide +kernel)) hm.2
theorem l5x_call (hX2 : X.1 < 2 ^ 31) (hh : cx_hok cx_B0 I R T) (hr : rl5 I J R T) (x : Int32) : ev_W X 10 0 (ez_lay [.ref 0, .int x]) [] (ev_hp I J R T) 0 0 (lw_mid T (fun v I1 J1 R1 T1 => (((mi_k ck_10_0.2.1 (kf_call x) I J v I1 J1 R1 T1 ∧ cp I1 J1 R1 T1) ∧ ∃ K, C3 K ∧ ck I1 J1 = fx_call x K) ∧ d4 I1 J1 R1 T1) ∧ d6 I1 J1)) := r5_v (l4x_call hX2 hh hr.1 x) (by rfl) cv_10_0 hX2 hh ao_1 hr.2
theorem l5m_call (hX2 : X.1 < 2 ^ 31) (hh : cx_hok cx_B0 I R T) (hr : rl5 I J R T) (x : Int32) (hh1 : cx_hok cx_B0 I1 R1 T1) (hm : (((mi_k ck_10_0.2.1 (kf_call x) I J v I1 J1 R1 T1 ∧ cp I1 J1 R1 T1) ∧ ∃ K, C3 K ∧ ck I1 J1 = fx_call x K) ∧ d4 I1 J1 R1 T1) ∧ d6 I1 J1) : ev_W X 175 0 (ez_lay [.ref 35, .int x]) [] (ev_hp I1 J1 R1 T1) 0 0 (lw_mid T1 (fun u I2 J2 R2 T2 => rl5 I2 J2 R2 T2)) := r5_m (l4m_call hX2 hh hr.1 x hh1 hm.1) (fun N => keep_n (N := N) (by decide +kernel)) hm.2
theorem l5x_salvo (hX2 : X.1 < 2 ^ 31) (hh : cx_hok cx_B0 I R T) (hr : rl5 I J R T) (x y : Int32) : ev_W X 41 0 (ez_lay [.ref 0, .int x, .int y]) [] (ev_hp I J R T) 0 0 (lw_mid T (fun v I1 J1 R1 T1 => (((mi_k ck_41_0.2.1 (kf_salvo x y) I J v I1 J1 R1 T1 ∧ cp I1 J1 R1 T1) ∧ ∃ K, C3 K ∧ ck I1 J1 = fx_salvo x y K) ∧ d4 I1 J1 R1 T1) ∧ d6 I1 J1)) := r5_v (l4x_salvo hX2 hh hr.1 x y) (by rfl) cv_41_0 hX2 hh ao_2 hr.2
theorem l5m_salvo (hX2 : X.1 < 2 ^ 31) (hh : cx_hok cx_B0 I R T) (hr : rl5 I J R T) (x y : Int32) (hh1 : cx_hok cx_B0 I1 R1 T1) (hm : (((mi_k ck_41_0.2.1 (kf_salvo x y) I J v I1 J1 R1 T1 ∧ cp I1 J1 R1 T1) ∧ ∃ K, C3 K ∧ ck I1 J1 = fx_salvo x y K) ∧ d4 I1 J1 R1 T1) ∧ d6 I1 J1) : ev_W X 218 0 (ez_lay [.ref 35, .int x, .int y]) [] (ev_hp I1 J1 R1 T1) 0 0 (lw_mid T1 (fun u I2 J2 R2 T2 => rl5 I2 J2 R2 T2)) := r5_m (l4m_salvo hX2 hh hr.1 x y hh1 hm.1) (fun N => keep_n (N := N) (by decide +kernel)) hm.2
theorem l5x_answer (hX2 : X.1 < 2 ^ 31) (hh : cx_hok cx_B0 I R T) (hr : rl5 I J R T) (x y : Int32) : ev_W X 1 0 (ez_lay [.ref 0, .int x, .int y]) [] (ev_hp I J R T) 0 0 (lw_mid T (fun v I1 J1 R1 T1 => ((rl2 I1 J1 R1 T1 ∧ ∃ K, C3 K ∧ ck I1 J1 = fx_answer x y K) ∧ d4 I1 J1 R1 T1) ∧ d6 I1 J1)) := r5_v (l4x_answer hX2 hh hr.1 x y) (by rfl) cv_1_0 hX2 hh ao_2 hr.2
theorem l5m_answer (hX2 : X.1 < 2 ^ 31) (hh : cx_hok cx_B0 I R T) (hr : rl5 I J R T) (x y : Int32) (hh1 : cx_hok cx_B0 I1 R1 T1) (hm : ((rl2 I1 J1 R1 T1 ∧ ∃ K, C3 K ∧ ck I1 J1 = fx_answer x y K) ∧ d4 I1 J1 R1 T1) ∧ d6 I1 J1) : ev_W X 166 0 (ez_lay [.ref 35, .int x, .int y]) [] (ev_hp I1 J1 R1 T1) 0 0 (lw_mid T1 (fun u I2 J2 R2 T2 => rl5 I2 J2 R2 T2)) := r5_m (l4m_answer hX2 hh hr.1 x y hh1 hm.1) (fun N => keep_n (N := N) (by decide +kernel)) hm.2
theorem l5x_lose (hX2 : X.1 < 2 ^ 31) (hh : cx_hok cx_B0 I R T) (hr : rl5 I J R T) (x : Int32) : ev_W X 32 0 (ez_lay [.ref 0, .int x]) [] (ev_hp I J R T) 0 0 (lw_mid T (fun v I1 J1 R1 T1 => ((rl2 I1 J1 R1 T1 ∧ ∃ K, C3 K ∧ ck I1 J1 = fx_lose x K) ∧ d4 I1 J1 R1 T1) ∧ d6 I1 J1)) := r5_v (l4x_lose hX2 hh hr.1 x) (by rfl) cv_32_0 hX2 hh ao_1 hr.2
theorem l5m_lose (hX2 : X.1 < 2 ^ 31) (hh : cx_hok cx_B0 I R T) (hr : rl5 I J R T) (x : Int32) (hh1 : cx_hok cx_B0 I1 R1 T1) (hm : ((rl2 I1 J1 R1 T1 ∧ ∃ K, C3 K ∧ ck I1 J1 = fx_lose x K) ∧ d4 I1 J1 R1 T1) ∧ d6 I1 J1) : ev_W X 209 0 (ez_lay [.ref 35, .int x]) [] (ev_hp I1 J1 R1 T1) 0 0 (lw_mid T1 (fun u I2 J2 R2 T2 => rl5 I2 J2 R2 T2)) := r5_m (l4m_lose hX2 hh hr.1 x hh1 hm.1) (fun N => keep_n (N := N) (by decide +kernel)) hm.2
theorem l5x_back (hX2 : X.1 < 2 ^ 31) (hh : cx_hok cx_B0 I R T) (hr : rl5 I J R T) : ev_W X 5 0 (ez_lay [.ref 0]) [] (ev_hp I J R T) 0 0 (lw_mid T (fun v I1 J1 R1 T1 => (((mi_k ck_5_0.2.1 kf_back I J v I1 J1 R1 T1 ∧ cp I1 J1 R1 T1) ∧ ∃ K, C3 K ∧ ck I1 J1 = fx_back K) ∧ d4 I1 J1 R1 T1) ∧ d6 I1 J1)) := r5_v (l4x_back hX2 hh hr.1) (by rfl) cv_5_0 hX2 hh ao_0 hr.2
theorem l5m_back (hX2 : X.1 < 2 ^ 31) (hh : cx_hok cx_B0 I R T) (hr : rl5 I J R T) (hh1 : cx_hok cx_B0 I1 R1 T1) (hm : (((mi_k ck_5_0.2.1 kf_back I J v I1 J1 R1 T1 ∧ cp I1 J1 R1 T1) ∧ ∃ K, C3 K ∧ ck I1 J1 = fx_back K) ∧ d4 I1 J1 R1 T1) ∧ d6 I1 J1) : ev_W X 168 0 (ez_lay [.ref 35]) [] (ev_hp I1 J1 R1 T1) 0 0 (lw_mid T1 (fun u I2 J2 R2 T2 => rl5 I2 J2 R2 T2)) := r5_m (l4m_back hX2 hh hr.1 hh1 hm.1) (fun N => keep_n (N := N) (by decide +kernel)) hm.2
theorem l5x_truth (hX2 : X.1 < 2 ^ 31) (hh : cx_hok cx_B0 I R T) (hr : rl5 I J R T) (x y : Int32) : ev_W X 53 0 (ez_lay [.ref 0, .int x, .int y]) [] (ev_hp I J R T) 0 0 (lw_mid T (fun v I1 J1 R1 T1 => ((rl2 I1 J1 R1 T1 ∧ C3 (ck I1 J1)) ∧ d4 I1 J1 R1 T1) ∧ d6 I1 J1)) := r5_v (l4x_truth hX2 hh hr.1 x y) (by rfl) cv_53_0 hX2 hh ao_2 hr.2
theorem l5m_truth (hX2 : X.1 < 2 ^ 31) (hh : cx_hok cx_B0 I R T) (hr : rl5 I J R T) (x y : Int32) (hh1 : cx_hok cx_B0 I1 R1 T1) (hm : ((rl2 I1 J1 R1 T1 ∧ C3 (ck I1 J1)) ∧ d4 I1 J1 R1 T1) ∧ d6 I1 J1) : ev_W X 229 0 (ez_lay [.ref 35, .int x, .int y]) [] (ev_hp I1 J1 R1 T1) 0 0 (lw_mid T1 (fun u I2 J2 R2 T2 => rl5 I2 J2 R2 T2)) := r5_m (l4m_truth hX2 hh hr.1 x y hh1 hm.1) (fun N => keep_n (N := N) (by decide +kernel)) hm.2
theorem l5x_lies (hX2 : X.1 < 2 ^ 31) (hh : cx_hok cx_B0 I R T) (hr : rl5 I J R T) (x y z : Int32) : ev_W X 31 0 (ez_lay [.ref 0, .int x, .int y, .int z]) [] (ev_hp I J R T) 0 0 (lw_midL T (fun v I1 J1 R1 T1 => ((rl2 I1 J1 R1 T1 ∧ C3 (ck I1 J1)) ∧ d4 I1 J1 R1 T1) ∧ d6 I1 J1)) := r5_vL (l4x_lies hX2 hh hr.1 x y z) (by rfl) cv_31_0 hX2 hh ao_3 hr.2
theorem l5m_lies (hX2 : X.1 < 2 ^ 31) (hh : cx_hok cx_B0 I R T) (hr : rl5 I J R T) (x y z : Int32) (hh1 : cx_hok cx_B0 I1 R1 T1) (hm : ((rl2 I1 J1 R1 T1 ∧ C3 (ck I1 J1)) ∧ d4 I1 J1 R1 T1) ∧ d6 I1 J1) : ev_W X 208 0 (ez_lay [.ref 35, .int x, .int y, .int z]) [] (ev_hp I1 J1 R1 T1) 0 0 (lw_midL T1 (fun u I2 J2 R2 T2 => rl5 I2 J2 R2 T2)) := r5_mL (l4m_lies hX2 hh hr.1 x y z hh1 hm.1) (fun N => keep_n (N := N) (by decide +kernel)) hm.2
theorem l5x_left (hX2 : X.1 < 2 ^ 31) (hh : cx_hok cx_B0 I R T) (hr : rl5 I J R T) : ev_W X 29 0 (ez_lay [.ref 0]) [] (ev_hp I J R T) 0 0 (lw_mid T (fun v I1 J1 R1 T1 => ((rl2 I1 J1 R1 T1 ∧ C3 (ck I1 J1)) ∧ d4 I1 J1 R1 T1) ∧ d6 I1 J1)) := r5_v (l4x_left hX2 hh hr.1) (by rfl) cv_29_0 hX2 hh ao_0 hr.2
theorem l5m_left (hX2 : X.1 < 2 ^ 31) (hh : cx_hok cx_B0 I R T) (hr : rl5 I J R T) (hh1 : cx_hok cx_B0 I1 R1 T1) (hm : ((rl2 I1 J1 R1 T1 ∧ C3 (ck I1 J1)) ∧ d4 I1 J1 R1 T1) ∧ d6 I1 J1) : ev_W X 207 0 (ez_lay [.ref 35]) [] (ev_hp I1 J1 R1 T1) 0 0 (lw_mid T1 (fun u I2 J2 R2 T2 => rl5 I2 J2 R2 T2)) := r5_m (l4m_left hX2 hh hr.1 hh1 hm.1) (fun N => keep_n (N := N) (by decide +kernel)) hm.2
theorem l5x_which (hX2 : X.1 < 2 ^ 31) (hh : cx_hok cx_B0 I R T) (hr : rl5 I J R T) (x : Int32) : ev_W X 54 0 (ez_lay [.ref 0, .int x]) [] (ev_hp I J R T) 0 0 (lw_mid T (fun v I1 J1 R1 T1 => ((rl2 I1 J1 R1 T1 ∧ C3 (ck I1 J1)) ∧ d4 I1 J1 R1 T1) ∧ d6 I1 J1)) := r5_v (l4x_which hX2 hh hr.1 x) (by rfl) cv_54_0 hX2 hh ao_1 hr.2
theorem l5m_which (hX2 : X.1 < 2 ^ 31) (hh : cx_hok cx_B0 I R T) (hr : rl5 I J R T) (x : Int32) (hh1 : cx_hok cx_B0 I1 R1 T1) (hm : ((rl2 I1 J1 R1 T1 ∧ C3 (ck I1 J1)) ∧ d4 I1 J1 R1 T1) ∧ d6 I1 J1) : ev_W X 232 0 (ez_lay [.ref 35, .int x]) [] (ev_hp I1 J1 R1 T1) 0 0 (lw_mid T1 (fun u I2 J2 R2 T2 => rl5 I2 J2 R2 T2)) := r5_m (l4m_which hX2 hh hr.1 x hh1 hm.1) (fun N => keep_n (N := N) (by decide +kernel)) hm.2
theorem l5x_there (hX2 : X.1 < 2 ^ 31) (hh : cx_hok cx_B0 I R T) (hr : rl5 I J R T) (x : Int32) : ev_W X 51 0 (ez_lay [.ref 0, .int x]) [] (ev_hp I J R T) 0 0 (lw_mid T (fun v I1 J1 R1 T1 => ((rl2 I1 J1 R1 T1 ∧ C3 (ck I1 J1)) ∧ d4 I1 J1 R1 T1) ∧ d6 I1 J1)) := r5_v (l4x_there hX2 hh hr.1 x) (by rfl) cv_51_0 hX2 hh ao_1 hr.2
theorem l5m_there (hX2 : X.1 < 2 ^ 31) (hh : cx_hok cx_B0 I R T) (hr : rl5 I J R T) (x : Int32) (hh1 : cx_hok cx_B0 I1 R1 T1) (hm : ((rl2 I1 J1 R1 T1 ∧ C3 (ck I1 J1)) ∧ d4 I1 J1 R1 T1) ∧ d6 I1 J1) : ev_W X 227 0 (ez_lay [.ref 35, .int x]) [] (ev_hp I1 J1 R1 T1) 0 0 (lw_mid T1 (fun u I2 J2 R2 T2 => rl5 I2 J2 R2 T2)) := r5_m (l4m_there hX2 hh hr.1 x hh1 hm.1) (fun N => keep_n (N := N) (by decide +kernel)) hm.2
theorem l5x_sure (hX2 : X.1 < 2 ^ 31) (hh : cx_hok cx_B0 I R T) (hr : rl5 I J R T) (x : Int32) : ev_W X 48 0 (ez_lay [.ref 0, .int x]) [] (ev_hp I J R T) 0 0 (lw_midL T (fun v I1 J1 R1 T1 => ((rl2 I1 J1 R1 T1 ∧ C3 (ck I1 J1)) ∧ d4 I1 J1 R1 T1) ∧ d6 I1 J1)) := r5_vL (l4x_sure hX2 hh hr.1 x) (by rfl) cv_48_0 hX2 hh ao_1 hr.2
theorem l5m_sure (hX2 : X.1 < 2 ^ 31) (hh : cx_hok cx_B0 I R T) (hr : rl5 I J R T) (x : Int32) (hh1 : cx_hok cx_B0 I1 R1 T1) (hm : ((rl2 I1 J1 R1 T1 ∧ C3 (ck I1 J1)) ∧ d4 I1 J1 R1 T1) ∧ d6 I1 J1) : ev_W X 225 0 (ez_lay [.ref 35, .int x]) [] (ev_hp I1 J1 R1 T1) 0 0 (lw_midL T1 (fun u I2 J2 R2 T2 => rl5 I2 J2 R2 T2)) := r5_mL (l4m_sure hX2 hh hr.1 x hh1 hm.1) (fun N => keep_n (N := N) (by decide +kernel)) hm.2
theorem l5x_part (hX2 : X.1 < 2 ^ 31) (hh : cx_hok cx_B0 I R T) (hr : rl5 I J R T) (x y : Int32) : ev_W X 37 0 (ez_lay [.ref 0, .int x, .int y]) [] (ev_hp I J R T) 0 0 (lw_mid T (fun v I1 J1 R1 T1 => ((rl2 I1 J1 R1 T1 ∧ C3 (ck I1 J1)) ∧ d4 I1 J1 R1 T1) ∧ d6 I1 J1)) := r5_v (l4x_part hX2 hh hr.1 x y) (by rfl) cv_37_0 hX2 hh ao_2 hr.2
theorem l5m_part (hX2 : X.1 < 2 ^ 31) (hh : cx_hok cx_B0 I R T) (hr : rl5 I J R T) (x y : Int32) (hh1 : cx_hok cx_B0 I1 R1 T1) (hm : ((rl2 I1 J1 R1 T1 ∧ C3 (ck I1 J1)) ∧ d4 I1 J1 R1 T1) ∧ d6 I1 J1) : ev_W X 214 0 (ez_lay [.ref 35, .int x, .int y]) [] (ev_hp I1 J1 R1 T1) 0 0 (lw_mid T1 (fun u I2 J2 R2 T2 => rl5 I2 J2 R2 T2)) := r5_m (l4m_part hX2 hh hr.1 x y hh1 hm.1) (fun N => keep_n (N := N) (by decide +kernel)) hm.2
theorem l5x_best (hX2 : X.1 < 2 ^ 31) (hh : cx_hok cx_B0 I R T) (hr : rl5 I J R T) (x : Int32) : ev_W X 6 0 (ez_lay [.ref 0, .int x]) [] (ev_hp I J R T) 0 0 (lw_mid T (fun v I1 J1 R1 T1 => ((rl2 I1 J1 R1 T1 ∧ C3 (ck I1 J1)) ∧ d4 I1 J1 R1 T1) ∧ d6 I1 J1)) := r5_v (l4x_best hX2 hh hr.1 x) (by rfl) cv_6_0 hX2 hh ao_1 hr.2
theorem l5m_best (hX2 : X.1 < 2 ^ 31) (hh : cx_hok cx_B0 I R T) (hr : rl5 I J R T) (x : Int32) (hh1 : cx_hok cx_B0 I1 R1 T1) (hm : ((rl2 I1 J1 R1 T1 ∧ C3 (ck I1 J1)) ∧ d4 I1 J1 R1 T1) ∧ d6 I1 J1) : ev_W X 169 0 (ez_lay [.ref 35, .int x]) [] (ev_hp I1 J1 R1 T1) 0 0 (lw_mid T1 (fun u I2 J2 R2 T2 => rl5 I2 J2 R2 T2)) := r5_m (l4m_best hX2 hh hr.1 x hh1 hm.1) (fun N => keep_n (N := N) (by decide +kernel)) hm.2
theorem l5x_bestSalvo (hX2 : X.1 < 2 ^ 31) (hh : cx_hok cx_B0 I R T) (hr : rl5 I J R T) (x : Int32) : ev_W X 7 0 (ez_lay [.ref 0, .int x]) [] (ev_hp I J R T) 0 0 (lw_mid T (fun v I1 J1 R1 T1 => ((rl2 I1 J1 R1 T1 ∧ C3 (ck I1 J1)) ∧ d4 I1 J1 R1 T1) ∧ d6 I1 J1)) := r5_v (l4x_bestSalvo hX2 hh hr.1 x) (by rfl) cv_7_0 hX2 hh ao_1 hr.2
theorem l5m_bestSalvo (hX2 : X.1 < 2 ^ 31) (hh : cx_hok cx_B0 I R T) (hr : rl5 I J R T) (x : Int32) (hh1 : cx_hok cx_B0 I1 R1 T1) (hm : ((rl2 I1 J1 R1 T1 ∧ C3 (ck I1 J1)) ∧ d4 I1 J1 R1 T1) ∧ d6 I1 J1) : ev_W X 170 0 (ez_lay [.ref 35, .int x]) [] (ev_hp I1 J1 R1 T1) 0 0 (lw_mid T1 (fun u I2 J2 R2 T2 => rl5 I2 J2 R2 T2)) := r5_m (l4m_bestSalvo hX2 hh hr.1 x hh1 hm.1) (fun N => keep_n (N := N) (by decide +kernel)) hm.2
theorem l5x_need (hX2 : X.1 < 2 ^ 31) (hh : cx_hok cx_B0 I R T) (hr : rl5 I J R T) (x : Int32) : ev_W X 34 0 (ez_lay [.ref 0, .int x]) [] (ev_hp I J R T) 0 0 (lw_mid T (fun v I1 J1 R1 T1 => ((rl2 I1 J1 R1 T1 ∧ C3 (ck I1 J1)) ∧ d4 I1 J1 R1 T1) ∧ d6 I1 J1)) := r5_f (l4x_need hX2 hh hr.1 x) (fun N => pe_mono (pe_xneed (N := N) hr.1.1 hr.2 hh) fun _ _ q => q.2)
theorem l5m_need (hX2 : X.1 < 2 ^ 31) (hh : cx_hok cx_B0 I R T) (hr : rl5 I J R T) (x : Int32) (hh1 : cx_hok cx_B0 I1 R1 T1) (hm : ((rl2 I1 J1 R1 T1 ∧ C3 (ck I1 J1)) ∧ d4 I1 J1 R1 T1) ∧ d6 I1 J1) : ev_W X 212 0 (ez_lay [.ref 35, .int x]) [] (ev_hp I1 J1 R1 T1) 0 0 (lw_mid T1 (fun u I2 J2 R2 T2 => rl5 I2 J2 R2 T2)) := r5_m (l4m_need hX2 hh hr.1 x hh1 hm.1) (fun N => keep_n (N := N) (by decide +kernel)) hm.2
theorem l5x_calls (hX2 : X.1 < 2 ^ 31) (hh : cx_hok cx_B0 I R T) (hr : rl5 I J R T) (x y : Int32) : ev_W X 11 0 (ez_lay [.ref 0, .int x, .int y]) [] (ev_hp I J R T) 0 0 (lw_mid T (fun v I1 J1 R1 T1 => ((rl2 I1 J1 R1 T1 ∧ C3 (ck I1 J1)) ∧ d4 I1 J1 R1 T1) ∧ d6 I1 J1)) := r5_v (l4x_calls hX2 hh hr.1 x y) (by rfl) cv_11_0 hX2 hh ao_2 hr.2
theorem l5m_calls (hX2 : X.1 < 2 ^ 31) (hh : cx_hok cx_B0 I R T) (hr : rl5 I J R T) (x y : Int32) (hh1 : cx_hok cx_B0 I1 R1 T1) (hm : ((rl2 I1 J1 R1 T1 ∧ C3 (ck I1 J1)) ∧ d4 I1 J1 R1 T1) ∧ d6 I1 J1) : ev_W X 178 0 (ez_lay [.ref 35, .int x, .int y]) [] (ev_hp I1 J1 R1 T1) 0 0 (lw_mid T1 (fun u I2 J2 R2 T2 => rl5 I2 J2 R2 T2)) := r5_m (l4m_calls hX2 hh hr.1 x y hh1 hm.1) (fun N => keep_n (N := N) (by decide +kernel)) hm.2
theorem l5x_hardest (hX2 : X.1 < 2 ^ 31) (hh : cx_hok cx_B0 I R T) (hr : rl5 I J R T) (x : Int32) : ev_W X 20 0 (ez_lay [.ref 0, .int x]) [] (ev_hp I J R T) 0 0 (lw_mid T (fun v I1 J1 R1 T1 => ((rl2 I1 J1 R1 T1 ∧ C3 (ck I1 J1)) ∧ d4 I1 J1 R1 T1) ∧ d6 I1 J1)) := r5_f (l4x_hardest hX2 hh hr.1 x) (fun N => pe_mono (pe_xhardest (N := N) hr.1.1 hr.2 hh) fun _ _ q => q.2)
theorem l5m_hardest (hX2 : X.1 < 2 ^ 31) (hh : cx_hok cx_B0 I R T) (hr : rl5 I J R T) (x : Int32) (hh1 : cx_hok cx_B0 I1 R1 T1) (hm : ((rl2 I1 J1 R1 T1 ∧ C3 (ck I1 J1)) ∧ d4 I1 J1 R1 T1) ∧ d6 I1 J1) : ev_W X 196 0 (ez_lay [.ref 35, .int x]) [] (ev_hp I1 J1 R1 T1) 0 0 (lw_mid T1 (fun u I2 J2 R2 T2 => rl5 I2 J2 R2 T2)) := r5_m (l4m_hardest hX2 hh hr.1 x hh1 hm.1) (fun N => keep_n (N := N) (by decide +kernel)) hm.2
theorem l5x_stray (hX2 : X.1 < 2 ^ 31) (hh : cx_hok cx_B0 I R T) (hr : rl5 I J R T) : ev_W X 47 0 (ez_lay [.ref 0]) [] (ev_hp I J R T) 0 0 (lw_mid T (fun v I1 J1 R1 T1 => ((rl2 I1 J1 R1 T1 ∧ C3 (ck I1 J1)) ∧ d4 I1 J1 R1 T1) ∧ d6 I1 J1)) := r5_v (l4x_stray hX2 hh hr.1) (by rfl) cv_47_0 hX2 hh ao_0 hr.2
theorem l5m_stray (hX2 : X.1 < 2 ^ 31) (hh : cx_hok cx_B0 I R T) (hr : rl5 I J R T) (hh1 : cx_hok cx_B0 I1 R1 T1) (hm : ((rl2 I1 J1 R1 T1 ∧ C3 (ck I1 J1)) ∧ d4 I1 J1 R1 T1) ∧ d6 I1 J1) : ev_W X 224 0 (ez_lay [.ref 35]) [] (ev_hp I1 J1 R1 T1) 0 0 (lw_mid T1 (fun u I2 J2 R2 T2 => rl5 I2 J2 R2 T2)) := r5_m (l4m_stray hX2 hh hr.1 hh1 hm.1) (fun N => keep_n (N := N) (by decide +kernel)) hm.2
theorem l5x_blame (hX2 : X.1 < 2 ^ 31) (hh : cx_hok cx_B0 I R T) (hr : rl5 I J R T) : ev_W X 8 0 (ez_lay [.ref 0]) [] (ev_hp I J R T) 0 0 (lw_mid T (fun v I1 J1 R1 T1 => ((rl2 I1 J1 R1 T1 ∧ C3 (ck I1 J1)) ∧ d4 I1 J1 R1 T1) ∧ d6 I1 J1)) := r5_v (l4x_blame hX2 hh hr.1) (by rfl) cv_8_0 hX2 hh ao_0 hr.2
theorem l5m_blame (hX2 : X.1 < 2 ^ 31) (hh : cx_hok cx_B0 I R T) (hr : rl5 I J R T) (hh1 : cx_hok cx_B0 I1 R1 T1) (hm : ((rl2 I1 J1 R1 T1 ∧ C3 (ck I1 J1)) ∧ d4 I1 J1 R1 T1) ∧ d6 I1 J1) : ev_W X 172 0 (ez_lay [.ref 35]) [] (ev_hp I1 J1 R1 T1) 0 0 (lw_mid T1 (fun u I2 J2 R2 T2 => rl5 I2 J2 R2 T2)) := r5_m (l4m_blame hX2 hh hr.1 hh1 hm.1) (fun N => keep_n (N := N) (by decide +kernel)) hm.2
theorem l5x_blamed (hX2 : X.1 < 2 ^ 31) (hh : cx_hok cx_B0 I R T) (hr : rl5 I J R T) : ev_W X 9 0 (ez_lay [.ref 0]) [] (ev_hp I J R T) 0 0 (lw_mid T (fun v I1 J1 R1 T1 => ((rl2 I1 J1 R1 T1 ∧ C3 (ck I1 J1)) ∧ d4 I1 J1 R1 T1) ∧ d6 I1 J1)) := r5_v (l4x_blamed hX2 hh hr.1) (by rfl) cv_9_0 hX2 hh ao_0 hr.2
theorem l5m_blamed (hX2 : X.1 < 2 ^ 31) (hh : cx_hok cx_B0 I R T) (hr : rl5 I J R T) (hh1 : cx_hok cx_B0 I1 R1 T1) (hm : ((rl2 I1 J1 R1 T1 ∧ C3 (ck I1 J1)) ∧ d4 I1 J1 R1 T1) ∧ d6 I1 J1) : ev_W X 174 0 (ez_lay [.ref 35]) [] (ev_hp I1 J1 R1 T1) 0 0 (lw_mid T1 (fun u I2 J2 R2 T2 => rl5 I2 J2 R2 T2)) := r5_m (l4m_blamed hX2 hh hr.1 hh1 hm.1) (fun N => keep_n (N := N) (by decide +kernel)) hm.2
theorem l5x_switched (hX2 : X.1 < 2 ^ 31) (hh : cx_hok cx_B0 I R T) (hr : rl5 I J R T) (x : Int32) : ev_W X 50 0 (ez_lay [.ref 0, .int x]) [] (ev_hp I J R T) 0 0 (lw_mid T (fun v I1 J1 R1 T1 => ((rl2 I1 J1 R1 T1 ∧ C3 (ck I1 J1)) ∧ d4 I1 J1 R1 T1) ∧ d6 I1 J1)) := r5_v (l4x_switched hX2 hh hr.1 x) (by rfl) cv_50_0 hX2 hh ao_1 hr.2
theorem l5m_switched (hX2 : X.1 < 2 ^ 31) (hh : cx_hok cx_B0 I R T) (hr : rl5 I J R T) (x : Int32) (hh1 : cx_hok cx_B0 I1 R1 T1) (hm : ((rl2 I1 J1 R1 T1 ∧ C3 (ck I1 J1)) ∧ d4 I1 J1 R1 T1) ∧ d6 I1 J1) : ev_W X 226 0 (ez_lay [.ref 35, .int x]) [] (ev_hp I1 J1 R1 T1) 0 0 (lw_mid T1 (fun u I2 J2 R2 T2 => rl5 I2 J2 R2 T2)) := r5_m (l4m_switched hX2 hh hr.1 x hh1 hm.1) (fun N => keep_n (N := N) (by decide +kernel)) hm.2
theorem l5x_count (hX2 : X.1 < 2 ^ 31) (hh : cx_hok cx_B0 I R T) (hr : rl5 I J R T) (x y : Int32) : ev_W X 14 0 (ez_lay [.ref 0, .int x, .int y]) [] (ev_hp I J R T) 0 0 (lw_mid T (fun v I1 J1 R1 T1 => (((mi_k ck_14_0.2.1 (kf_count x y) I J v I1 J1 R1 T1 ∧ cp I1 J1 R1 T1) ∧ ∃ K, C3 K ∧ ck I1 J1 = fx_count x y K) ∧ d4 I1 J1 R1 T1) ∧ d6 I1 J1)) := r5_v (l4x_count hX2 hh hr.1 x y) (by rfl) cv_14_0 hX2 hh ao_2 hr.2
theorem l5m_count (hX2 : X.1 < 2 ^ 31) (hh : cx_hok cx_B0 I R T) (hr : rl5 I J R T) (x y : Int32) (hh1 : cx_hok cx_B0 I1 R1 T1) (hm : (((mi_k ck_14_0.2.1 (kf_count x y) I J v I1 J1 R1 T1 ∧ cp I1 J1 R1 T1) ∧ ∃ K, C3 K ∧ ck I1 J1 = fx_count x y K) ∧ d4 I1 J1 R1 T1) ∧ d6 I1 J1) : ev_W X 182 0 (ez_lay [.ref 35, .int x, .int y]) [] (ev_hp I1 J1 R1 T1) 0 0 (lw_mid T1 (fun u I2 J2 R2 T2 => rl5 I2 J2 R2 T2)) := r5_m (l4m_count hX2 hh hr.1 x y hh1 hm.1) (fun N => keep_n (N := N) (by decide +kernel)) hm.2
theorem l5x_rim (hX2 : X.1 < 2 ^ 31) (hh : cx_hok cx_B0 I R T) (hr : rl5 I J R T) (x y : Int32) : ev_W X 40 0 (ez_lay [.ref 0, .int x, .int y]) [] (ev_hp I J R T) 0 0 (lw_mid T (fun v I1 J1 R1 T1 => ((rl2 I1 J1 R1 T1 ∧ C3 (ck I1 J1)) ∧ d4 I1 J1 R1 T1) ∧ d6 I1 J1)) := r5_v (l4x_rim hX2 hh hr.1 x y) (by rfl) cv_40_0 hX2 hh ao_2 hr.2
theorem l5m_rim (hX2 : X.1 < 2 ^ 31) (hh : cx_hok cx_B0 I R T) (hr : rl5 I J R T) (x y : Int32) (hh1 : cx_hok cx_B0 I1 R1 T1) (hm : ((rl2 I1 J1 R1 T1 ∧ C3 (ck I1 J1)) ∧ d4 I1 J1 R1 T1) ∧ d6 I1 J1) : ev_W X 217 0 (ez_lay [.ref 35, .int x, .int y]) [] (ev_hp I1 J1 R1 T1) 0 0 (lw_mid T1 (fun u I2 J2 R2 T2 => rl5 I2 J2 R2 T2)) := r5_m (l4m_rim hX2 hh hr.1 x y hh1 hm.1) (fun N => keep_n (N := N) (by decide +kernel)) hm.2
theorem l5x_fitting (hX2 : X.1 < 2 ^ 31) (hh : cx_hok cx_B0 I R T) (hr : rl5 I J R T) : ev_W X 17 0 (ez_lay [.ref 0]) [] (ev_hp I J R T) 0 0 (lw_mid T (fun v I1 J1 R1 T1 => ((rl2 I1 J1 R1 T1 ∧ C3 (ck I1 J1)) ∧ d4 I1 J1 R1 T1) ∧ d6 I1 J1)) := r5_v (l4x_fitting hX2 hh hr.1) (by rfl) cv_17_0 hX2 hh ao_0 hr.2
theorem l5m_fitting (hX2 : X.1 < 2 ^ 31) (hh : cx_hok cx_B0 I R T) (hr : rl5 I J R T) (hh1 : cx_hok cx_B0 I1 R1 T1) (hm : ((rl2 I1 J1 R1 T1 ∧ C3 (ck I1 J1)) ∧ d4 I1 J1 R1 T1) ∧ d6 I1 J1) : ev_W X 191 0 (ez_lay [.ref 35]) [] (ev_hp I1 J1 R1 T1) 0 0 (lw_mid T1 (fun u I2 J2 R2 T2 => rl5 I2 J2 R2 T2)) := r5_m (l4m_fitting hX2 hh hr.1 hh1 hm.1) (fun N => keep_n (N := N) (by decide +kernel)) hm.2
theorem l5x_clues (hX2 : X.1 < 2 ^ 31) (hh : cx_hok cx_B0 I R T) (hr : rl5 I J R T) (x : Int32) : ev_W X 13 0 (ez_lay [.ref 0, .int x]) [] (ev_hp I J R T) 0 0 (lw_mid T (fun v I1 J1 R1 T1 => ((rl2 I1 J1 R1 T1 ∧ C3 (ck I1 J1)) ∧ d4 I1 J1 R1 T1) ∧ d6 I1 J1)) := r5_v (l4x_clues hX2 hh hr.1 x) (by rfl) cv_13_0 hX2 hh ao_1 hr.2
theorem l5m_clues (hX2 : X.1 < 2 ^ 31) (hh : cx_hok cx_B0 I R T) (hr : rl5 I J R T) (x : Int32) (hh1 : cx_hok cx_B0 I1 R1 T1) (hm : ((rl2 I1 J1 R1 T1 ∧ C3 (ck I1 J1)) ∧ d4 I1 J1 R1 T1) ∧ d6 I1 J1) : ev_W X 181 0 (ez_lay [.ref 35, .int x]) [] (ev_hp I1 J1 R1 T1) 0 0 (lw_mid T1 (fun u I2 J2 R2 T2 => rl5 I2 J2 R2 T2)) := r5_m (l4m_clues hX2 hh hr.1 x hh1 hm.1) (fun N => keep_n (N := N) (by decide +kernel)) hm.2
theorem l5x_many (hX2 : X.1 < 2 ^ 31) (hh : cx_hok cx_B0 I R T) (hr : rl5 I J R T) (x : Int32) : ev_W X 33 0 (ez_lay [.ref 0, .int x]) [] (ev_hp I J R T) 0 0 (lw_mid T (fun v I1 J1 R1 T1 => ((rl2 I1 J1 R1 T1 ∧ C3 (ck I1 J1)) ∧ d4 I1 J1 R1 T1) ∧ d6 I1 J1)) := r5_v (l4x_many hX2 hh hr.1 x) (by rfl) cv_33_0 hX2 hh ao_1 hr.2
theorem l5m_many (hX2 : X.1 < 2 ^ 31) (hh : cx_hok cx_B0 I R T) (hr : rl5 I J R T) (x : Int32) (hh1 : cx_hok cx_B0 I1 R1 T1) (hm : ((rl2 I1 J1 R1 T1 ∧ C3 (ck I1 J1)) ∧ d4 I1 J1 R1 T1) ∧ d6 I1 J1) : ev_W X 210 0 (ez_lay [.ref 35, .int x]) [] (ev_hp I1 J1 R1 T1) 0 0 (lw_mid T1 (fun u I2 J2 R2 T2 => rl5 I2 J2 R2 T2)) := r5_m (l4m_many hX2 hh hr.1 x hh1 hm.1) (fun N => keep_n (N := N) (by decide +kernel)) hm.2
theorem lxc_need (hX2 : X.1 < 2 ^ 31) (hh : cx_hok cx_B0 I R T) (hr : rl5 I J R T) (x : Int32) : ev_W X 34 0 (ez_lay [.ref 0, .int x]) [] (ev_hp I J R T) 0 0 (lw_mid T (fun v I1 J1 R1 T1 => v = v_need I1 J1 x ∧ rl5 I1 J1 R1 T1)) := by
  refine (lxc_of (l5x_need hX2 hh hr x) (fun N => pe_mono (pe_xneed (N := N) hr.1.1 hr.2 hh) fun _ _ q => q.1) (by rfl) cv_34_0 hX2 hh ao_1).mono (lw_mono fun v I1 J1 R1 T1 q => ⟨?_, q.2.2⟩)
  rw [q.1, v_need_b q.2.1]
theorem lmc_need (hX2 : X.1 < 2 ^ 31) (hh : cx_hok cx_B0 I R T) (hr : rl5 I J R T) (x : Int32) (hh1 : cx_hok cx_B0 I1 R1 T1) (hm : v = v_need I1 J1 x ∧ rl5 I1 J1 R1 T1) : ev_W X 212 0 (ez_lay [.ref 35, .int x]) [] (ev_hp I1 J1 R1 T1) 0 0 (lw_mid T1 (fun u I2 J2 R2 T2 => u = v ∧ rl5 I2 J2 R2 T2)) := by
  refine (lmc_of (l5m_need hX2 hh hr x hh1 hm.2) (fun N => pe_mneed (N := N) hm.2.1.1.1.1 hm.2.1.1.1.2.1 hh1.1)).mono (lw_mono fun u I2 J2 R2 T2 q => ⟨?_, q.2⟩)
  rw [q.1, hm.1]
theorem lxc_hardest (hX2 : X.1 < 2 ^ 31) (hh : cx_hok cx_B0 I R T) (hr : rl5 I J R T) (x : Int32) : ev_W X 20 0 (ez_lay [.ref 0, .int x]) [] (ev_hp I J R T) 0 0 (lw_mid T (fun v I1 J1 R1 T1 => v = v_hardest I1 J1 x ∧ rl5 I1 J1 R1 T1)) := by
  refine (lxc_of (l5x_hardest hX2 hh hr x) (fun N => pe_mono (pe_xhardest (N := N) hr.1.1 hr.2 hh) fun _ _ q => q.1) (by rfl) cv_20_0 hX2 hh ao_1).mono (lw_mono fun v I1 J1 R1 T1 q => ⟨?_, q.2.2⟩)
  rw [q.1, v_hardest_b q.2.1]
theorem lmc_hardest (hX2 : X.1 < 2 ^ 31) (hh : cx_hok cx_B0 I R T) (hr : rl5 I J R T) (x : Int32) (hh1 : cx_hok cx_B0 I1 R1 T1) (hm : v = v_hardest I1 J1 x ∧ rl5 I1 J1 R1 T1) : ev_W X 196 0 (ez_lay [.ref 35, .int x]) [] (ev_hp I1 J1 R1 T1) 0 0 (lw_mid T1 (fun u I2 J2 R2 T2 => u = v ∧ rl5 I2 J2 R2 T2)) := by
  refine (lmc_of (l5m_hardest hX2 hh hr x hh1 hm.2) (fun N => pe_mhardest (N := N) hm.2.1.1.1.1 hm.2.1.1.1.2.1 hh1.1)).mono (lw_mono fun u I2 J2 R2 T2 q => ⟨?_, q.2⟩)
  rw [q.1, hm.1]
theorem l5_0 (h : rl4 ev_I0 ev_J0 ev_R0 []) : rl5 ev_I0 ev_J0 ev_R0 [] := ⟨h, Or.inl rfl⟩
end
end
