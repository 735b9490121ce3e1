section
/-! The reference: stray, blame, blamed. -/
section
variable {N : Nat} {X : ez_X} {I : Nat → Nat → Int32} {J : Nat → Nat → Int64} {R : Nat → Nat} {T : List ez_C} {Q : pw_Q} {cz kz : Nat}
set_option maxRecDepth 100000 in
theorem rb_r0  : ∀ G : ez_F, fx_up X 4 G 173 0 [.ref 35] [] (ev_hp I J R T) cz kz = G 173 4 [.ref 35, .int (-1 : Int32), .int (0 : Int32)] [] (ev_hp I J R T) cz kz := by
  intro G
  rfl
theorem ba_0 
    (H : pw N X 173 4 [.ref 35, .int (-1 : Int32), .int (0 : Int32)] [] (ev_hp I J R T) Q) : pw (N + 1) X 173 0 [.ref 35] [] (ev_hp I J R T) Q := by
  refine pw_seg (by decide) (fun _ _ => rb_r0) ?_
  exact H
set_option maxRecDepth 100000 in
theorem rb_r1 {a0 : Int32} {a1 : Int32} : ∀ G : ez_F, fx_up X 3 G 173 4 [.ref 35, .int a0, .int a1] [] (ev_hp I J R T) cz kz = G 173 9 [.ref 35, .int a0, .int a1] [.int (I 35 14), .int a1] (ev_hp I J R T) cz kz := by
  intro G
  rfl
set_option maxRecDepth 100000 in
theorem rb_r2 {a0 : Int32} {a1 : Int32} {a2 : Int32} {a3 : Int32} : ∀ G : ez_F, fx_up X 1 G 173 9 [.ref 35, .int a0, .int a1] [.int a2, .int a3] (ev_hp I J R T) cz kz = bif decide (a2 ≤ a3) then G 173 48 [.ref 35, .int a0, .int a1] [] (ev_hp I J R T) cz kz else G 173 12 [.ref 35, .int a0, .int a1] [] (ev_hp I J R T) cz kz := by
  intro G
  rfl
set_option maxRecDepth 100000 in
theorem rb_r3 {a0 : Int32} {a1 : Int32} : ∀ G : ez_F, fx_up X 2 G 173 48 [.ref 35, .int a0, .int a1] [] (ev_hp I J R T) cz kz = some (some (.int a0), (ev_hp I J R T), cz, kz) := by
  intro G
  rfl
set_option maxRecDepth 100000 in
theorem rb_r4 {a0 : Int32} {a1 : Int32} : ∀ G : ez_F, fx_up X 4 G 173 12 [.ref 35, .int a0, .int a1] [] (ev_hp I J R T) cz kz = G 173 18 [.ref 35, .int a0, .int a1] [.int (I 35 16), .int a1, .ref 35] (ev_hp I J R T) cz kz := by
  intro G
  rfl
set_option maxRecDepth 100000 in
theorem rb_r5 {a0 : Int32} {a1 : Int32} {a2 : Int32} {a3 : Int32} : ∀ G : ez_F, fx_up X 1 G 173 18 [.ref 35, .int a0, .int a1] [.int a2, .int a3, .ref 35] (ev_hp I J R T) cz kz = ev_C G 192 [.ref 35, .int a3, .int a2] (ev_hp I J R T) fun r h1 c1 k1 => G 173 21 [.ref 35, .int a0, .int a1] (r.toList ++ []) h1 (cz + c1) (kz + k1) := by
  intro G
  rfl
theorem ba_4 {b k : Int32}
    (H : (((I 35 14) ≤ k → Q (some (.int b)) (ev_hp I J R T)) ∧ (¬ ((I 35 14) ≤ k) → (∃ Q1 : pw_Q, pe N X 192 [.ref 35, .int k, .int (I 35 16)] (ev_hp I J R T) Q1 ∧ ∀ (r : Option Value) (h1 : ez_H), Q1 r h1 → pw N X 173 21 [.ref 35, .int b, .int k] (r.toList ++ []) h1 Q)))) : pw (N + 1) X 173 4 [.ref 35, .int b, .int k] [] (ev_hp I J R T) Q := by
  refine pw_seg (by decide) (fun _ _ => rb_r1) ?_
  refine pw_p (pw_if (by decide) (fun _ _ => rb_r2) (fun w1 => ?_) (fun w1 => ?_))
  · have h1 := H.1 w1
    exact pw_p (pw_ret (by decide) (fun _ _ => rb_r3) h1)
  · have h1 := H.2 w1
    refine pw_p (pw_seg (by decide) (fun _ _ => rb_r4) ?_)
    obtain ⟨Q1, hc, hk⟩ := h1
    exact pw_p (pw_call (by decide) (fun _ _ => rb_r5) hc hk)
set_option maxRecDepth 100000 in
theorem rb_r6 {a0 : Int32} {a1 : Int32} : ∀ G : ez_F, fx_up X 2 G 173 21 [.ref 35, .int a0, .int a1] [] (ev_hp I J R T) cz kz = ev_C G 233 [.ref 35] (ev_hp I J R T) fun r h1 c1 k1 => G 173 25 [.ref 35, .int a0, .int a1] (r.toList ++ []) h1 (cz + c1) (kz + k1) := by
  intro G
  rfl
theorem ba_21 {b k : Int32}
    (H : (∃ Q1 : pw_Q, pe N X 233 [.ref 35] (ev_hp I J R T) Q1 ∧ ∀ (r : Option Value) (h1 : ez_H), Q1 r h1 → pw N X 173 25 [.ref 35, .int b, .int k] (r.toList ++ []) h1 Q)) : pw (N + 1) X 173 21 [.ref 35, .int b, .int k] [] (ev_hp I J R T) Q := by
  obtain ⟨Q1, hc, hk⟩ := H
  exact pw_call (by decide) (fun _ _ => rb_r6) hc hk
set_option maxRecDepth 100000 in
theorem rb_r7 {a0 : Int32} {a1 : Int32} {a2 : Int32} : ∀ G : ez_F, fx_up X 4 G 173 25 [.ref 35, .int a0, .int a1] [.int a2] (ev_hp I J R T) cz kz = bif decide (a0 = (-1 : Int32)) then G 173 36 [.ref 35, .int a0, .int a1, .int a2] [] (ev_hp I J R T) cz kz else G 173 31 [.ref 35, .int a0, .int a1, .int a2] [] (ev_hp I J R T) cz kz := by
  intro G
  rfl
set_option maxRecDepth 100000 in
theorem rb_r8 {a0 : Int32} {a1 : Int32} {a2 : Int32} : ∀ G : ez_F, fx_up X 5 G 173 36 [.ref 35, .int a0, .int a1, .int a2] [] (ev_hp I J R T) cz kz = G 173 4 [.ref 35, .int a2, .int (a1 + (1 : Int32)), .int a2] [] (ev_hp I J R T) cz kz := by
  intro G
  rfl
set_option maxRecDepth 100000 in
theorem rb_r9 {a0 : Int32} {a1 : Int32} {a2 : Int32} : ∀ G : ez_F, fx_up X 3 G 173 31 [.ref 35, .int a0, .int a1, .int a2] [] (ev_hp I J R T) cz kz = bif decide (a0 ≤ a2) then G 173 40 [.ref 35, .int a0, .int a1, .int a2] [] (ev_hp I J R T) cz kz else G 173 36 [.ref 35, .int a0, .int a1, .int a2] [] (ev_hp I J R T) cz kz := by
  intro G
  rfl
set_option maxRecDepth 100000 in
theorem rb_r10 {a0 : Int32} {a1 : Int32} {a2 : Int32} : ∀ G : ez_F, fx_up X 4 G 173 40 [.ref 35, .int a0, .int a1, .int a2] [] (ev_hp I J R T) cz kz = G 173 4 [.ref 35, .int a0, .int (a1 + (1 : Int32)), .int a2] [] (ev_hp I J R T) cz kz := by
  intro G
  rfl
theorem ba_25 {b k v : Int32}
    (H : ((b = (-1 : Int32) → pw N X 173 4 [.ref 35, .int v, .int (k + (1 : Int32))] [] (ev_hp I J R T) Q) ∧ (¬ (b = (-1 : Int32)) → ((b ≤ v → pw N X 173 4 [.ref 35, .int b, .int (k + (1 : Int32))] [] (ev_hp I J R T) Q) ∧ (¬ (b ≤ v) → pw N X 173 4 [.ref 35, .int v, .int (k + (1 : Int32))] [] (ev_hp I J R T) Q))))) : pw (N + 1) X 173 25 [.ref 35, .int b, .int k] [.int v] (ev_hp I J R T) Q := by
  refine pw_if (by decide) (fun _ _ => rb_r7) (fun w1 => ?_) (fun w1 => ?_)
  · have h1 := H.1 w1
    refine pw_p (pw_seg (by decide) (fun _ _ => rb_r8) ?_)
    refine pw_cutl (by rfl) ?_
    exact h1
  · have h1 := H.2 w1
    refine pw_p (pw_if (by decide) (fun _ _ => rb_r9) (fun w2 => ?_) (fun w2 => ?_))
    · have h2 := h1.1 w2
      refine pw_p (pw_seg (by decide) (fun _ _ => rb_r10) ?_)
      refine pw_cutl (by rfl) ?_
      exact h2
    · have h2 := h1.2 w2
      refine pw_p (pw_seg (by decide) (fun _ _ => rb_r8) ?_)
      refine pw_cutl (by rfl) ?_
      exact h2
set_option maxRecDepth 100000 in
theorem rb_r11  : ∀ G : ez_F, fx_up X 2 G 172 0 [.ref 35] [] (ev_hp I J R T) cz kz = ev_C G 167 [.ref 35] (ev_hp I J R T) fun r h1 c1 k1 => G 172 4 [.ref 35] (r.toList ++ []) h1 (cz + c1) (kz + k1) := by
  intro G
  rfl
theorem bb_0 
    (H : (∃ Q1 : pw_Q, pe N X 167 [.ref 35] (ev_hp I J R T) Q1 ∧ ∀ (r : Option Value) (h1 : ez_H), Q1 r h1 → pw N X 172 4 [.ref 35] (r.toList ++ []) h1 Q)) : pw (N + 1) X 172 0 [.ref 35] [] (ev_hp I J R T) Q := by
  obtain ⟨Q1, hc, hk⟩ := H
  exact pw_call (by decide) (fun _ _ => rb_r11) hc hk
set_option maxRecDepth 100000 in
theorem rb_r12 {a0 : Int32} : ∀ G : ez_F, fx_up X 1 G 172 4 [.ref 35] [.int a0] (ev_hp I J R T) cz kz = bif decide (a0 = (0 : Int32)) then G 172 14 [.ref 35] [] (ev_hp I J R T) cz kz else G 172 7 [.ref 35] [] (ev_hp I J R T) cz kz := by
  intro G
  rfl
set_option maxRecDepth 100000 in
theorem rb_r13  : ∀ G : ez_F, fx_up X 2 G 172 14 [.ref 35] [] (ev_hp I J R T) cz kz = some (some (.int (-6 : Int32)), (ev_hp I J R T), cz, kz) := by
  intro G
  rfl
set_option maxRecDepth 100000 in
theorem rb_r14  : ∀ G : ez_F, fx_up X 2 G 172 7 [.ref 35] [] (ev_hp I J R T) cz kz = ev_C G 173 [.ref 35] (ev_hp I J R T) fun r h1 c1 k1 => G 172 11 [.ref 35] (r.toList ++ []) h1 (cz + c1) (kz + k1) := by
  intro G
  rfl
theorem bb_4 {v : Int32}
    (H : ((v = (0 : Int32) → Q (some (.int (-6 : Int32))) (ev_hp I J R T)) ∧ (¬ (v = (0 : Int32)) → (∃ Q1 : pw_Q, pe N X 173 [.ref 35] (ev_hp I J R T) Q1 ∧ ∀ (r : Option Value) (h1 : ez_H), Q1 r h1 → pw N X 172 11 [.ref 35] (r.toList ++ []) h1 Q)))) : pw (N + 1) X 172 4 [.ref 35] [.int v] (ev_hp I J R T) Q := by
  refine pw_if (by decide) (fun _ _ => rb_r12) (fun w1 => ?_) (fun w1 => ?_)
  · have h1 := H.1 w1
    exact pw_p (pw_ret (by decide) (fun _ _ => rb_r13) h1)
  · have h1 := H.2 w1
    obtain ⟨Q1, hc, hk⟩ := h1
    exact pw_p (pw_call (by decide) (fun _ _ => rb_r14) hc hk)
set_option maxRecDepth 100000 in
theorem rb_r15 {a0 : Int32} : ∀ G : ez_F, fx_up X 2 G 172 11 [.ref 35] [.int a0] (ev_hp I J R T) cz kz = some (some (.int a0), (ev_hp I J R T), cz, kz) := by
  intro G
  rfl
theorem bb_11 {v : Int32}
    (H : Q (some (.int v)) (ev_hp I J R T)) : pw (N + 1) X 172 11 [.ref 35] [.int v] (ev_hp I J R T) Q := by
  exact pw_ret (by decide) (fun _ _ => rb_r15) H
set_option maxRecDepth 100000 in
theorem rb_r16  : ∀ G : ez_F, fx_up X 2 G 174 0 [.ref 35] [] (ev_hp I J R T) cz kz = ev_C G 167 [.ref 35] (ev_hp I J R T) fun r h1 c1 k1 => G 174 4 [.ref 35] (r.toList ++ []) h1 (cz + c1) (kz + k1) := by
  intro G
  rfl
theorem bw_0 
    (H : (∃ Q1 : pw_Q, pe N X 167 [.ref 35] (ev_hp I J R T) Q1 ∧ ∀ (r : Option Value) (h1 : ez_H), Q1 r h1 → pw N X 174 4 [.ref 35] (r.toList ++ []) h1 Q)) : pw (N + 1) X 174 0 [.ref 35] [] (ev_hp I J R T) Q := by
  obtain ⟨Q1, hc, hk⟩ := H
  exact pw_call (by decide) (fun _ _ => rb_r16) hc hk
set_option maxRecDepth 100000 in
theorem rb_r17 {a0 : Int32} : ∀ G : ez_F, fx_up X 1 G 174 4 [.ref 35] [.int a0] (ev_hp I J R T) cz kz = bif decide (¬ a0 = (0 : Int32)) then G 174 10 [.ref 35] [] (ev_hp I J R T) cz kz else G 174 7 [.ref 35] [] (ev_hp I J R T) cz kz := by
  intro G
  rfl
set_option maxRecDepth 100000 in
theorem rb_r18  : ∀ G : ez_F, fx_up X 2 G 174 10 [.ref 35] [] (ev_hp I J R T) cz kz = ev_C G 173 [.ref 35] (ev_hp I J R T) fun r h1 c1 k1 => G 174 14 [.ref 35] (r.toList ++ []) h1 (cz + c1) (kz + k1) := by
  intro G
  rfl
set_option maxRecDepth 100000 in
theorem rb_r19  : ∀ G : ez_F, fx_up X 2 G 174 7 [.ref 35] [] (ev_hp I J R T) cz kz = some (some (.int (-6 : Int32)), (ev_hp I J R T), cz, kz) := by
  intro G
  rfl
theorem bw_4 {v : Int32}
    (H : ((¬ v = (0 : Int32) → (∃ Q1 : pw_Q, pe N X 173 [.ref 35] (ev_hp I J R T) Q1 ∧ ∀ (r : Option Value) (h1 : ez_H), Q1 r h1 → pw N X 174 14 [.ref 35] (r.toList ++ []) h1 Q)) ∧ (¬ (¬ v = (0 : Int32)) → Q (some (.int (-6 : Int32))) (ev_hp I J R T)))) : pw (N + 1) X 174 4 [.ref 35] [.int v] (ev_hp I J R T) Q := by
  refine pw_if (by decide) (fun _ _ => rb_r17) (fun w1 => ?_) (fun w1 => ?_)
  · have h1 := H.1 w1
    obtain ⟨Q1, hc, hk⟩ := h1
    exact pw_p (pw_call (by decide) (fun _ _ => rb_r18) hc hk)
  · have h1 := H.2 w1
    exact pw_p (pw_ret (by decide) (fun _ _ => rb_r19) h1)
set_option maxRecDepth 100000 in
theorem rb_r20 {a0 : Int32} : ∀ G : ez_F, fx_up X 3 G 174 14 [.ref 35] [.int a0] (ev_hp I J R T) cz kz = G 174 17 [.ref 35, .int a0, .int (0 : Int32)] [] (ev_hp I J R T) cz kz := by
  intro G
  rfl
theorem bw_14 {v : Int32}
    (H : pw N X 174 17 [.ref 35, .int v, .int (0 : Int32)] [] (ev_hp I J R T) Q) : pw (N + 1) X 174 14 [.ref 35] [.int v] (ev_hp I J R T) Q := by
  refine pw_seg (by decide) (fun _ _ => rb_r20) ?_
  exact H
set_option maxRecDepth 100000 in
theorem rb_r21 {a0 : Int32} {a1 : Int32} : ∀ G : ez_F, fx_up X 3 G 174 17 [.ref 35, .int a0, .int a1] [] (ev_hp I J R T) cz kz = G 174 22 [.ref 35, .int a0, .int a1] [.int (I 35 14), .int a1] (ev_hp I J R T) cz kz := by
  intro G
  rfl
set_option maxRecDepth 100000 in
theorem rb_r22 {a0 : Int32} {a1 : Int32} {a2 : Int32} {a3 : Int32} : ∀ G : ez_F, fx_up X 1 G 174 22 [.ref 35, .int a0, .int a1] [.int a2, .int a3] (ev_hp I J R T) cz kz = bif decide (a2 ≤ a3) then G 174 109 [.ref 35, .int a0, .int a1] [] (ev_hp I J R T) cz kz else G 174 25 [.ref 35, .int a0, .int a1] [] (ev_hp I J R T) cz kz := by
  intro G
  rfl
set_option maxRecDepth 100000 in
theorem rb_r23 {a0 : Int32} {a1 : Int32} : ∀ G : ez_F, fx_up X 2 G 174 109 [.ref 35, .int a0, .int a1] [] (ev_hp I J R T) cz kz = some (some (.int (0 : Int32)), (ev_hp I J R T), cz, kz) := by
  intro G
  rfl
set_option maxRecDepth 100000 in
theorem rb_r24 {a0 : Int32} {a1 : Int32} : ∀ G : ez_F, fx_up X 4 G 174 25 [.ref 35, .int a0, .int a1] [] (ev_hp I J R T) cz kz = G 174 31 [.ref 35, .int a0, .int a1] [.int (I 35 16), .int a1, .ref 35] (ev_hp I J R T) cz kz := by
  intro G
  rfl
set_option maxRecDepth 100000 in
theorem rb_r25 {a0 : Int32} {a1 : Int32} {a2 : Int32} {a3 : Int32} : ∀ G : ez_F, fx_up X 1 G 174 31 [.ref 35, .int a0, .int a1] [.int a2, .int a3, .ref 35] (ev_hp I J R T) cz kz = ev_C G 192 [.ref 35, .int a3, .int a2] (ev_hp I J R T) fun r h1 c1 k1 => G 174 34 [.ref 35, .int a0, .int a1] (r.toList ++ []) h1 (cz + c1) (kz + k1) := by
  intro G
  rfl
theorem bw_17 {b k : Int32}
    (H : (((I 35 14) ≤ k → Q (some (.int (0 : Int32))) (ev_hp I J R T)) ∧ (¬ ((I 35 14) ≤ k) → (∃ Q1 : pw_Q, pe N X 192 [.ref 35, .int k, .int (I 35 16)] (ev_hp I J R T) Q1 ∧ ∀ (r : Option Value) (h1 : ez_H), Q1 r h1 → pw N X 174 34 [.ref 35, .int b, .int k] (r.toList ++ []) h1 Q)))) : pw (N + 1) X 174 17 [.ref 35, .int b, .int k] [] (ev_hp I J R T) Q := by
  refine pw_seg (by decide) (fun _ _ => rb_r21) ?_
  refine pw_p (pw_if (by decide) (fun _ _ => rb_r22) (fun w1 => ?_) (fun w1 => ?_))
  · have h1 := H.1 w1
    exact pw_p (pw_ret (by decide) (fun _ _ => rb_r23) h1)
  · have h1 := H.2 w1
    refine pw_p (pw_seg (by decide) (fun _ _ => rb_r24) ?_)
    obtain ⟨Q1, hc, hk⟩ := h1
    exact pw_p (pw_call (by decide) (fun _ _ => rb_r25) hc hk)
set_option maxRecDepth 100000 in
theorem rb_r26 {a0 : Int32} {a1 : Int32} : ∀ G : ez_F, fx_up X 2 G 174 34 [.ref 35, .int a0, .int a1] [] (ev_hp I J R T) cz kz = ev_C G 233 [.ref 35] (ev_hp I J R T) fun r h1 c1 k1 => G 174 38 [.ref 35, .int a0, .int a1] (r.toList ++ []) h1 (cz + c1) (kz + k1) := by
  intro G
  rfl
theorem bw_34 {b k : Int32}
    (H : (∃ Q1 : pw_Q, pe N X 233 [.ref 35] (ev_hp I J R T) Q1 ∧ ∀ (r : Option Value) (h1 : ez_H), Q1 r h1 → pw N X 174 38 [.ref 35, .int b, .int k] (r.toList ++ []) h1 Q)) : pw (N + 1) X 174 34 [.ref 35, .int b, .int k] [] (ev_hp I J R T) Q := by
  obtain ⟨Q1, hc, hk⟩ := H
  exact pw_call (by decide) (fun _ _ => rb_r26) hc hk
set_option maxRecDepth 100000 in
theorem rb_r27 {a0 : Int32} {a1 : Int32} {a2 : Int32} : ∀ G : ez_F, fx_up X 2 G 174 38 [.ref 35, .int a0, .int a1] [.int a2] (ev_hp I J R T) cz kz = bif decide (¬ a2 = a0) then G 174 103 [.ref 35, .int a0, .int a1] [] (ev_hp I J R T) cz kz else G 174 42 [.ref 35, .int a0, .int a1] [] (ev_hp I J R T) cz kz := by
  intro G
  rfl
set_option maxRecDepth 100000 in
theorem rb_r28 {a0 : Int32} {a1 : Int32} : ∀ G : ez_F, fx_up X 2 G 174 103 [.ref 35, .int a0, .int a1] [] (ev_hp I J R T) cz kz = G 174 17 [.ref 35, .int a0, .int (a1 + (1 : Int32))] [] (ev_hp I J R T) cz kz := by
  intro G
  rfl
set_option maxRecDepth 100000 in
theorem rb_r29 {a0 : Int32} {a1 : Int32} : ∀ G : ez_F, fx_up X 4 G 174 42 [.ref 35, .int a0, .int a1] [] (ev_hp I J R T) cz kz = G 174 47 [.ref 35, .int a0, .int a1, .int (0 : Int32), .int (0 : Int32)] [] (ev_hp I J R T) cz kz := by
  intro G
  rfl
theorem bw_38 {b k v : Int32}
    (H : ((¬ v = b → pw N X 174 17 [.ref 35, .int b, .int (k + (1 : Int32))] [] (ev_hp I J R T) Q) ∧ (¬ (¬ v = b) → pw N X 174 47 [.ref 35, .int b, .int k, .int (0 : Int32), .int (0 : Int32)] [] (ev_hp I J R T) Q))) : pw (N + 1) X 174 38 [.ref 35, .int b, .int k] [.int v] (ev_hp I J R T) Q := by
  refine pw_if (by decide) (fun _ _ => rb_r27) (fun w1 => ?_) (fun w1 => ?_)
  · have h1 := H.1 w1
    refine pw_p (pw_seg (by decide) (fun _ _ => rb_r28) ?_)
    exact h1
  · have h1 := H.2 w1
    refine pw_p (pw_seg (by decide) (fun _ _ => rb_r29) ?_)
    exact h1
set_option maxRecDepth 100000 in
theorem rb_r30 {a0 : Int32} {a1 : Int32} {a2 : Int32} {a3 : Int32} : ∀ G : ez_F, fx_up X 3 G 174 47 [.ref 35, .int a0, .int a1, .int a2, .int a3] [] (ev_hp I J R T) cz kz = G 174 53 [.ref 35, .int a0, .int a1, .int a2, .int a3] [.int (I 35 16), .int a3] (ev_hp I J R T) cz kz := by
  intro G
  rfl
set_option maxRecDepth 100000 in
theorem rb_r31 {a0 : Int32} {a1 : Int32} {a2 : Int32} {a3 : Int32} {a4 : Int32} {a5 : Int32} : ∀ G : ez_F, fx_up X 1 G 174 53 [.ref 35, .int a0, .int a1, .int a2, .int a3] [.int a4, .int a5] (ev_hp I J R T) cz kz = bif decide (a4 ≤ a5) then G 174 101 [.ref 35, .int a0, .int a1, .int a2, .int a3] [] (ev_hp I J R T) cz kz else G 174 56 [.ref 35, .int a0, .int a1, .int a2, .int a3] [] (ev_hp I J R T) cz kz := by
  intro G
  rfl
set_option maxRecDepth 100000 in
theorem rb_r32 {a0 : Int32} {a1 : Int32} {a2 : Int32} {a3 : Int32} : ∀ G : ez_F, fx_up X 2 G 174 101 [.ref 35, .int a0, .int a1, .int a2, .int a3] [] (ev_hp I J R T) cz kz = some (some (.int a2), (ev_hp I J R T), cz, kz) := by
  intro G
  rfl
set_option maxRecDepth 100000 in
theorem rb_r33 {a0 : Int32} {a1 : Int32} {a2 : Int32} {a3 : Int32} : ∀ G : ez_F, fx_up X 4 G 174 56 [.ref 35, .int a0, .int a1, .int a2, .int a3] [] (ev_hp I J R T) cz kz = G 174 63 [.ref 35, .int a0, .int a1, .int a2, .int a3] [.int a3, .ref 44, .int a2] (ev_hp I J R T) cz kz := by
  intro G
  rfl
set_option maxRecDepth 100000 in
theorem rb_r34 {a0 : Int32} {a1 : Int32} {a2 : Int32} {a3 : Int32} {a4 : Int32} {a5 : Int32} : ∀ G : ez_F, fx_up X 2 G 174 64 [.ref 35, .int a0, .int a1, .int a2, .int a3] [.int a4, .int a5] (ev_hp I J R T) cz kz = bif decide (a4 = (-1 : Int32)) then G 174 92 [.ref 35, .int a0, .int a1, .int a2, .int a3] [.int a5] (ev_hp I J R T) cz kz else G 174 68 [.ref 35, .int a0, .int a1, .int a2, .int a3] [.int a5] (ev_hp I J R T) cz kz := by
  intro G
  rfl
set_option maxRecDepth 100000 in
theorem rb_r35 {a0 : Int32} {a1 : Int32} {a2 : Int32} {a3 : Int32} {a4 : Int32} : ∀ G : ez_F, fx_up X 5 G 174 92 [.ref 35, .int a0, .int a1, .int a2, .int a3] [.int a4] (ev_hp I J R T) cz kz = G 174 47 [.ref 35, .int a0, .int a1, .int (a4 ||| (0 : Int32)), .int (a3 + (1 : Int32))] [] (ev_hp I J R T) cz kz := by
  intro G
  rfl
set_option maxRecDepth 100000 in
theorem rb_r36 {a0 : Int32} {a1 : Int32} {a2 : Int32} {a3 : Int32} {a4 : Int32} : ∀ G : ez_F, fx_up X 3 G 174 68 [.ref 35, .int a0, .int a1, .int a2, .int a3] [.int a4] (ev_hp I J R T) cz kz = G 174 74 [.ref 35, .int a0, .int a1, .int a2, .int a3] [.int a3, .ref 44, .int a4] (ev_hp I J R T) cz kz := by
  intro G
  rfl
set_option maxRecDepth 100000 in
theorem rb_r37 {a0 : Int32} {a1 : Int32} {a2 : Int32} {a3 : Int32} {a4 : Int32} {a5 : Int32} : ∀ G : ez_F, fx_up X 3 G 174 75 [.ref 35, .int a0, .int a1, .int a2, .int a3] [.int a4, .int a5] (ev_hp I J R T) cz kz = G 174 81 [.ref 35, .int a0, .int a1, .int a2, .int a3] [.int a3, .ref 48, .int a4, .int a5] (ev_hp I J R T) cz kz := by
  intro G
  rfl
set_option maxRecDepth 100000 in
theorem rb_r38 {a0 : Int32} {a1 : Int32} {a2 : Int32} {a3 : Int32} {a4 : Int32} {a5 : Int32} {a6 : Int32} : ∀ G : ez_F, fx_up X 1 G 174 82 [.ref 35, .int a0, .int a1, .int a2, .int a3] [.int a4, .int a5, .int a6] (ev_hp I J R T) cz kz = bif decide (a5 = a4) then G 174 92 [.ref 35, .int a0, .int a1, .int a2, .int a3] [.int a6] (ev_hp I J R T) cz kz else G 174 85 [.ref 35, .int a0, .int a1, .int a2, .int a3] [.int a6] (ev_hp I J R T) cz kz := by
  intro G
  rfl
set_option maxRecDepth 100000 in
theorem rb_r39 {a0 : Int32} {a1 : Int32} {a2 : Int32} {a3 : Int32} {a4 : Int32} : ∀ G : ez_F, fx_up X 8 G 174 85 [.ref 35, .int a0, .int a1, .int a2, .int a3] [.int a4] (ev_hp I J R T) cz kz = G 174 47 [.ref 35, .int a0, .int a1, .int (a4 ||| ((1 : Int32) <<< (a3 &&& (31 : Int32)))), .int (a3 + (1 : Int32))] [] (ev_hp I J R T) cz kz := by
  intro G
  rfl
theorem bw_47 {b k s c : Int32}
    (H : (((I 35 16) ≤ c → Q (some (.int s)) (ev_hp I J R T)) ∧ (¬ ((I 35 16) ≤ c) → (ev_ix c 30 → (((I 44 c.toNatClampNeg) = (-1 : Int32) → pw N X 174 47 [.ref 35, .int b, .int k, .int (s ||| (0 : Int32)), .int (c + (1 : Int32))] [] (ev_hp I J R T) Q) ∧ (¬ ((I 44 c.toNatClampNeg) = (-1 : Int32)) → (ev_ix c 30 → (ev_ix c 31 → (((I 44 c.toNatClampNeg) = (I 48 c.toNatClampNeg) → pw N X 174 47 [.ref 35, .int b, .int k, .int (s ||| (0 : Int32)), .int (c + (1 : Int32))] [] (ev_hp I J R T) Q) ∧ (¬ ((I 44 c.toNatClampNeg) = (I 48 c.toNatClampNeg)) → pw N X 174 47 [.ref 35, .int b, .int k, .int (s ||| ((1 : Int32) <<< (c &&& (31 : Int32)))), .int (c + (1 : Int32))] [] (ev_hp I J R T) Q)))))))))) : pw (N + 1) X 174 47 [.ref 35, .int b, .int k, .int s, .int c] [] (ev_hp I J R T) Q := by
  refine pw_seg (by decide) (fun _ _ => rb_r30) ?_
  refine pw_p (pw_if (by decide) (fun _ _ => rb_r31) (fun w1 => ?_) (fun w1 => ?_))
  · have h1 := H.1 w1
    exact pw_p (pw_ret (by decide) (fun _ _ => rb_r32) h1)
  · have h1 := H.2 w1
    refine pw_p (pw_seg (by decide) (fun _ _ => rb_r33) ?_)
    refine pw_p (pw_iald (by rfl) (cx_getI (show cx_Ds[44]? = some (0, 30, []) from rfl)) (fun w2 => ?_))
    have h2 := h1 w2
    refine pw_p (pw_if (by decide) (fun _ _ => rb_r34) (fun w2 => ?_) (fun w2 => ?_))
    · have h2 := h2.1 w2
      refine pw_p (pw_seg (by decide) (fun _ _ => rb_r35) ?_)
      exact h2
    · have h2 := h2.2 w2
      refine pw_p (pw_seg (by decide) (fun _ _ => rb_r36) ?_)
      refine pw_p (pw_iald (by rfl) (cx_getI (show cx_Ds[44]? = some (0, 30, []) from rfl)) (fun w3 => ?_))
      have h3 := h2 w3
      refine pw_p (pw_seg (by decide) (fun _ _ => rb_r37) ?_)
      refine pw_p (pw_iald (by rfl) (cx_getI (show cx_Ds[48]? = some (0, 31, []) from rfl)) (fun w3 => ?_))
      have h3 := h3 w3
      refine pw_p (pw_if (by decide) (fun _ _ => rb_r38) (fun w3 => ?_) (fun w3 => ?_))
      · have h3 := h3.1 w3
        refine pw_p (pw_seg (by decide) (fun _ _ => rb_r35) ?_)
        exact h3
      · have h3 := h3.2 w3
        refine pw_p (pw_seg (by decide) (fun _ _ => rb_r39) ?_)
        exact h3
set_option maxRecDepth 100000 in
theorem rb_r40  : ∀ G : ez_F, fx_up X 2 G 224 0 [.ref 35] [] (ev_hp I J R T) cz kz = ev_C G 167 [.ref 35] (ev_hp I J R T) fun r h1 c1 k1 => G 224 4 [.ref 35] (r.toList ++ []) h1 (cz + c1) (kz + k1) := by
  intro G
  rfl
theorem ra_0 
    (H : (∃ Q1 : pw_Q, pe N X 167 [.ref 35] (ev_hp I J R T) Q1 ∧ ∀ (r : Option Value) (h1 : ez_H), Q1 r h1 → pw N X 224 4 [.ref 35] (r.toList ++ []) h1 Q)) : pw (N + 1) X 224 0 [.ref 35] [] (ev_hp I J R T) Q := by
  obtain ⟨Q1, hc, hk⟩ := H
  exact pw_call (by decide) (fun _ _ => rb_r40) hc hk
set_option maxRecDepth 100000 in
theorem rb_r41 {a0 : Int32} : ∀ G : ez_F, fx_up X 1 G 224 4 [.ref 35] [.int a0] (ev_hp I J R T) cz kz = bif decide (¬ a0 = (0 : Int32)) then G 224 10 [.ref 35] [] (ev_hp I J R T) cz kz else G 224 7 [.ref 35] [] (ev_hp I J R T) cz kz := by
  intro G
  rfl
set_option maxRecDepth 100000 in
theorem rb_r42  : ∀ G : ez_F, fx_up X 4 G 224 10 [.ref 35] [] (ev_hp I J R T) cz kz = G 224 14 [.ref 35, .int (0 : Int32), .int (0 : Int32)] [] (ev_hp I J R T) cz kz := by
  intro G
  rfl
set_option maxRecDepth 100000 in
theorem rb_r43  : ∀ G : ez_F, fx_up X 2 G 224 7 [.ref 35] [] (ev_hp I J R T) cz kz = some (some (.int (-6 : Int32)), (ev_hp I J R T), cz, kz) := by
  intro G
  rfl
theorem ra_4 {v : Int32}
    (H : ((¬ v = (0 : Int32) → pw N X 224 14 [.ref 35, .int (0 : Int32), .int (0 : Int32)] [] (ev_hp I J R T) Q) ∧ (¬ (¬ v = (0 : Int32)) → Q (some (.int (-6 : Int32))) (ev_hp I J R T)))) : pw (N + 1) X 224 4 [.ref 35] [.int v] (ev_hp I J R T) Q := by
  refine pw_if (by decide) (fun _ _ => rb_r41) (fun w1 => ?_) (fun w1 => ?_)
  · have h1 := H.1 w1
    refine pw_p (pw_seg (by decide) (fun _ _ => rb_r42) ?_)
    exact h1
  · have h1 := H.2 w1
    exact pw_p (pw_ret (by decide) (fun _ _ => rb_r43) h1)
set_option maxRecDepth 100000 in
theorem rb_r44 {a0 : Int32} {a1 : Int32} : ∀ G : ez_F, fx_up X 3 G 224 14 [.ref 35, .int a0, .int a1] [] (ev_hp I J R T) cz kz = G 224 19 [.ref 35, .int a0, .int a1] [.int (I 35 14), .int a1] (ev_hp I J R T) cz kz := by
  intro G
  rfl
set_option maxRecDepth 100000 in
theorem rb_r45 {a0 : Int32} {a1 : Int32} {a2 : Int32} {a3 : Int32} : ∀ G : ez_F, fx_up X 1 G 224 19 [.ref 35, .int a0, .int a1] [.int a2, .int a3] (ev_hp I J R T) cz kz = bif decide (a2 ≤ a3) then G 224 107 [.ref 35, .int a0, .int a1] [] (ev_hp I J R T) cz kz else G 224 22 [.ref 35, .int a0, .int a1] [] (ev_hp I J R T) cz kz := by
  intro G
  rfl
set_option maxRecDepth 100000 in
theorem rb_r46 {a0 : Int32} {a1 : Int32} : ∀ G : ez_F, fx_up X 4 G 224 22 [.ref 35, .int a0, .int a1] [] (ev_hp I J R T) cz kz = G 224 28 [.ref 35, .int a0, .int a1] [.int (I 35 16), .int a1, .ref 35] (ev_hp I J R T) cz kz := by
  intro G
  rfl
set_option maxRecDepth 100000 in
theorem rb_r47 {a0 : Int32} {a1 : Int32} {a2 : Int32} {a3 : Int32} : ∀ G : ez_F, fx_up X 1 G 224 28 [.ref 35, .int a0, .int a1] [.int a2, .int a3, .ref 35] (ev_hp I J R T) cz kz = ev_C G 192 [.ref 35, .int a3, .int a2] (ev_hp I J R T) fun r h1 c1 k1 => G 224 31 [.ref 35, .int a0, .int a1] (r.toList ++ []) h1 (cz + c1) (kz + k1) := by
  intro G
  rfl
theorem ra_14 {f k : Int32}
    (H : (((I 35 14) ≤ k → pw N X 224 107 [.ref 35, .int f, .int k] [] (ev_hp I J R T) Q) ∧ (¬ ((I 35 14) ≤ k) → (∃ Q1 : pw_Q, pe N X 192 [.ref 35, .int k, .int (I 35 16)] (ev_hp I J R T) Q1 ∧ ∀ (r : Option Value) (h1 : ez_H), Q1 r h1 → pw N X 224 31 [.ref 35, .int f, .int k] (r.toList ++ []) h1 Q)))) : pw (N + 1) X 224 14 [.ref 35, .int f, .int k] [] (ev_hp I J R T) Q := by
  refine pw_seg (by decide) (fun _ _ => rb_r44) ?_
  refine pw_p (pw_if (by decide) (fun _ _ => rb_r45) (fun w1 => ?_) (fun w1 => ?_))
  · have h1 := H.1 w1
    exact h1
  · have h1 := H.2 w1
    refine pw_p (pw_seg (by decide) (fun _ _ => rb_r46) ?_)
    obtain ⟨Q1, hc, hk⟩ := h1
    exact pw_p (pw_call (by decide) (fun _ _ => rb_r47) hc hk)
set_option maxRecDepth 100000 in
theorem rb_r48 {a0 : Int32} {a1 : Int32} : ∀ G : ez_F, fx_up X 2 G 224 31 [.ref 35, .int a0, .int a1] [] (ev_hp I J R T) cz kz = G 224 35 [.ref 35, .int a0, .int a1] [.int (I 35 16)] (ev_hp I J R T) cz kz := by
  intro G
  rfl
set_option maxRecDepth 100000 in
theorem rb_r49 {a0 : Int32} {a1 : Int32} {a2 : Int32} : ∀ G : ez_F, fx_up X 3 G 224 35 [.ref 35, .int a0, .int a1] [.int a2] (ev_hp I J R T) cz kz = G 224 40 [.ref 35, .int a0, .int a1, .int a2] [.int (I 35 16)] (ev_hp I J R T) cz kz := by
  intro G
  rfl
set_option maxRecDepth 100000 in
theorem rb_r50 {a0 : Int32} {a1 : Int32} {a2 : Int32} {a3 : Int32} : ∀ G : ez_F, fx_up X 3 G 224 40 [.ref 35, .int a0, .int a1, .int a2] [.int a3] (ev_hp I J R T) cz kz = G 224 44 [.ref 35, .int a0, .int a1, .int a2, .int (a3 - (1 : Int32))] [] (ev_hp I J R T) cz kz := by
  intro G
  rfl
theorem ra_31 {f k : Int32}
    (H : pw N X 224 44 [.ref 35, .int f, .int k, .int (I 35 16), .int ((I 35 16) - (1 : Int32))] [] (ev_hp I J R T) Q) : pw (N + 1) X 224 31 [.ref 35, .int f, .int k] [] (ev_hp I J R T) Q := by
  refine pw_seg (by decide) (fun _ _ => rb_r48) ?_
  refine pw_p (pw_seg (by decide) (fun _ _ => rb_r49) ?_)
  refine pw_p (pw_seg (by decide) (fun _ _ => rb_r50) ?_)
  exact H
set_option maxRecDepth 100000 in
theorem rb_r51 {a0 : Int32} {a1 : Int32} {a2 : Int32} {a3 : Int32} : ∀ G : ez_F, fx_up X 2 G 224 44 [.ref 35, .int a0, .int a1, .int a2, .int a3] [] (ev_hp I J R T) cz kz = bif decide (a3 < (0 : Int32)) then G 224 90 [.ref 35, .int a0, .int a1, .int a2, .int a3] [] (ev_hp I J R T) cz kz else G 224 49 [.ref 35, .int a0, .int a1, .int a2, .int a3] [] (ev_hp I J R T) cz kz := by
  intro G
  rfl
set_option maxRecDepth 100000 in
theorem rb_r52 {a0 : Int32} {a1 : Int32} {a2 : Int32} {a3 : Int32} : ∀ G : ez_F, fx_up X 3 G 224 49 [.ref 35, .int a0, .int a1, .int a2, .int a3] [] (ev_hp I J R T) cz kz = G 224 55 [.ref 35, .int a0, .int a1, .int a2, .int a3] [.int a3, .ref 44] (ev_hp I J R T) cz kz := by
  intro G
  rfl
set_option maxRecDepth 100000 in
theorem rb_r53 {a0 : Int32} {a1 : Int32} {a2 : Int32} {a3 : Int32} {a4 : Int32} : ∀ G : ez_F, fx_up X 2 G 224 56 [.ref 35, .int a0, .int a1, .int a2, .int a3] [.int a4] (ev_hp I J R T) cz kz = bif decide (a4 = (-1 : Int32)) then G 224 82 [.ref 35, .int a0, .int a1, .int a2, .int a3] [] (ev_hp I J R T) cz kz else G 224 60 [.ref 35, .int a0, .int a1, .int a2, .int a3] [] (ev_hp I J R T) cz kz := by
  intro G
  rfl
set_option maxRecDepth 100000 in
theorem rb_r54 {a0 : Int32} {a1 : Int32} {a2 : Int32} {a3 : Int32} : ∀ G : ez_F, fx_up X 4 G 224 82 [.ref 35, .int a0, .int a1, .int a2, .int a3] [] (ev_hp I J R T) cz kz = G 224 44 [.ref 35, .int a0, .int a1, .int a2, .int (a3 + (-1 : Int32))] [] (ev_hp I J R T) cz kz := by
  intro G
  rfl
set_option maxRecDepth 100000 in
theorem rb_r55 {a0 : Int32} {a1 : Int32} {a2 : Int32} {a3 : Int32} : ∀ G : ez_F, fx_up X 3 G 224 60 [.ref 35, .int a0, .int a1, .int a2, .int a3] [] (ev_hp I J R T) cz kz = G 224 66 [.ref 35, .int a0, .int a1, .int a2, .int a3] [.int a3, .ref 44] (ev_hp I J R T) cz kz := by
  intro G
  rfl
set_option maxRecDepth 100000 in
theorem rb_r56 {a0 : Int32} {a1 : Int32} {a2 : Int32} {a3 : Int32} {a4 : Int32} : ∀ G : ez_F, fx_up X 3 G 224 67 [.ref 35, .int a0, .int a1, .int a2, .int a3] [.int a4] (ev_hp I J R T) cz kz = G 224 73 [.ref 35, .int a0, .int a1, .int a2, .int a3] [.int a3, .ref 48, .int a4] (ev_hp I J R T) cz kz := by
  intro G
  rfl
set_option maxRecDepth 100000 in
theorem rb_r57 {a0 : Int32} {a1 : Int32} {a2 : Int32} {a3 : Int32} {a4 : Int32} {a5 : Int32} : ∀ G : ez_F, fx_up X 1 G 224 74 [.ref 35, .int a0, .int a1, .int a2, .int a3] [.int a4, .int a5] (ev_hp I J R T) cz kz = bif decide (a5 = a4) then G 224 82 [.ref 35, .int a0, .int a1, .int a2, .int a3] [] (ev_hp I J R T) cz kz else G 224 77 [.ref 35, .int a0, .int a1, .int a2, .int a3] [] (ev_hp I J R T) cz kz := by
  intro G
  rfl
set_option maxRecDepth 100000 in
theorem rb_r58 {a0 : Int32} {a1 : Int32} {a2 : Int32} {a3 : Int32} : ∀ G : ez_F, fx_up X 5 G 224 77 [.ref 35, .int a0, .int a1, .int a2, .int a3] [] (ev_hp I J R T) cz kz = G 224 44 [.ref 35, .int a0, .int a1, .int a3, .int (a3 + (-1 : Int32))] [] (ev_hp I J R T) cz kz := by
  intro G
  rfl
theorem ra_44 {f k g c : Int32}
    (H : ((c < (0 : Int32) → pw N X 224 90 [.ref 35, .int f, .int k, .int g, .int c] [] (ev_hp I J R T) Q) ∧ (¬ (c < (0 : Int32)) → (ev_ix c 30 → (((I 44 c.toNatClampNeg) = (-1 : Int32) → pw N X 224 44 [.ref 35, .int f, .int k, .int g, .int (c + (-1 : Int32))] [] (ev_hp I J R T) Q) ∧ (¬ ((I 44 c.toNatClampNeg) = (-1 : Int32)) → (ev_ix c 30 → (ev_ix c 31 → (((I 44 c.toNatClampNeg) = (I 48 c.toNatClampNeg) → pw N X 224 44 [.ref 35, .int f, .int k, .int g, .int (c + (-1 : Int32))] [] (ev_hp I J R T) Q) ∧ (¬ ((I 44 c.toNatClampNeg) = (I 48 c.toNatClampNeg)) → pw N X 224 44 [.ref 35, .int f, .int k, .int c, .int (c + (-1 : Int32))] [] (ev_hp I J R T) Q)))))))))) : pw (N + 1) X 224 44 [.ref 35, .int f, .int k, .int g, .int c] [] (ev_hp I J R T) Q := by
  refine pw_if (by decide) (fun _ _ => rb_r51) (fun w1 => ?_) (fun w1 => ?_)
  · have h1 := H.1 w1
    exact h1
  · have h1 := H.2 w1
    refine pw_p (pw_seg (by decide) (fun _ _ => rb_r52) ?_)
    refine pw_p (pw_iald (by rfl) (cx_getI (show cx_Ds[44]? = some (0, 30, []) from rfl)) (fun w2 => ?_))
    have h2 := h1 w2
    refine pw_p (pw_if (by decide) (fun _ _ => rb_r53) (fun w2 => ?_) (fun w2 => ?_))
    · have h2 := h2.1 w2
      refine pw_p (pw_seg (by decide) (fun _ _ => rb_r54) ?_)
      exact h2
    · have h2 := h2.2 w2
      refine pw_p (pw_seg (by decide) (fun _ _ => rb_r55) ?_)
      refine pw_p (pw_iald (by rfl) (cx_getI (show cx_Ds[44]? = some (0, 30, []) from rfl)) (fun w3 => ?_))
      have h3 := h2 w3
      refine pw_p (pw_seg (by decide) (fun _ _ => rb_r56) ?_)
      refine pw_p (pw_iald (by rfl) (cx_getI (show cx_Ds[48]? = some (0, 31, []) from rfl)) (fun w3 => ?_))
      have h3 := h3 w3
      refine pw_p (pw_if (by decide) (fun _ _ => rb_r57) (fun w3 => ?_) (fun w3 => ?_))
      · have h3 := h3.1 w3
        refine pw_p (pw_seg (by decide) (fun _ _ => rb_r54) ?_)
        exact h3
      · have h3 := h3.2 w3
        refine pw_p (pw_seg (by decide) (fun _ _ => rb_r58) ?_)
        exact h3
set_option maxRecDepth 100000 in
theorem rb_r59 {a0 : Int32} {a1 : Int32} {a2 : Int32} {a3 : Int32} : ∀ G : ez_F, fx_up X 3 G 224 90 [.ref 35, .int a0, .int a1, .int a2, .int a3] [] (ev_hp I J R T) cz kz = bif decide (a2 ≤ a0) then G 224 99 [.ref 35, .int a0, .int a1, .int a2, .int a3] [] (ev_hp I J R T) cz kz else G 224 95 [.ref 35, .int a0, .int a1, .int a2, .int a3] [] (ev_hp I J R T) cz kz := by
  intro G
  rfl
set_option maxRecDepth 100000 in
theorem rb_r60 {a0 : Int32} {a1 : Int32} {a2 : Int32} {a3 : Int32} : ∀ G : ez_F, fx_up X 4 G 224 99 [.ref 35, .int a0, .int a1, .int a2, .int a3] [] (ev_hp I J R T) cz kz = G 224 14 [.ref 35, .int a0, .int (a1 + (1 : Int32)), .int a2, .int a3] [] (ev_hp I J R T) cz kz := by
  intro G
  rfl
set_option maxRecDepth 100000 in
theorem rb_r61 {a0 : Int32} {a1 : Int32} {a2 : Int32} {a3 : Int32} : ∀ G : ez_F, fx_up X 5 G 224 95 [.ref 35, .int a0, .int a1, .int a2, .int a3] [] (ev_hp I J R T) cz kz = G 224 14 [.ref 35, .int a2, .int (a1 + (1 : Int32)), .int a2, .int a3] [] (ev_hp I J R T) cz kz := by
  intro G
  rfl
theorem ra_90 {f k g c : Int32}
    (H : ((g ≤ f → pw N X 224 14 [.ref 35, .int f, .int (k + (1 : Int32))] [] (ev_hp I J R T) Q) ∧ (¬ (g ≤ f) → pw N X 224 14 [.ref 35, .int g, .int (k + (1 : Int32))] [] (ev_hp I J R T) Q))) : pw (N + 1) X 224 90 [.ref 35, .int f, .int k, .int g, .int c] [] (ev_hp I J R T) Q := by
  refine pw_if (by decide) (fun _ _ => rb_r59) (fun w1 => ?_) (fun w1 => ?_)
  · have h1 := H.1 w1
    refine pw_p (pw_seg (by decide) (fun _ _ => rb_r60) ?_)
    refine pw_cutl (by rfl) ?_
    exact h1
  · have h1 := H.2 w1
    refine pw_p (pw_seg (by decide) (fun _ _ => rb_r61) ?_)
    refine pw_cutl (by rfl) ?_
    exact h1
set_option maxRecDepth 100000 in
theorem rb_r62 {a0 : Int32} {a1 : Int32} : ∀ G : ez_F, fx_up X 3 G 224 107 [.ref 35, .int a0, .int a1] [] (ev_hp I J R T) cz kz = G 224 112 [.ref 35, .int a0, .int a1] [.int (I 35 16), .int a0] (ev_hp I J R T) cz kz := by
  intro G
  rfl
set_option maxRecDepth 100000 in
theorem rb_r63 {a0 : Int32} {a1 : Int32} {a2 : Int32} {a3 : Int32} : ∀ G : ez_F, fx_up X 1 G 224 112 [.ref 35, .int a0, .int a1] [.int a2, .int a3] (ev_hp I J R T) cz kz = bif decide (a2 ≤ a3) then G 224 131 [.ref 35, .int a0, .int a1] [] (ev_hp I J R T) cz kz else G 224 115 [.ref 35, .int a0, .int a1] [] (ev_hp I J R T) cz kz := by
  intro G
  rfl
set_option maxRecDepth 100000 in
theorem rb_r64 {a0 : Int32} {a1 : Int32} : ∀ G : ez_F, fx_up X 3 G 224 131 [.ref 35, .int a0, .int a1] [] (ev_hp I J R T) cz kz = G 224 136 [.ref 35, .int a0, .int a1] [.int (I 35 16), .int a0] (ev_hp I J R T) cz kz := by
  intro G
  rfl
set_option maxRecDepth 100000 in
theorem rb_r65 {a0 : Int32} {a1 : Int32} {a2 : Int32} {a3 : Int32} : ∀ G : ez_F, fx_up X 1 G 224 136 [.ref 35, .int a0, .int a1] [.int a2, .int a3] (ev_hp I J R T) cz kz = bif decide (a2 ≤ a3) then G 224 143 [.ref 35, .int a0, .int a1] [] (ev_hp I J R T) cz kz else G 224 139 [.ref 35, .int a0, .int a1] [] (ev_hp I J R T) cz kz := by
  intro G
  rfl
set_option maxRecDepth 100000 in
theorem rb_r66 {a0 : Int32} {a1 : Int32} : ∀ G : ez_F, fx_up X 2 G 224 143 [.ref 35, .int a0, .int a1] [] (ev_hp I J R T) cz kz = some (some (.int (-1 : Int32)), (ev_hp I J R T), cz, kz) := by
  intro G
  rfl
set_option maxRecDepth 100000 in
theorem rb_r67 {a0 : Int32} {a1 : Int32} : ∀ G : ez_F, fx_up X 3 G 224 139 [.ref 35, .int a0, .int a1] [] (ev_hp I J R T) cz kz = some (some (.int a0), (ev_hp I J R T), cz, kz) := by
  intro G
  rfl
set_option maxRecDepth 100000 in
theorem rb_r68 {a0 : Int32} {a1 : Int32} : ∀ G : ez_F, fx_up X 3 G 224 115 [.ref 35, .int a0, .int a1] [] (ev_hp I J R T) cz kz = G 224 120 [.ref 35, .int a0, .int a1] [.int a0, .ref 44] (ev_hp I J R T) cz kz := by
  intro G
  rfl
set_option maxRecDepth 100000 in
theorem rb_r69 {a0 : Int32} {a1 : Int32} {a2 : Int32} : ∀ G : ez_F, fx_up X 2 G 224 121 [.ref 35, .int a0, .int a1] [.int a2] (ev_hp I J R T) cz kz = bif decide (¬ a2 = (-1 : Int32)) then G 224 131 [.ref 35, .int a0, .int a1] [] (ev_hp I J R T) cz kz else G 224 125 [.ref 35, .int a0, .int a1] [] (ev_hp I J R T) cz kz := by
  intro G
  rfl
set_option maxRecDepth 100000 in
theorem rb_r70 {a0 : Int32} {a1 : Int32} : ∀ G : ez_F, fx_up X 2 G 224 125 [.ref 35, .int a0, .int a1] [] (ev_hp I J R T) cz kz = G 224 107 [.ref 35, .int (a0 + (1 : Int32)), .int a1] [] (ev_hp I J R T) cz kz := by
  intro G
  rfl
theorem ra_107 {f k : Int32}
    (H : (((I 35 16) ≤ f → (((I 35 16) ≤ f → Q (some (.int (-1 : Int32))) (ev_hp I J R T)) ∧ (¬ ((I 35 16) ≤ f) → Q (some (.int f)) (ev_hp I J R T)))) ∧ (¬ ((I 35 16) ≤ f) → (ev_ix f 30 → ((¬ (I 44 f.toNatClampNeg) = (-1 : Int32) → (((I 35 16) ≤ f → Q (some (.int (-1 : Int32))) (ev_hp I J R T)) ∧ (¬ ((I 35 16) ≤ f) → Q (some (.int f)) (ev_hp I J R T)))) ∧ (¬ (¬ (I 44 f.toNatClampNeg) = (-1 : Int32)) → pw N X 224 107 [.ref 35, .int (f + (1 : Int32)), .int k] [] (ev_hp I J R T) Q)))))) : pw (N + 1) X 224 107 [.ref 35, .int f, .int k] [] (ev_hp I J R T) Q := by
  refine pw_seg (by decide) (fun _ _ => rb_r62) ?_
  refine pw_p (pw_if (by decide) (fun _ _ => rb_r63) (fun w1 => ?_) (fun w1 => ?_))
  · have h1 := H.1 w1
    refine pw_p (pw_seg (by decide) (fun _ _ => rb_r64) ?_)
    refine pw_p (pw_if (by decide) (fun _ _ => rb_r65) (fun w2 => ?_) (fun w2 => ?_))
    · have h2 := h1.1 w2
      exact pw_p (pw_ret (by decide) (fun _ _ => rb_r66) h2)
    · have h2 := h1.2 w2
      exact pw_p (pw_ret (by decide) (fun _ _ => rb_r67) h2)
  · have h1 := H.2 w1
    refine pw_p (pw_seg (by decide) (fun _ _ => rb_r68) ?_)
    refine pw_p (pw_iald (by rfl) (cx_getI (show cx_Ds[44]? = some (0, 30, []) from rfl)) (fun w2 => ?_))
    have h2 := h1 w2
    refine pw_p (pw_if (by decide) (fun _ _ => rb_r69) (fun w2 => ?_) (fun w2 => ?_))
    · have h2 := h2.1 w2
      refine pw_p (pw_seg (by decide) (fun _ _ => rb_r64) ?_)
      refine pw_p (pw_if (by decide) (fun _ _ => rb_r65) (fun w3 => ?_) (fun w3 => ?_))
      · have h3 := h2.1 w3
        exact pw_p (pw_ret (by decide) (fun _ _ => rb_r66) h3)
      · have h3 := h2.2 w3
        exact pw_p (pw_ret (by decide) (fun _ _ => rb_r67) h3)
    · have h2 := h2.2 w2
      refine pw_p (pw_seg (by decide) (fun _ _ => rb_r70) ?_)
      exact h2
end
section
variable {N : Nat} {X : ez_X} {I A : Nat → Nat → Int32} {J B : Nat → Nat → Int64} {R R1 : Nat → Nat} {T T1 : List ez_C} {x y : Int32} {W HH : Nat}
noncomputable def la_Q (I : Nat → Nat → Int32) (J : Nat → Nat → Int64) (R : Nat → Nat) (T : List ez_C) : pw_Q := fun r h => ∃ A B, h = ev_hp A B R T ∧ ((¬ sn I 0 * (sn I 1 * sn I 2) ≤ 10000 ∧ r = some (.int 0)) ∨ (sn I 0 * (sn I 1 * sn I 2) ≤ 10000 ∧ (ls I J).length ≤ 10000 ∧ r = some (.int 1) ∧ ∃ W HH, gk I J W HH (rf_n I) (nca I) ∧ rg I J W HH (nca I) A B))
/-- behind areLaid -/
theorem pe_laidR (h : rl3 I J R1 T1) (hB : cx_hB cx_B0 I) (N : Nat) : pe N X 167 [.ref 35] (ev_hp I J R T) (la_Q I J R T) := by
  obtain ⟨W, HH, n, hg, ek, ek2⟩ := gk_of h hB
  have hn30 : n ≤ 30 := by
    obtain ⟨-, -, -, -, -, -, -, -, -, z, -⟩ := hg
    exact z
  have enc : nca I = n := by
    unfold nca
    rw [ek, io_ti (by omega)]
    exact Int.toNat_natCast n
  subst enc
  have hr := h.1.1
  refine pe_mono (pe_laid hr hB N) ?_
  rintro r h' ⟨I', J', ⟨fI, fJ, fE⟩, ⟨h1, rfl, rfl⟩ | ⟨h1, rfl, w', rfl, hw'⟩⟩
  · refine ⟨I', J', rfl, Or.inl ⟨?_, rfl⟩⟩
    rw [pr_is hr hB]
    omega
  · have hlen := ly_1l (lm_p (rf_n I) (rf_f J) (rf_g I J)) (lm_q (rf_n I) (rf_f J) (rf_g I J)) (mm (in_n I) (rf_n I) 1) (mm (in_n I) (rf_n I) 2) (mm (in_n I) (rf_n I) 0)
    have hlen2 : (lm_L (rf_n I) (in_n I) (rf_f J) (rf_g I J)).length ≤ 10000 := Nat.le_trans hlen (by rw [pr_mm _ (rf_ns hB).2]; exact h1)
    rw [← ls_is hr h.1.2.1 hB] at hw' hlen2 ⊢
    obtain ⟨g1, eb, e35k, e14, e41, eI⟩ := al_gk hg fI fJ w' (ls I J).length
    refine ⟨al_I I' w' (ls I J).length, J', rfl, Or.inr ⟨?_, hlen2, rfl, W, HH, hg, g1, eb, by rw [e41]; exact hw', fun s hs a ha => ((fE s hs).2 a ha).1, e14, ?_, ?_, eI 44 (by decide) (by decide) (by decide), e35k 0 (by decide), e35k 1 (by decide)⟩⟩
    · rw [pr_is hr hB]
      exact h1
    · rw [e35k 16 (by decide), ek2, ek]
    · rw [e35k 8 (by decide)]
      exact (congrArg (fun K : kt_K => K.2.2.2.2.2.2.2.2.1) hr.1).symm
/-- laying k is gone through to the end -/
theorem pe_goR (h : rl3 I J R1 T1) (hB : cx_hB cx_B0 I) (hg : gk I J W HH (rf_n I) (nca I)) (hA : rg I J W HH (nca I) A B) {k : Nat} (hk : k < (ls I J).length) (hlen : (ls I J).length ≤ 10000) (hx : x = Int32.ofNat k) : pe N X 192 [.ref 35, .int x, .int (A 35 16)] (ev_hp A B R T) (fun r h => r = none ∧ ∃ A' B', h = ev_hp A' B' R T ∧ rg I J W HH (nca I) A' B' ∧ ∀ c, c < nca I → A' 48 c = Int32.ofNat (xt I J ((ls I J).getD k (0, 0, 0)) c)) := by
  refine pe_mono (pe_goes2 (m := nca I) h hB hg hA hk hlen hx hA.2.2.2.2.2.1 (Nat.le_refl _)) ?_
  rintro r h' ⟨rfl, f, K, G1, G2, rfl, -, q2⟩
  refine ⟨rfl, ev_sI A 48 f, _, rfl, rg_c hA (fun a _ h48 _ _ => cx_sI_n _ _ h48) (fun k _ => by rw [cx_sI_n _ _ (show (35 : Nat) ≠ 48 by decide)]) (fun a h5 h6 h7 _ _ => by rw [cx_sJ_n _ _ h6, cx_sJ_n _ _ h5, cx_sJ_n _ _ h7]), fun c hc => ?_⟩
  rw [cx_sI_s, ly_gd hk]
  exact q2 c hc
/-- how many are wrong there -/
theorem pe_wrongR (h : rl3 I J R1 T1) (hA : rg I J W HH (nca I) A B) {k : Nat} (h48 : ∀ c, c < nca I → A 48 c = Int32.ofNat (xt I J ((ls I J).getD k (0, 0, 0)) c)) : pe N X 233 [.ref 35] (ev_hp A B R T) (fun r h => r = some (.int (Int32.ofNat (wP I J k))) ∧ h = ev_hp A B R T) :=
  pe_mwrong (p := wc I J ((ls I J).getD k (0, 0, 0))) (n := nca I) hA.2.2.2.2.2.1 (nca_30 h) fun c hc => by
    rw [hA.2.2.2.2.2.2.2.1, h48 c hc]
    rfl
noncomputable def bmV (I : Nat → Nat → Int32) (J : Nat → Nat → Int64) (k : Nat) : Int32 := if k = 0 then -1 else Int32.ofNat (lwF (wP I J) k)
theorem pe_blameOf (h : rl3 I J R1 T1) (hB : cx_hB cx_B0 I) (hg : gk I J W HH (rf_n I) (nca I)) (hA : rg I J W HH (nca I) A B) (hlen : (ls I J).length ≤ 10000) : pe N X 173 [.ref 35] (ev_hp A B R T) (fun r h => r = some (.int (bmV I J (ls I J).length)) ∧ ∃ A' B', h = ev_hp A' B' R T ∧ rg I J W HH (nca I) A' B') := by
  have loop : ∀ (d k : Nat), k + d = (ls I J).length → ∀ A B, rg I J W HH (nca I) A B → ∀ N, pw N X 173 4 [.ref 35, .int (bmV I J k), .int (Int32.ofNat k)] [] (ev_hp A B R T) (fun r h => r = some (.int (bmV I J (ls I J).length)) ∧ ∃ A' B', h = ev_hp A' B' R T ∧ rg I J W HH (nca I) A' B') := by
    intro d
    induction d with
    | zero =>
      intro k hk A B hA N
      obtain rfl : k = (ls I J).length := by omega
      refine pw_p (ba_4 ⟨fun _ => ⟨rfl, A, B, rfl, hA⟩, fun g => ?_⟩)
      rw [hA.2.2.2.2.1] at g
      exact absurd (Int32.le_refl _) g
    | succ d ih =>
      intro k hkd A B hA N
      have hk : k < (ls I J).length := by omega
      have h30 := wP_30 (I := I) (J := J) (nca_30 h) k
      have h31 := (lwF_le (wP I J) k).1
      have hF : lwF (wP I J) (k + 1) = if wP I J k < lwF (wP I J) k then wP I J k else lwF (wP I J) k := rfl
      refine pw_p (ba_4 ⟨fun g => ?_, fun _ => ⟨_, pe_goR h hB hg hA hk hlen rfl, ?_⟩⟩)
      · rw [hA.2.2.2.2.1, io_le (by omega) (by omega)] at g
        omega
      rintro r h' ⟨rfl, A', B', rfl, hA', h48⟩
      refine pw_p (ba_21 ⟨_, pe_wrongR h hA' h48, ?_⟩)
      rintro r h' ⟨rfl, rfl⟩
      have h5 := ih (k + 1) (by omega) A' B' hA' N
      unfold bmV at h5
      rw [if_neg (by omega), hF] at h5
      refine pw_p (ba_25 ?_)
      rw [io_1]
      by_cases hk0 : k = 0
      · subst hk0
        rw [if_pos (show wP I J 0 < lwF (wP I J) 0 from by show wP I J 0 < 31; omega)] at h5
        exact ⟨fun _ => h5, fun z => absurd (show bmV I J 0 = -1 from rfl) z⟩
      · have e : bmV I J k = Int32.ofNat (lwF (wP I J) k) := by
          unfold bmV
          rw [if_neg hk0]
        rw [e]
        refine ⟨fun z => ?_, fun _ => ⟨fun g => ?_, fun g => ?_⟩⟩
        · have z2 := congrArg Int32.toInt z
          rw [io_ti (by omega), show ((-1 : Int32)).toInt = -1 from by decide] at z2
          omega
        · rw [io_le (by omega) (by omega)] at g
          rw [if_neg (by omega)] at h5
          exact h5
        · rw [io_le (by omega) (by omega)] at g
          rw [if_pos (by omega)] at h5
          exact h5
  exact pe_of (pw_p (ba_0 (loop (ls I J).length 0 (by omega) A B hA _)))
theorem pe_mblame (h : rl3 I J R T) (hB : cx_hB cx_B0 I) : pe N X 172 [.ref 35] (ev_hp I J R T) (fun r _ => r = some (.int (v_blame I J))) := by
  refine pe_of (pw_p (bb_0 ⟨_, pe_laidR h hB _, ?_⟩))
  rintro r h' ⟨A, B, rfl, ⟨h1, rfl⟩ | ⟨h1, hlen, rfl, W, HH, hg, hA⟩⟩
  · refine pw_p (bb_4 ⟨fun _ => ?_, fun z => absurd rfl z⟩)
    unfold v_blame
    rw [if_neg h1]
  · refine pw_p (bb_4 ⟨fun z => absurd z (by decide), fun _ => ⟨_, pe_blameOf h hB hg hA hlen, ?_⟩⟩)
    rintro r h' ⟨rfl, A', B', rfl, -⟩
    refine pw_p (bb_11 ?_)
    unfold v_blame
    rw [if_pos h1]
    rfl
theorem pe_mblamed (h : rl3 I J R T) (hB : cx_hB cx_B0 I) : pe N X 174 [.ref 35] (ev_hp I J R T) (fun r _ => r = some (.int (v_blamed I J))) := by
  refine pe_of (pw_p (bw_0 ⟨_, pe_laidR h hB _, ?_⟩))
  rintro r h' ⟨A, B, rfl, ⟨h1, rfl⟩ | ⟨h1, hlen, rfl, W, HH, hg, hA⟩⟩
  · refine pw_p (bw_4 ⟨fun z => absurd rfl z, fun _ => ?_⟩)
    unfold v_blamed
    rw [if_neg h1]
  · refine pw_p (bw_4 ⟨fun _ => ⟨_, pe_blameOf h hB hg hA hlen, ?_⟩, fun z => absurd (by decide) z⟩)
    rintro r h' ⟨rfl, A1, B1, rfl, hA1⟩
    refine pw_p (bw_14 ?_)
    have hp30 : ∀ k, k < (ls I J).length → wP I J k ≤ 30 := fun k _ => wP_30 (nca_30 h) k
    have h31 := (lwF_le (wP I J) (ls I J).length).1
    have mask : ∀ (k : Nat), k < (ls I J).length → wP I J k = lwF (wP I J) (ls I J).length → k = lwI (wP I J) (ls I J).length → ∀ A B, rg I J W HH (nca I) A B → (∀ c, c < nca I → A 48 c = Int32.ofNat (xt I J ((ls I J).getD k (0, 0, 0)) c)) → ∀ (b : Int32) (d c : Nat), c + d = nca I → ∀ N, pw N X 174 47 [.ref 35, .int b, .int (Int32.ofNat k), .int (wqF (wc I J ((ls I J).getD k (0, 0, 0))) c), .int (Int32.ofNat c)] [] (ev_hp A B R T) (fun r _ => r = some (.int (v_blamed I J))) := by
      intro k hk hw hi A B hA h48 b d
      induction d with
      | zero =>
        intro c hc N
        obtain rfl : c = nca I := by omega
        refine pw_p (bw_47 ⟨fun _ => ?_, fun g => ?_⟩)
        · unfold v_blamed
          rw [if_pos h1, if_neg (by omega), ← hi]
        · rw [hA.2.2.2.2.2.1] at g
          exact absurd (Int32.le_refl _) g
      | succ d ih =>
        intro c hcd N
        have hn30 := nca_30 h
        have e : wqF (wc I J ((ls I J).getD k (0, 0, 0))) (c + 1) = if wc I J ((ls I J).getD k (0, 0, 0)) c = true then wqF (wc I J ((ls I J).getD k (0, 0, 0))) c ||| ((1 : Int32) <<< (Int32.ofNat c &&& (31 : Int32))) else wqF (wc I J ((ls I J).getD k (0, 0, 0))) c := rfl
        have h5 := ih (c + 1) (by omega) N
        rw [e] at h5
        have ew : wc I J ((ls I J).getD k (0, 0, 0)) c = decide (¬ A 44 c = -1 ∧ ¬ A 44 c = A 48 c) := by
          rw [hA.2.2.2.2.2.2.2.1, h48 c (by omega)]
          rfl
        rw [ew] at h5
        refine pw_p (bw_47 ?_)
        rw [hA.2.2.2.2.2.1, io_cl (by omega), io_1, Int32.or_zero]
        refine ⟨fun g => ?_, fun _ _ => ⟨fun g => ?_, fun g _ _ => ⟨fun g2 => ?_, fun g2 => ?_⟩⟩⟩
        · rw [io_le (by omega) (by omega)] at g
          omega
        · rw [decide_eq_false (fun z => z.1 g), if_neg (by decide)] at h5
          exact h5
        · rw [decide_eq_false (fun z => z.2 g2), if_neg (by decide)] at h5
          exact h5
        · rw [decide_eq_true ⟨g, g2⟩, if_pos rfl] at h5
          exact h5
    have loop : ∀ (d k : Nat), k + d = (ls I J).length → (∀ j, j < k → ¬ wP I J j = lwF (wP I J) (ls I J).length) → ∀ A B, rg I J W HH (nca I) A B → ∀ N, pw N X 174 17 [.ref 35, .int (bmV I J (ls I J).length), .int (Int32.ofNat k)] [] (ev_hp A B R T) (fun r _ => r = some (.int (v_blamed I J))) := by
      intro d
      induction d with
      | zero =>
        intro k hk hno A B hA N
        obtain rfl : k = (ls I J).length := by omega
        refine pw_p (bw_17 ⟨fun _ => ?_, fun g => ?_⟩)
        · have hl0 : (ls I J).length = 0 := by
            by_cases e : (ls I J).length = 0
            · exact e
            · obtain ⟨i1, i2, -⟩ := lwI_is (p := wP I J) (ls I J).length (by omega) hp30
              exact absurd i2 (hno _ i1)
          unfold v_blamed
          rw [if_pos h1, if_pos hl0]
        · rw [hA.2.2.2.2.1] at g
          exact absurd (Int32.le_refl _) g
      | succ d ih =>
        intro k hkd hno A B hA N
        have hk : k < (ls I J).length := by omega
        have h30 := hp30 k hk
        have e : bmV I J (ls I J).length = Int32.ofNat (lwF (wP I J) (ls I J).length) := by
          unfold bmV
          rw [if_neg (by omega)]
        refine pw_p (bw_17 ⟨fun g => ?_, fun _ => ⟨_, pe_goR h hB hg hA hk hlen rfl, ?_⟩⟩)
        · rw [hA.2.2.2.2.1, io_le (by omega) (by omega)] at g
          omega
        rintro r h' ⟨rfl, A', B', rfl, hA', h48⟩
        refine pw_p (bw_34 ⟨_, pe_wrongR h hA' h48, ?_⟩)
        rintro r h' ⟨rfl, rfl⟩
        refine pw_p (bw_38 ⟨fun g => ?_, fun g => ?_⟩)
        · rw [io_1]
          rw [e, io_eq (by omega) (by omega)] at g
          refine ih (k + 1) (by omega) (fun j hj => ?_) A' B' hA' _
          by_cases ej : j = k
          · rw [ej]
            exact g
          · exact hno j (by omega)
        · have g := Classical.not_not.mp g
          rw [e, io_eq (by omega) (by omega)] at g
          obtain ⟨i1, i2, i3⟩ := lwI_is (p := wP I J) (ls I J).length (by omega) hp30
          have hi : k = lwI (wP I J) (ls I J).length := by
            rcases Nat.lt_trichotomy k (lwI (wP I J) (ls I J).length) with z | z | z
            · have := i3 k z
              omega
            · exact z
            · exact absurd i2 (hno _ z)
          exact mask k hk g hi A' B' hA' h48 _ (nca I) 0 (by omega) _
    exact loop (ls I J).length 0 (by omega) (fun j hj => absurd hj (by omega)) A1 B1 hA1 _
/-- the first wrong answer of a laying, from behind -/
theorem ff_eq {p : Nat → Bool} {m g : Nat} (h1 : g ≤ m) (h2 : ∀ i, i < g → p i = false) (h3 : g < m → p g = true) : ff p m = g := by
  obtain ⟨a1, a2, a3⟩ := ff_is p m
  rcases Nat.lt_trichotomy (ff p m) g with h | h | h
  · have e1 := h2 _ h
    rw [a3 (by omega)] at e1
    cases e1
  · exact h
  · have e1 := a2 _ h
    rw [h3 (by omega)] at e1
    cases e1
theorem mxF_at (f : Nat → Nat) : ∀ k, 0 < k → ∃ j, j < k ∧ f j = mxF f k := by
  intro k
  induction k with
  | zero => intro h; omega
  | succ k ih =>
    intro _
    have e : mxF f (k + 1) = if mxF f k < f k then f k else mxF f k := rfl
    rw [e]
    by_cases h : mxF f k < f k
    · rw [if_pos h]
      exact ⟨k, Nat.lt_succ_self k, rfl⟩
    · rw [if_neg h]
      by_cases hk : k = 0
      · subst hk
        have e0 : mxF f 0 = 0 := rfl
        rw [e0] at h ⊢
        exact ⟨0, Nat.zero_lt_one, by omega⟩
      · obtain ⟨j, h1, h2⟩ := ih (by omega)
        exact ⟨j, by omega, h2⟩
theorem ra_first {p : Nat → Bool} {m : Nat} {f k : Int32} {Q : pw_Q} (e16 : A 35 16 = Int32.ofNat m) (hm : m ≤ 30) (hp : ∀ c, c < m → p c = decide (¬ A 44 c = -1 ∧ ¬ A 44 c = A 48 c)) (go : ∀ y N, pw N X 224 90 [.ref 35, .int f, .int k, .int (Int32.ofNat (ff p m)), .int y] [] (ev_hp A B R T) Q) (N : Nat) : pw N X 224 31 [.ref 35, .int f, .int k] [] (ev_hp A B R T) Q := by
  have loop : ∀ (c g : Nat), c ≤ m → g ≤ m → (∀ i, c ≤ i → i < g → p i = false) → (g < m → c ≤ g ∧ p g = true) → ∀ (y : Int32), y = Int32.ofNat c - 1 → ∀ N, pw N X 224 44 [.ref 35, .int f, .int k, .int (Int32.ofNat g), .int y] [] (ev_hp A B R T) Q := by
    intro c
    induction c with
    | zero =>
      intro g hc hg h1 h2 y hy N
      have e : ff p m = g := ff_eq hg (fun i hi => h1 i (Nat.zero_le i) hi) (fun z => (h2 z).2)
      refine pw_p (ra_44 ⟨fun _ => ?_, fun z => absurd ?_ z⟩)
      · rw [← e]
        exact go y _
      · rw [hy]
        decide
    | succ c ih =>
      intro g hc hg h1 h2 y hy N
      have ey : y = Int32.ofNat c := hy.trans (io_sub1 (by omega))
      subst ey
      have nx : Int32.ofNat c + (-1 : Int32) = Int32.ofNat c - 1 := (Int32.sub_eq_add_neg _ _).symm
      have hpc := hp c (by omega)
      have stay : p c = false → ∀ N, pw N X 224 44 [.ref 35, .int f, .int k, .int (Int32.ofNat g), .int (Int32.ofNat c + (-1 : Int32))] [] (ev_hp A B R T) Q := fun hf N => ih g (by omega) hg (fun i hi1 hi2 => by
        by_cases e : i = c
        · rw [e]
          exact hf
        · exact h1 i (by omega) hi2) (fun z => ⟨by have := (h2 z).1; omega, (h2 z).2⟩) _ nx N
      refine pw_p (ra_44 ?_)
      rw [io_cl (by omega)]
      refine ⟨fun z => ?_, fun _ _ => ⟨fun z => stay ?_ _, fun z _ _ => ⟨fun z2 => stay ?_ _, fun z2 => ?_⟩⟩⟩
      · rw [show (0 : Int32) = Int32.ofNat 0 from rfl, io_lt (by omega) (by omega)] at z
        omega
      · rw [hpc]
        exact decide_eq_false fun q => q.1 z
      · rw [hpc]
        exact decide_eq_false fun q => q.2 z2
      · have ht : p c = true := by
          rw [hpc]
          exact decide_eq_true ⟨z, z2⟩
        exact ih c (by omega) (by omega) (fun i hi1 hi2 => absurd hi2 (by omega)) (fun _ => ⟨Nat.le_refl _, ht⟩) _ nx _
  refine pw_p (ra_31 ?_)
  rw [e16]
  exact loop m m (Nat.le_refl _) (Nat.le_refl _) (fun i h1 h2 => absurd h1 (by omega)) (fun z => absurd z (Nat.lt_irrefl _)) _ rfl _
theorem pe_mstray (h : rl3 I J R T) (hB : cx_hB cx_B0 I) : pe N X 224 [.ref 35] (ev_hp I J R T) (fun r _ => r = some (.int (v_stray I J))) := by
  refine pe_of (pw_p (ra_0 ⟨_, pe_laidR h hB _, ?_⟩))
  rintro r h' ⟨A, B, rfl, ⟨h1, rfl⟩ | ⟨h1, hlen, rfl, W, HH, hg, hA⟩⟩
  · refine pw_p (ra_4 ⟨fun z => absurd rfl z, fun _ => ?_⟩)
    unfold v_stray
    rw [if_neg h1]
  · refine pw_p (ra_4 ⟨fun _ => ?_, fun z => absurd (by decide) z⟩)
    have hm := nca_30 h
    have hf : ∀ k, wf I J k ≤ nca I := fun k => (ff_is _ _).1
    have hmx : ∀ k, mxF (wf I J) k ≤ nca I := fun k => (mxF_is _ k).2 _ fun j _ => hf j
    have stop : ∀ A B, rg I J W HH (nca I) A B → ∀ (y : Int32) (F : Nat), (F < nca I → ¬ I 44 F = -1) → F ≤ nca I → ∀ N, pw N X 224 107 [.ref 35, .int (Int32.ofNat F), .int y] [] (ev_hp A B R T) (fun r _ => r = some (.int (if F < nca I then Int32.ofNat F else -1))) := by
      intro A B hA y F hF hFm N
      refine pw_p (ra_107 ?_)
      rw [hA.2.2.2.2.2.1, io_le (by omega) (by omega), io_cl (by omega), hA.2.2.2.2.2.2.2.1]
      refine ⟨fun z => ⟨fun _ => ?_, fun q => absurd z q⟩, fun z _ => ⟨fun _ => ⟨fun q => absurd q z, fun _ => ?_⟩, fun q => absurd (hF (by omega)) q⟩⟩
      · rw [if_neg (by omega)]
      · rw [if_pos (by omega)]
    have zero : ∀ A B, rg I J W HH (nca I) A B → ∀ (y : Int32) (d c : Nat), c + d = nca I → (∀ i, i < c → I 44 i = -1) → ∀ N, pw N X 224 107 [.ref 35, .int (Int32.ofNat c), .int y] [] (ev_hp A B R T) (fun r _ => r = some (.int (if tdF I < nca I then Int32.ofNat (tdF I) else -1))) := by
      intro A B hA y d
      have fin : ∀ c, c ≤ nca I → (∀ i, i < c → I 44 i = -1) → (c < nca I → ¬ I 44 c = -1) → ∀ N, pw N X 224 107 [.ref 35, .int (Int32.ofNat c), .int y] [] (ev_hp A B R T) (fun r _ => r = some (.int (if tdF I < nca I then Int32.ofNat (tdF I) else -1))) := by
        intro c hc h2 h3 N
        have e : tdF I = c := ff_eq hc (fun i hi => decide_eq_false fun z => z (h2 i hi)) (fun z => decide_eq_true (h3 z))
        rw [e]
        exact stop A B hA y c h3 hc N
      induction d with
      | zero =>
        intro c hc h2 N
        exact fin c (by omega) h2 (fun z => absurd z (by omega)) N
      | succ d ih =>
        intro c hcd h2 N
        by_cases e : I 44 c = -1
        · refine pw_p (ra_107 ?_)
          rw [hA.2.2.2.2.2.1, io_le (by omega) (by omega), io_cl (by omega), hA.2.2.2.2.2.2.2.1, io_1]
          refine ⟨fun z => absurd z (by omega), fun _ _ => ⟨fun z => absurd e z, fun _ => ih (c + 1) (by omega) (fun i hi => ?_) _⟩⟩
          by_cases ei : i = c
          · rw [ei]
            exact e
          · exact h2 i (by omega)
        · exact fin c (by omega) h2 (fun _ => e) N
    have loop : ∀ (d k : Nat), k + d = (ls I J).length → ∀ A B, rg I J W HH (nca I) A B → ∀ N, pw N X 224 14 [.ref 35, .int (Int32.ofNat (mxF (wf I J) k)), .int (Int32.ofNat k)] [] (ev_hp A B R T) (fun r _ => r = some (.int (v_stray I J))) := by
      intro d
      induction d with
      | zero =>
        intro k hk A B hA N
        obtain rfl : k = (ls I J).length := by omega
        refine pw_p (ra_14 ⟨fun _ => ?_, fun g => ?_⟩)
        · by_cases l0 : (ls I J).length = 0
          · have e0 : mxF (wf I J) (ls I J).length = 0 := by
              rw [l0]
              rfl
            have ev : v_stray I J = if tdF I < nca I then Int32.ofNat (tdF I) else -1 := by
              unfold v_stray fsV
              rw [if_pos h1, if_pos l0]
            rw [e0, ev]
            exact zero A B hA _ (nca I) 0 (by omega) (fun i hi => absurd hi (by omega)) _
          · have ev : v_stray I J = if mxF (wf I J) (ls I J).length < nca I then Int32.ofNat (mxF (wf I J) (ls I J).length) else -1 := by
              unfold v_stray fsV
              rw [if_pos h1, if_neg l0]
            rw [ev]
            refine stop A B hA _ _ (fun z => ?_) (hmx _) _
            obtain ⟨j, j1, j2⟩ := mxF_at (wf I J) (ls I J).length (by omega)
            rw [← j2] at z ⊢
            exact (of_decide_eq_true ((ff_is (wc I J ((ls I J).getD j (0, 0, 0))) (nca I)).2.2 z)).1
        · rw [hA.2.2.2.2.1] at g
          exact absurd (Int32.le_refl _) g
      | succ d ih =>
        intro k hkd A B hA N
        have hk : k < (ls I J).length := by omega
        have hF : mxF (wf I J) (k + 1) = if mxF (wf I J) k < wf I J k then wf I J k else mxF (wf I J) k := rfl
        have b1 := hmx k
        have b2 := hf k
        refine pw_p (ra_14 ⟨fun g => ?_, fun _ => ⟨_, pe_goR h hB hg hA hk hlen rfl, ?_⟩⟩)
        · rw [hA.2.2.2.2.1, io_le (by omega) (by omega)] at g
          omega
        rintro r h' ⟨rfl, A', B', rfl, hA', h48⟩
        refine ra_first (p := wc I J ((ls I J).getD k (0, 0, 0))) (m := nca I) hA'.2.2.2.2.2.1 hm (fun c hc => ?_) (fun y N => ?_) _
        · rw [hA'.2.2.2.2.2.2.2.1, h48 c hc]
          rfl
        · have h5 := fun N => ih (k + 1) (by omega) A' B' hA' N
          rw [hF] at h5
          refine pw_p (ra_90 ?_)
          rw [show ff (wc I J ((ls I J).getD k (0, 0, 0))) (nca I) = wf I J k from rfl, io_1, io_le (by omega) (by omega)]
          refine ⟨fun g => ?_, fun g => ?_⟩
          · rw [if_neg (by omega)] at h5
            exact h5 _
          · rw [if_pos (by omega)] at h5
            exact h5 _
    exact loop (ls I J).length 0 (by omega) A B hA _
end
end
section
/-! stray, blame, blamed, both sides. -/
section
variable {N : Nat} {X : ez_X} {I I' I1 : Nat → Nat → Int32} {J J' J1 : Nat → Nat → Int64} {R R1 : Nat → Nat} {T T1 : List ez_C} {v : Int32}
theorem ff_c {p q : Nat → Bool} : ∀ n, (∀ c, c < n → p c = q c) → ff p n = ff q n := by
  intro n
  induction n with
  | zero => intro _; rfl
  | succ n ih =>
    intro h
    unfold ff
    rw [ih fun c hc => h c (by omega), h n (Nat.lt_succ_self n)]
/-- the answers told to the reference are those told to the class -/
theorem c44_b (h : C3 (ck I J)) (h' : C3 (ck I' J')) (e : bk I' J' = bk I J) : nca I' = nca I ∧ ∀ c, c < nca I → I' 44 c = I 44 c := by
  obtain ⟨k, e81, hk, -, hr, -⟩ := c3_of h
  obtain ⟨k', e81', hk', -, hr', -⟩ := c3_of h'
  obtain ⟨b1, -, -, -, -, -, -, -, -, -, -, -, -, -, -, b82, b83, -⟩ := bk_at e
  have en : nca I' = nca I := by
    unfold nca
    rw [b1]
  have ek : nca I = k := by
    unfold nca
    rw [e81, io_ti (by omega)]
    exact Int.toNat_natCast k
  have ek' : nca I' = k' := by
    unfold nca
    rw [e81', io_ti (by omega)]
    exact Int.toNat_natCast k'
  refine ⟨en, fun c hc => ?_⟩
  obtain ⟨-, -, -, htd, -⟩ := hr c (by omega)
  obtain ⟨-, -, -, htd', -⟩ := hr' c (by omega)
  rw [← htd, ← htd', b82, b83]
theorem wc_bb (h : C3 (ck I J)) (h' : C3 (ck I' J')) (e : bk I' J' = bk I J) (t : ly_t) {c : Nat} (hc : c < nca I) : wc I' J' t c = wc I J t c := by
  unfold wc
  rw [(c44_b h h' e).2 c hc, (bk_xq e t).2.2.1]
theorem wf_bb (h : C3 (ck I J)) (h' : C3 (ck I' J')) (e : bk I' J' = bk I J) : wf I' J' = wf I J ∧ wP I' J' = wP I J ∧ tdF I' = tdF I := by
  obtain ⟨e1, e2⟩ := c44_b h h' e
  obtain ⟨l1, -⟩ := bk_ls e
  refine ⟨funext fun k => ?_, funext fun k => ?_, ?_⟩
  · unfold wf
    rw [l1, e1]
    exact ff_c _ fun c hc => wc_bb h h' e _ hc
  · unfold wP
    rw [l1, e1]
    exact cq_c _ fun c hc => wc_bb h h' e _ hc
  · unfold tdF
    rw [e1]
    exact ff_c _ fun c hc => by rw [e2 c hc]
theorem v_stray_b (h : C3 (ck I J)) (h' : C3 (ck I' J')) (e : bk I' J' = bk I J) : v_stray I' J' = v_stray I J := by
  obtain ⟨l1, l2⟩ := bk_ls e
  obtain ⟨w1, -, w3⟩ := wf_bb h h' e
  unfold v_stray
  rw [l2 0, l2 1, l2 2, l1, w1, w3, (c44_b h h' e).1]
theorem v_blame_b (h : C3 (ck I J)) (h' : C3 (ck I' J')) (e : bk I' J' = bk I J) : v_blame I' J' = v_blame I J := by
  obtain ⟨l1, l2⟩ := bk_ls e
  obtain ⟨-, w2, -⟩ := wf_bb h h' e
  unfold v_blame
  rw [l2 0, l2 1, l2 2, l1, w2]
theorem v_blamed_b (h : C3 (ck I J)) (h' : C3 (ck I' J')) (e : bk I' J' = bk I J) : v_blamed I' J' = v_blamed I J := by
  obtain ⟨l1, l2⟩ := bk_ls e
  obtain ⟨-, w2, -⟩ := wf_bb h h' e
  have e3 : wqF (wc I' J' ((ls I J).getD (lwI (wP I J) (ls I J).length) (0, 0, 0))) (nca I) = wqF (wc I J ((ls I J).getD (lwI (wP I J) (ls I J).length) (0, 0, 0))) (nca I) := wq_c _ fun c hc => wc_bb h h' e _ hc
  unfold v_blamed
  rw [l2 0, l2 1, l2 2, l1, w2, (c44_b h h' e).1, e3]
theorem lxc_stray (hX2 : X.1 < 2 ^ 31) (hh : cx_hok cx_B0 I R T) (hr : rl4 I J R T) : ev_W X 47 0 (ez_lay [.ref 0]) [] (ev_hp I J R T) 0 0 (lw_mid T (fun v I1 J1 R1 T1 => v = v_stray I1 J1 ∧ rl4 I1 J1 R1 T1)) := by
  refine (lxc_of (l4x_stray hX2 hh hr) (fun N => pe_mono (pe_xstray (N := N) hr.1 hr.2 hh) fun _ _ q => q.1) (by rfl) cv_47_0 hX2 hh ao_0).mono (lw_mono fun v I1 J1 R1 T1 q => ⟨?_, q.2.2⟩)
  rw [q.1, v_stray_b hr.1.2 q.2.2.1.2 q.2.1]
theorem lmc_stray (hX2 : X.1 < 2 ^ 31) (hh : cx_hok cx_B0 I R T) (hr : rl4 I J R T) (hh1 : cx_hok cx_B0 I1 R1 T1) (hm : v = v_stray I1 J1 ∧ rl4 I1 J1 R1 T1) : ev_W X 224 0 (ez_lay [.ref 35]) [] (ev_hp I1 J1 R1 T1) 0 0 (lw_mid T1 (fun w I2 J2 R2 T2 => w = v ∧ rl4 I2 J2 R2 T2)) := by
  refine (lmc_of (l4m_stray hX2 hh hr hh1 hm.2) (fun N => pe_mstray (N := N) hm.2.1 hh1.1)).mono (lw_mono fun u I2 J2 R2 T2 q => ⟨?_, q.2⟩)
  rw [q.1, hm.1]
theorem lxc_blame (hX2 : X.1 < 2 ^ 31) (hh : cx_hok cx_B0 I R T) (hr : rl4 I J R T) : ev_W X 8 0 (ez_lay [.ref 0]) [] (ev_hp I J R T) 0 0 (lw_mid T (fun v I1 J1 R1 T1 => v = v_blame I1 J1 ∧ rl4 I1 J1 R1 T1)) := by
  refine (lxc_of (l4x_blame hX2 hh hr) (fun N => pe_mono (pe_xblame (N := N) hr.1 hr.2 hh) fun _ _ q => q.1) (by rfl) cv_8_0 hX2 hh ao_0).mono (lw_mono fun v I1 J1 R1 T1 q => ⟨?_, q.2.2⟩)
  rw [q.1, v_blame_b hr.1.2 q.2.2.1.2 q.2.1]
theorem lmc_blame (hX2 : X.1 < 2 ^ 31) (hh : cx_hok cx_B0 I R T) (hr : rl4 I J R T) (hh1 : cx_hok cx_B0 I1 R1 T1) (hm : v = v_blame I1 J1 ∧ rl4 I1 J1 R1 T1) : ev_W X 172 0 (ez_lay [.ref 35]) [] (ev_hp I1 J1 R1 T1) 0 0 (lw_mid T1 (fun w I2 J2 R2 T2 => w = v ∧ rl4 I2 J2 R2 T2)) := by
  refine (lmc_of (l4m_blame hX2 hh hr hh1 hm.2) (fun N => pe_mblame (N := N) hm.2.1 hh1.1)).mono (lw_mono fun u I2 J2 R2 T2 q => ⟨?_, q.2⟩)
  rw [q.1, hm.1]
theorem lxc_blamed (hX2 : X.1 < 2 ^ 31) (hh : cx_hok cx_B0 I R T) (hr : rl4 I J R T) : ev_W X 9 0 (ez_lay [.ref 0]) [] (ev_hp I J R T) 0 0 (lw_mid T (fun v I1 J1 R1 T1 => v = v_blamed I1 J1 ∧ rl4 I1 J1 R1 T1)) := by
  refine (lxc_of (l4x_blamed hX2 hh hr) (fun N => pe_mono (pe_xblamed (N := N) hr.1 hr.2 hh) fun _ _ q => q.1) (by rfl) cv_9_0 hX2 hh ao_0).mono (lw_mono fun v I1 J1 R1 T1 q => ⟨?_, q.2.2⟩)
  rw [q.1, v_blamed_b hr.1.2 q.2.2.1.2 q.2.1]
theorem lmc_blamed (hX2 : X.1 < 2 ^ 31) (hh : cx_hok cx_B0 I R T) (hr : rl4 I J R T) (hh1 : cx_hok cx_B0 I1 R1 T1) (hm : v = v_blamed I1 J1 ∧ rl4 I1 J1 R1 T1) : ev_W X 174 0 (ez_lay [.ref 35]) [] (ev_hp I1 J1 R1 T1) 0 0 (lw_mid T1 (fun w I2 J2 R2 T2 => w = v ∧ rl4 I2 J2 R2 T2)) := by
  refine (lmc_of (l4m_blamed hX2 hh hr hh1 hm.2) (fun N => pe_mblamed (N := N) hm.2.1 hh1.1)).mono (lw_mono fun u I2 J2 R2 T2 q => ⟨?_, q.2⟩)
  rw [q.1, hm.1]
end
end
