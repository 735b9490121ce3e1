/-! Who is left, and their tally. -/
section
variable {N : Nat} {X : ez_X} {I : Nat → Nat → Int32} {J : Nat → Nat → Int64} {R : Nat → Nat} {T : List ez_C} {Q : pw_Q} {cz kz : Nat}
set_option maxRecDepth 100000 in
theorem ta_r0 {a0 : Int64} : ∀ G : ez_F, fx_up X 4 G 160 0 [.ref 15, .long a0, ez_fill] [] (ev_hp I J R T) cz kz = G 160 5 [.ref 15, .long a0, ez_fill, .long a0, ez_fill, .int (0 : Int32)] [] (ev_hp I J R T) cz kz := by
  intro G
  rfl
theorem ci15_0 {z : Int64}
    (H : pw N X 160 5 [.ref 15, .long z, ez_fill, .long z, ez_fill, .int (0 : Int32)] [] (ev_hp I J R T) Q) : pw (N + 1) X 160 0 [.ref 15, .long z, ez_fill] [] (ev_hp I J R T) Q := by
  refine pw_seg (by decide) (fun _ _ => ta_r0) ?_
  exact H
set_option maxRecDepth 100000 in
theorem ta_r1 {a0 : Int64} {a1 : Int64} {a2 : Int32} : ∀ G : ez_F, fx_up X 3 G 160 5 [.ref 15, .long a0, ez_fill, .long a1, ez_fill, .int a2] [] (ev_hp I J R T) cz kz = bif decide ((36 : Int32) ≤ a2) then G 160 50 [.ref 15, .long a0, ez_fill, .long a1, ez_fill, .int a2] [] (ev_hp I J R T) cz kz else G 160 12 [.ref 15, .long a0, ez_fill, .long a1, ez_fill, .int a2] [] (ev_hp I J R T) cz kz := by
  intro G
  rfl
set_option maxRecDepth 100000 in
theorem ta_r2 {a0 : Int64} {a1 : Int64} {a2 : Int32} : ∀ G : ez_F, fx_up X 1 G 160 50 [.ref 15, .long a0, ez_fill, .long a1, ez_fill, .int a2] [] (ev_hp I J R T) cz kz = some (none, (ev_hp I J R T), cz, kz) := by
  intro G
  rfl
set_option maxRecDepth 100000 in
theorem ta_r3 {a0 : Int64} {a1 : Int64} {a2 : Int32} : ∀ G : ez_F, fx_up X 4 G 160 12 [.ref 15, .long a0, ez_fill, .long a1, ez_fill, .int a2] [] (ev_hp I J R T) cz kz = bif decide ((lg_cmp a1 (0 : Int64)) = (0 : Int32)) then G 160 50 [.ref 15, .long a0, ez_fill, .long a1, ez_fill, .int a2] [] (ev_hp I J R T) cz kz else G 160 18 [.ref 15, .long a0, ez_fill, .long a1, ez_fill, .int a2] [] (ev_hp I J R T) cz kz := by
  intro G
  rfl
set_option maxRecDepth 100000 in
theorem ta_r4 {a0 : Int64} {a1 : Int64} {a2 : Int32} : ∀ G : ez_F, fx_up X 2 G 160 18 [.ref 15, .long a0, ez_fill, .long a1, ez_fill, .int a2] [] (ev_hp I J R T) cz kz = ev_C G 239 [.long a1] (ev_hp I J R T) fun r h1 c1 k1 => G 160 22 [.ref 15, .long a0, ez_fill, .long a1, ez_fill, .int a2] (r.toList ++ []) h1 (cz + c1) (kz + k1) := by
  intro G
  rfl
theorem ci15_5 {z w : Int64} {n : Int32}
    (H : (((36 : Int32) ≤ n → Q none (ev_hp I J R T)) ∧ (¬ ((36 : Int32) ≤ n) → (((lg_cmp w (0 : Int64)) = (0 : Int32) → Q none (ev_hp I J R T)) ∧ (¬ ((lg_cmp w (0 : Int64)) = (0 : Int32)) → (∃ Q1 : pw_Q, pe N X 239 [.long w] (ev_hp I J R T) Q1 ∧ ∀ (r : Option Value) (h1 : ez_H), Q1 r h1 → pw N X 160 22 [.ref 15, .long z, ez_fill, .long w, ez_fill, .int n] (r.toList ++ []) h1 Q)))))) : pw (N + 1) X 160 5 [.ref 15, .long z, ez_fill, .long w, ez_fill, .int n] [] (ev_hp I J R T) Q := by
  refine pw_if (by decide) (fun _ _ => ta_r1) (fun w1 => ?_) (fun w1 => ?_)
  · have h1 := H.1 w1
    exact pw_p (pw_ret (by decide) (fun _ _ => ta_r2) h1)
  · have h1 := H.2 w1
    refine pw_p (pw_if (by decide) (fun _ _ => ta_r3) (fun w2 => ?_) (fun w2 => ?_))
    · have h2 := h1.1 w2
      exact pw_p (pw_ret (by decide) (fun _ _ => ta_r2) h2)
    · have h2 := h1.2 w2
      obtain ⟨Q1, hc, hk⟩ := h2
      exact pw_p (pw_call (by decide) (fun _ _ => ta_r4) hc hk)
set_option maxRecDepth 100000 in
theorem ta_r5 {a0 : Int64} {a1 : Int64} {a2 : Int32} {a3 : Int32} : ∀ G : ez_F, fx_up X 6 G 160 22 [.ref 15, .long a0, ez_fill, .long a1, ez_fill, .int a2] [.int a3] (ev_hp I J R T) cz kz = ev_C G 3 [.ref 15, .int a3] (ev_hp I J R T) fun r h1 c1 k1 => G 160 33 [.ref 15, .long a0, ez_fill, .long a1, ez_fill, .int a2, .int a3] (r.toList ++ [.int a3, .ref 15]) h1 (cz + c1) (kz + k1) := by
  intro G
  rfl
set_option maxRecDepth 100000 in
theorem ta_r6 {a0 : Int64} {a1 : Int64} {a2 : Int32} {a3 : Int32} {a4 : Int32} {a5 : Int32} : ∀ G : ez_F, fx_up X 3 G 160 33 [.ref 15, .long a0, ez_fill, .long a1, ez_fill, .int a2, .int a3] [.int a4, .int a5, .ref 15] (ev_hp I J R T) cz kz = ev_C G 38 [.ref 15, .int a5, .int (a4 + (1 : Int32))] (ev_hp I J R T) fun r h1 c1 k1 => G 160 38 [.ref 15, .long a0, ez_fill, .long a1, ez_fill, .int a2, .int a3] (r.toList ++ []) h1 (cz + c1) (kz + k1) := by
  intro G
  rfl
set_option maxRecDepth 100000 in
theorem ta_r7 {a0 : Int64} {a1 : Int64} {a2 : Int32} {a3 : Int32} : ∀ G : ez_F, fx_up X 8 G 160 38 [.ref 15, .long a0, ez_fill, .long a1, ez_fill, .int a2, .int a3] [] (ev_hp I J R T) cz kz = G 160 5 [.ref 15, .long a0, ez_fill, .long (a1 &&& (a1 - (1 : Int64))), ez_fill, .int (a2 + (1 : Int32)), .int a3] [] (ev_hp I J R T) cz kz := by
  intro G
  rfl
theorem ci15_22 {z w : Int64} {n c : Int32}
    (H : pw N X 160 5 [.ref 15, .long z, ez_fill, .long (w &&& (w - (1 : Int64))), ez_fill, .int (n + (1 : Int32))] [] (ev_hp (ev_sI I 15 (ev_put 36 (I 15) c ((ev_at 36 (I 15) c) + (1 : Int32)))) J R T) Q) : pw (N + 1) X 160 22 [.ref 15, .long z, ez_fill, .long w, ez_fill, .int n] [.int c] (ev_hp I J R T) Q := by
  refine pw_callp (by decide) (fun _ _ => ta_r5) (pe_at (show cx_Ds[15]? = some (0, 36, []) from rfl) (by decide)) ?_
  refine pw_p (pw_callp (by decide) (fun _ _ => ta_r6) (pe_put (show cx_Ds[15]? = some (0, 36, []) from rfl) (by decide)) ?_)
  refine pw_p (pw_seg (by decide) (fun _ _ => ta_r7) ?_)
  refine pw_cutl (by rfl) ?_
  exact H
set_option maxRecDepth 100000 in
theorem ta_r8 {a0 : Int64} : ∀ G : ez_F, fx_up X 4 G 160 0 [.ref 16, .long a0, ez_fill] [] (ev_hp I J R T) cz kz = G 160 5 [.ref 16, .long a0, ez_fill, .long a0, ez_fill, .int (0 : Int32)] [] (ev_hp I J R T) cz kz := by
  intro G
  rfl
theorem ci16_0 {z : Int64}
    (H : pw N X 160 5 [.ref 16, .long z, ez_fill, .long z, ez_fill, .int (0 : Int32)] [] (ev_hp I J R T) Q) : pw (N + 1) X 160 0 [.ref 16, .long z, ez_fill] [] (ev_hp I J R T) Q := by
  refine pw_seg (by decide) (fun _ _ => ta_r8) ?_
  exact H
set_option maxRecDepth 100000 in
theorem ta_r9 {a0 : Int64} {a1 : Int64} {a2 : Int32} : ∀ G : ez_F, fx_up X 3 G 160 5 [.ref 16, .long a0, ez_fill, .long a1, ez_fill, .int a2] [] (ev_hp I J R T) cz kz = bif decide ((36 : Int32) ≤ a2) then G 160 50 [.ref 16, .long a0, ez_fill, .long a1, ez_fill, .int a2] [] (ev_hp I J R T) cz kz else G 160 12 [.ref 16, .long a0, ez_fill, .long a1, ez_fill, .int a2] [] (ev_hp I J R T) cz kz := by
  intro G
  rfl
set_option maxRecDepth 100000 in
theorem ta_r10 {a0 : Int64} {a1 : Int64} {a2 : Int32} : ∀ G : ez_F, fx_up X 1 G 160 50 [.ref 16, .long a0, ez_fill, .long a1, ez_fill, .int a2] [] (ev_hp I J R T) cz kz = some (none, (ev_hp I J R T), cz, kz) := by
  intro G
  rfl
set_option maxRecDepth 100000 in
theorem ta_r11 {a0 : Int64} {a1 : Int64} {a2 : Int32} : ∀ G : ez_F, fx_up X 4 G 160 12 [.ref 16, .long a0, ez_fill, .long a1, ez_fill, .int a2] [] (ev_hp I J R T) cz kz = bif decide ((lg_cmp a1 (0 : Int64)) = (0 : Int32)) then G 160 50 [.ref 16, .long a0, ez_fill, .long a1, ez_fill, .int a2] [] (ev_hp I J R T) cz kz else G 160 18 [.ref 16, .long a0, ez_fill, .long a1, ez_fill, .int a2] [] (ev_hp I J R T) cz kz := by
  intro G
  rfl
set_option maxRecDepth 100000 in
theorem ta_r12 {a0 : Int64} {a1 : Int64} {a2 : Int32} : ∀ G : ez_F, fx_up X 2 G 160 18 [.ref 16, .long a0, ez_fill, .long a1, ez_fill, .int a2] [] (ev_hp I J R T) cz kz = ev_C G 239 [.long a1] (ev_hp I J R T) fun r h1 c1 k1 => G 160 22 [.ref 16, .long a0, ez_fill, .long a1, ez_fill, .int a2] (r.toList ++ []) h1 (cz + c1) (kz + k1) := by
  intro G
  rfl
theorem ci16_5 {z w : Int64} {n : Int32}
    (H : (((36 : Int32) ≤ n → Q none (ev_hp I J R T)) ∧ (¬ ((36 : Int32) ≤ n) → (((lg_cmp w (0 : Int64)) = (0 : Int32) → Q none (ev_hp I J R T)) ∧ (¬ ((lg_cmp w (0 : Int64)) = (0 : Int32)) → (∃ Q1 : pw_Q, pe N X 239 [.long w] (ev_hp I J R T) Q1 ∧ ∀ (r : Option Value) (h1 : ez_H), Q1 r h1 → pw N X 160 22 [.ref 16, .long z, ez_fill, .long w, ez_fill, .int n] (r.toList ++ []) h1 Q)))))) : pw (N + 1) X 160 5 [.ref 16, .long z, ez_fill, .long w, ez_fill, .int n] [] (ev_hp I J R T) Q := by
  refine pw_if (by decide) (fun _ _ => ta_r9) (fun w1 => ?_) (fun w1 => ?_)
  · have h1 := H.1 w1
    exact pw_p (pw_ret (by decide) (fun _ _ => ta_r10) h1)
  · have h1 := H.2 w1
    refine pw_p (pw_if (by decide) (fun _ _ => ta_r11) (fun w2 => ?_) (fun w2 => ?_))
    · have h2 := h1.1 w2
      exact pw_p (pw_ret (by decide) (fun _ _ => ta_r10) h2)
    · have h2 := h1.2 w2
      obtain ⟨Q1, hc, hk⟩ := h2
      exact pw_p (pw_call (by decide) (fun _ _ => ta_r12) hc hk)
set_option maxRecDepth 100000 in
theorem ta_r13 {a0 : Int64} {a1 : Int64} {a2 : Int32} {a3 : Int32} : ∀ G : ez_F, fx_up X 6 G 160 22 [.ref 16, .long a0, ez_fill, .long a1, ez_fill, .int a2] [.int a3] (ev_hp I J R T) cz kz = ev_C G 3 [.ref 16, .int a3] (ev_hp I J R T) fun r h1 c1 k1 => G 160 33 [.ref 16, .long a0, ez_fill, .long a1, ez_fill, .int a2, .int a3] (r.toList ++ [.int a3, .ref 16]) h1 (cz + c1) (kz + k1) := by
  intro G
  rfl
set_option maxRecDepth 100000 in
theorem ta_r14 {a0 : Int64} {a1 : Int64} {a2 : Int32} {a3 : Int32} {a4 : Int32} {a5 : Int32} : ∀ G : ez_F, fx_up X 3 G 160 33 [.ref 16, .long a0, ez_fill, .long a1, ez_fill, .int a2, .int a3] [.int a4, .int a5, .ref 16] (ev_hp I J R T) cz kz = ev_C G 38 [.ref 16, .int a5, .int (a4 + (1 : Int32))] (ev_hp I J R T) fun r h1 c1 k1 => G 160 38 [.ref 16, .long a0, ez_fill, .long a1, ez_fill, .int a2, .int a3] (r.toList ++ []) h1 (cz + c1) (kz + k1) := by
  intro G
  rfl
set_option maxRecDepth 100000 in
theorem ta_r15 {a0 : Int64} {a1 : Int64} {a2 : Int32} {a3 : Int32} : ∀ G : ez_F, fx_up X 8 G 160 38 [.ref 16, .long a0, ez_fill, .long a1, ez_fill, .int a2, .int a3] [] (ev_hp I J R T) cz kz = G 160 5 [.ref 16, .long a0, ez_fill, .long (a1 &&& (a1 - (1 : Int64))), ez_fill, .int (a2 + (1 : Int32)), .int a3] [] (ev_hp I J R T) cz kz := by
  intro G
  rfl
theorem ci16_22 {z w : Int64} {n c : Int32}
    (H : pw N X 160 5 [.ref 16, .long z, ez_fill, .long (w &&& (w - (1 : Int64))), ez_fill, .int (n + (1 : Int32))] [] (ev_hp (ev_sI I 16 (ev_put 36 (I 16) c ((ev_at 36 (I 16) c) + (1 : Int32)))) J R T) Q) : pw (N + 1) X 160 22 [.ref 16, .long z, ez_fill, .long w, ez_fill, .int n] [.int c] (ev_hp I J R T) Q := by
  refine pw_callp (by decide) (fun _ _ => ta_r13) (pe_at (show cx_Ds[16]? = some (0, 36, []) from rfl) (by decide)) ?_
  refine pw_p (pw_callp (by decide) (fun _ _ => ta_r14) (pe_put (show cx_Ds[16]? = some (0, 36, []) from rfl) (by decide)) ?_)
  refine pw_p (pw_seg (by decide) (fun _ _ => ta_r15) ?_)
  refine pw_cutl (by rfl) ?_
  exact H
set_option maxRecDepth 100000 in
theorem ta_r16  : ∀ G : ez_F, fx_up X 3 G 159 0 [.ref 14] [] (ev_hp I J R T) cz kz = G 159 5 [.ref 14] [] (ev_hp (ev_sI I 14 (upd (I 14) 2 (0 : Int32))) J R T) cz kz := by
  intro G
  rfl
set_option maxRecDepth 100000 in
theorem ta_r17  : ∀ G : ez_F, fx_up X 2 G 159 5 [.ref 14] [] (ev_hp I J R T) cz kz = G 159 7 [.ref 14, .int (0 : Int32)] [] (ev_hp I J R T) cz kz := by
  intro G
  rfl
theorem tl_0 
    (H : pw N X 159 7 [.ref 14, .int (0 : Int32)] [] (ev_hp (ev_sI I 14 (upd (I 14) 2 (0 : Int32))) J R T) Q) : pw (N + 1) X 159 0 [.ref 14] [] (ev_hp I J R T) Q := by
  refine pw_seg (by decide) (fun _ _ => ta_r16) ?_
  refine pw_p (pw_seg (by decide) (fun _ _ => ta_r17) ?_)
  exact H
set_option maxRecDepth 100000 in
theorem ta_r18 {a0 : Int32} : ∀ G : ez_F, fx_up X 3 G 159 7 [.ref 14, .int a0] [] (ev_hp I J R T) cz kz = bif decide ((36 : Int32) ≤ a0) then G 159 37 [.ref 14, .int a0] [] (ev_hp I J R T) cz kz else G 159 13 [.ref 14, .int a0] [] (ev_hp I J R T) cz kz := by
  intro G
  rfl
set_option maxRecDepth 100000 in
theorem ta_r19 {a0 : Int32} : ∀ G : ez_F, fx_up X 1 G 159 37 [.ref 14, .int a0] [] (ev_hp I J R T) cz kz = some (none, (ev_hp I J R T), cz, kz) := by
  intro G
  rfl
set_option maxRecDepth 100000 in
theorem ta_r20 {a0 : Int32} : ∀ G : ez_F, fx_up X 5 G 159 13 [.ref 14, .int a0] [] (ev_hp I J R T) cz kz = ev_C G 38 [.ref 15, .int a0, .int (0 : Int32)] (ev_hp I J R T) fun r h1 c1 k1 => G 159 22 [.ref 14, .int a0] (r.toList ++ []) h1 (cz + c1) (kz + k1) := by
  intro G
  rfl
set_option maxRecDepth 100000 in
theorem ta_r21 {a0 : Int32} : ∀ G : ez_F, fx_up X 5 G 159 22 [.ref 14, .int a0] [] (ev_hp I J R T) cz kz = ev_C G 38 [.ref 16, .int a0, .int (0 : Int32)] (ev_hp I J R T) fun r h1 c1 k1 => G 159 31 [.ref 14, .int a0] (r.toList ++ []) h1 (cz + c1) (kz + k1) := by
  intro G
  rfl
set_option maxRecDepth 100000 in
theorem ta_r22 {a0 : Int32} : ∀ G : ez_F, fx_up X 2 G 159 31 [.ref 14, .int a0] [] (ev_hp I J R T) cz kz = G 159 7 [.ref 14, .int (a0 + (1 : Int32))] [] (ev_hp I J R T) cz kz := by
  intro G
  rfl
theorem tl_7 {c : Int32}
    (H : (((36 : Int32) ≤ c → Q none (ev_hp I J R T)) ∧ (¬ ((36 : Int32) ≤ c) → pw N X 159 7 [.ref 14, .int (c + (1 : Int32))] [] (ev_hp (ev_sI (ev_sI I 15 (ev_put 36 (I 15) c (0 : Int32))) 16 (ev_put 36 (I 16) c (0 : Int32))) J R T) Q))) : pw (N + 1) X 159 7 [.ref 14, .int c] [] (ev_hp I J R T) Q := by
  refine pw_if (by decide) (fun _ _ => ta_r18) (fun w1 => ?_) (fun w1 => ?_)
  · have h1 := H.1 w1
    exact pw_p (pw_ret (by decide) (fun _ _ => ta_r19) h1)
  · have h1 := H.2 w1
    refine pw_p (pw_callp (by decide) (fun _ _ => ta_r20) (pe_put (show cx_Ds[15]? = some (0, 36, []) from rfl) (by decide)) ?_)
    refine pw_p (pw_callp (by decide) (fun _ _ => ta_r21) (pe_put (show cx_Ds[16]? = some (0, 36, []) from rfl) (by decide)) ?_)
    refine pw_p (pw_seg (by decide) (fun _ _ => ta_r22) ?_)
    exact h1
set_option maxRecDepth 100000 in
theorem ta_r23 {a0 : Int64} {a1 : Int64} : ∀ G : ez_F, fx_up X 3 G 156 0 [.ref 14, .long a0, ez_fill, .long a1, ez_fill] [] (ev_hp I J R T) cz kz = G 156 5 [.ref 14, .long a0, ez_fill, .long a1, ez_fill] [.int (I 14 2), .ref 14] (ev_hp I J R T) cz kz := by
  intro G
  rfl
set_option maxRecDepth 100000 in
theorem ta_r24 {a0 : Int64} {a1 : Int64} {a2 : Int32} : ∀ G : ez_F, fx_up X 3 G 156 5 [.ref 14, .long a0, ez_fill, .long a1, ez_fill] [.int a2, .ref 14] (ev_hp I J R T) cz kz = G 156 10 [.ref 14, .long a0, ez_fill, .long a1, ez_fill] [] (ev_hp (ev_sI I 14 (upd (I 14) 2 (a2 + (1 : Int32)))) J R T) cz kz := by
  intro G
  rfl
set_option maxRecDepth 100000 in
theorem ta_r25 {a0 : Int64} {a1 : Int64} : ∀ G : ez_F, fx_up X 4 G 156 10 [.ref 14, .long a0, ez_fill, .long a1, ez_fill] [] (ev_hp I J R T) cz kz = ev_C G 160 [.ref 15, .long a0] (ev_hp I J R T) fun r h1 c1 k1 => G 156 18 [.ref 14, .long a0, ez_fill, .long a1, ez_fill] (r.toList ++ []) h1 (cz + c1) (kz + k1) := by
  intro G
  rfl
theorem td_0 {z w : Int64}
    (H : (∃ Q1 : pw_Q, pe N X 160 [.ref 15, .long z] (ev_hp (ev_sI I 14 (upd (I 14) 2 ((I 14 2) + (1 : Int32)))) J R T) Q1 ∧ ∀ (r : Option Value) (h1 : ez_H), Q1 r h1 → pw N X 156 18 [.ref 14, .long z, ez_fill, .long w, ez_fill] (r.toList ++ []) h1 Q)) : pw (N + 1) X 156 0 [.ref 14, .long z, ez_fill, .long w, ez_fill] [] (ev_hp I J R T) Q := by
  refine pw_seg (by decide) (fun _ _ => ta_r23) ?_
  refine pw_p (pw_seg (by decide) (fun _ _ => ta_r24) ?_)
  obtain ⟨Q1, hc, hk⟩ := H
  exact pw_p (pw_call (by decide) (fun _ _ => ta_r25) hc hk)
set_option maxRecDepth 100000 in
theorem ta_r26 {a0 : Int64} {a1 : Int64} : ∀ G : ez_F, fx_up X 4 G 156 18 [.ref 14, .long a0, ez_fill, .long a1, ez_fill] [] (ev_hp I J R T) cz kz = ev_C G 160 [.ref 16, .long a1] (ev_hp I J R T) fun r h1 c1 k1 => G 156 26 [.ref 14, .long a0, ez_fill, .long a1, ez_fill] (r.toList ++ []) h1 (cz + c1) (kz + k1) := by
  intro G
  rfl
theorem td_18 {z w : Int64}
    (H : (∃ Q1 : pw_Q, pe N X 160 [.ref 16, .long w] (ev_hp I J R T) Q1 ∧ ∀ (r : Option Value) (h1 : ez_H), Q1 r h1 → pw N X 156 26 [.ref 14, .long z, ez_fill, .long w, ez_fill] (r.toList ++ []) h1 Q)) : pw (N + 1) X 156 18 [.ref 14, .long z, ez_fill, .long w, ez_fill] [] (ev_hp I J R T) Q := by
  obtain ⟨Q1, hc, hk⟩ := H
  exact pw_call (by decide) (fun _ _ => ta_r26) hc hk
set_option maxRecDepth 100000 in
theorem ta_r27 {a0 : Int64} {a1 : Int64} : ∀ G : ez_F, fx_up X 1 G 156 26 [.ref 14, .long a0, ez_fill, .long a1, ez_fill] [] (ev_hp I J R T) cz kz = some (none, (ev_hp I J R T), cz, kz) := by
  intro G
  rfl
theorem td_26 {z w : Int64}
    (H : Q none (ev_hp I J R T)) : pw (N + 1) X 156 26 [.ref 14, .long z, ez_fill, .long w, ez_fill] [] (ev_hp I J R T) Q := by
  exact pw_ret (by decide) (fun _ _ => ta_r27) H
set_option maxRecDepth 100000 in
theorem ta_r28  : ∀ G : ez_F, fx_up X 2 G 105 0 [.ref 13] [] (ev_hp I J R T) cz kz = G 105 4 [.ref 13] [.int (I 13 9)] (ev_hp I J R T) cz kz := by
  intro G
  rfl
set_option maxRecDepth 100000 in
theorem ta_r29 {a0 : Int32} : ∀ G : ez_F, fx_up X 1 G 105 4 [.ref 13] [.int a0] (ev_hp I J R T) cz kz = bif decide (a0 = (0 : Int32)) then G 105 8 [.ref 13] [] (ev_hp I J R T) cz kz else G 105 7 [.ref 13] [] (ev_hp I J R T) cz kz := by
  intro G
  rfl
set_option maxRecDepth 100000 in
theorem ta_r30  : ∀ G : ez_F, fx_up X 3 G 105 8 [.ref 13] [] (ev_hp I J R T) cz kz = ev_C G 159 [.ref 14] (ev_hp I J R T) fun r h1 c1 k1 => G 105 15 [.ref 13] (r.toList ++ []) h1 (cz + c1) (kz + k1) := by
  intro G
  rfl
set_option maxRecDepth 100000 in
theorem ta_r31  : ∀ G : ez_F, fx_up X 1 G 105 7 [.ref 13] [] (ev_hp I J R T) cz kz = some (none, (ev_hp I J R T), cz, kz) := by
  intro G
  rfl
theorem cf_0 
    (H : (((I 13 9) = (0 : Int32) → (∃ Q1 : pw_Q, pe N X 159 [.ref 14] (ev_hp I J R T) Q1 ∧ ∀ (r : Option Value) (h1 : ez_H), Q1 r h1 → pw N X 105 15 [.ref 13] (r.toList ++ []) h1 Q)) ∧ (¬ ((I 13 9) = (0 : Int32)) → Q none (ev_hp I J R T)))) : pw (N + 1) X 105 0 [.ref 13] [] (ev_hp I J R T) Q := by
  refine pw_seg (by decide) (fun _ _ => ta_r28) ?_
  refine pw_p (pw_if (by decide) (fun _ _ => ta_r29) (fun w1 => ?_) (fun w1 => ?_))
  · have h1 := H.1 w1
    obtain ⟨Q1, hc, hk⟩ := h1
    exact pw_p (pw_call (by decide) (fun _ _ => ta_r30) hc hk)
  · have h1 := H.2 w1
    exact pw_p (pw_ret (by decide) (fun _ _ => ta_r31) h1)
set_option maxRecDepth 100000 in
theorem ta_r32  : ∀ G : ez_F, fx_up X 2 G 105 15 [.ref 13] [] (ev_hp I J R T) cz kz = G 105 17 [.ref 13, .int (0 : Int32)] [] (ev_hp I J R T) cz kz := by
  intro G
  rfl
theorem cf_15 
    (H : pw N X 105 17 [.ref 13, .int (0 : Int32)] [] (ev_hp I J R T) Q) : pw (N + 1) X 105 15 [.ref 13] [] (ev_hp I J R T) Q := by
  refine pw_seg (by decide) (fun _ _ => ta_r32) ?_
  exact H
set_option maxRecDepth 100000 in
theorem ta_r33 {a0 : Int32} : ∀ G : ez_F, fx_up X 4 G 105 17 [.ref 13, .int a0] [] (ev_hp I J R T) cz kz = G 105 25 [.ref 13, .int a0] [.int (I 6 3), .int a0] (ev_hp I J R T) cz kz := by
  intro G
  rfl
set_option maxRecDepth 100000 in
theorem ta_r34 {a0 : Int32} {a1 : Int32} {a2 : Int32} : ∀ G : ez_F, fx_up X 1 G 105 25 [.ref 13, .int a0] [.int a1, .int a2] (ev_hp I J R T) cz kz = bif decide (a1 ≤ a2) then G 105 65 [.ref 13, .int a0] [] (ev_hp I J R T) cz kz else G 105 28 [.ref 13, .int a0] [] (ev_hp I J R T) cz kz := by
  intro G
  rfl
set_option maxRecDepth 100000 in
theorem ta_r35 {a0 : Int32} : ∀ G : ez_F, fx_up X 3 G 105 65 [.ref 13, .int a0] [] (ev_hp I J R T) cz kz = G 105 70 [.ref 13, .int a0] [] (ev_hp (ev_sI I 13 (upd (I 13) 9 (1 : Int32))) J R T) cz kz := by
  intro G
  rfl
set_option maxRecDepth 100000 in
theorem ta_r36 {a0 : Int32} : ∀ G : ez_F, fx_up X 1 G 105 70 [.ref 13, .int a0] [] (ev_hp I J R T) cz kz = some (none, (ev_hp I J R T), cz, kz) := by
  intro G
  rfl
set_option maxRecDepth 100000 in
theorem ta_r37 {a0 : Int32} : ∀ G : ez_F, fx_up X 3 G 105 28 [.ref 13, .int a0] [] (ev_hp I J R T) cz kz = ev_C G 109 [.ref 13, .int a0] (ev_hp I J R T) fun r h1 c1 k1 => G 105 33 [.ref 13, .int a0] (r.toList ++ []) h1 (cz + c1) (kz + k1) := by
  intro G
  rfl
theorem cf_17 {k : Int32}
    (H : (((I 6 3) ≤ k → Q none (ev_hp (ev_sI I 13 (upd (I 13) 9 (1 : Int32))) J R T)) ∧ (¬ ((I 6 3) ≤ k) → (∃ Q1 : pw_Q, pe N X 109 [.ref 13, .int k] (ev_hp I J R T) Q1 ∧ ∀ (r : Option Value) (h1 : ez_H), Q1 r h1 → pw N X 105 33 [.ref 13, .int k] (r.toList ++ []) h1 Q)))) : pw (N + 1) X 105 17 [.ref 13, .int k] [] (ev_hp I J R T) Q := by
  refine pw_seg (by decide) (fun _ _ => ta_r33) ?_
  refine pw_p (pw_if (by decide) (fun _ _ => ta_r34) (fun w1 => ?_) (fun w1 => ?_))
  · have h1 := H.1 w1
    refine pw_p (pw_seg (by decide) (fun _ _ => ta_r35) ?_)
    exact pw_p (pw_ret (by decide) (fun _ _ => ta_r36) h1)
  · have h1 := H.2 w1
    obtain ⟨Q1, hc, hk⟩ := h1
    exact pw_p (pw_call (by decide) (fun _ _ => ta_r37) hc hk)
set_option maxRecDepth 100000 in
theorem ta_r38 {a0 : Int32} {a1 : Int32} : ∀ G : ez_F, fx_up X 1 G 105 33 [.ref 13, .int a0] [.int a1] (ev_hp I J R T) cz kz = bif decide (a1 = (0 : Int32)) then G 105 59 [.ref 13, .int a0] [] (ev_hp I J R T) cz kz else G 105 36 [.ref 13, .int a0] [] (ev_hp I J R T) cz kz := by
  intro G
  rfl
set_option maxRecDepth 100000 in
theorem ta_r39 {a0 : Int32} : ∀ G : ez_F, fx_up X 4 G 105 36 [.ref 13, .int a0] [] (ev_hp I J R T) cz kz = G 105 44 [.ref 13, .int a0] [.ref (R 2), .ref 14] (ev_hp I J R T) cz kz := by
  intro G
  rfl
set_option maxRecDepth 100000 in
theorem ta_r40 {a0 : Int32} {a1 : Nat} : ∀ G : ez_F, fx_up X 2 G 105 44 [.ref 13, .int a0] [.ref a1, .ref 14] (ev_hp I J R T) cz kz = ev_C G 4 [.ref a1, .int a0] (ev_hp I J R T) fun r h1 c1 k1 => G 105 48 [.ref 13, .int a0] (r.toList ++ [.ref 14]) h1 (cz + c1) (kz + k1) := by
  intro G
  rfl
theorem cf_33 {k v : Int32}
    (H : ((v = (0 : Int32) → pw N X 105 59 [.ref 13, .int k] [] (ev_hp I J R T) Q) ∧ (¬ (v = (0 : Int32)) → (∃ Q1 : pw_Q, pe N X 4 [.ref (R 2), .int k] (ev_hp I J R T) Q1 ∧ ∀ (r : Option Value) (h1 : ez_H), Q1 r h1 → pw N X 105 48 [.ref 13, .int k] (r.toList ++ [.ref 14]) h1 Q)))) : pw (N + 1) X 105 33 [.ref 13, .int k] [.int v] (ev_hp I J R T) Q := by
  refine pw_if (by decide) (fun _ _ => ta_r38) (fun w1 => ?_) (fun w1 => ?_)
  · have h1 := H.1 w1
    exact h1
  · have h1 := H.2 w1
    refine pw_p (pw_seg (by decide) (fun _ _ => ta_r39) ?_)
    obtain ⟨Q1, hc, hk⟩ := h1
    exact pw_p (pw_call (by decide) (fun _ _ => ta_r40) hc hk)
set_option maxRecDepth 100000 in
theorem ta_r41 {a0 : Int32} {a1 : Int64} : ∀ G : ez_F, fx_up X 2 G 105 48 [.ref 13, .int a0] [.long a1, .ref 14] (ev_hp I J R T) cz kz = G 105 52 [.ref 13, .int a0] [.ref (R 3), .long a1, .ref 14] (ev_hp I J R T) cz kz := by
  intro G
  rfl
set_option maxRecDepth 100000 in
theorem ta_r42 {a0 : Int32} {a1 : Nat} {a2 : Int64} : ∀ G : ez_F, fx_up X 2 G 105 52 [.ref 13, .int a0] [.ref a1, .long a2, .ref 14] (ev_hp I J R T) cz kz = ev_C G 4 [.ref a1, .int a0] (ev_hp I J R T) fun r h1 c1 k1 => G 105 56 [.ref 13, .int a0] (r.toList ++ [.long a2, .ref 14]) h1 (cz + c1) (kz + k1) := by
  intro G
  rfl
theorem cf_48 {k : Int32} {z : Int64}
    (H : (∃ Q1 : pw_Q, pe N X 4 [.ref (R 3), .int k] (ev_hp I J R T) Q1 ∧ ∀ (r : Option Value) (h1 : ez_H), Q1 r h1 → pw N X 105 56 [.ref 13, .int k] (r.toList ++ [.long z, .ref 14]) h1 Q)) : pw (N + 1) X 105 48 [.ref 13, .int k] [.long z, .ref 14] (ev_hp I J R T) Q := by
  refine pw_seg (by decide) (fun _ _ => ta_r41) ?_
  obtain ⟨Q1, hc, hk⟩ := H
  exact pw_p (pw_call (by decide) (fun _ _ => ta_r42) hc hk)
set_option maxRecDepth 100000 in
theorem ta_r43 {a0 : Int32} {a1 : Int64} {a2 : Int64} : ∀ G : ez_F, fx_up X 1 G 105 56 [.ref 13, .int a0] [.long a1, .long a2, .ref 14] (ev_hp I J R T) cz kz = ev_C G 156 [.ref 14, .long a2, .long a1] (ev_hp I J R T) fun r h1 c1 k1 => G 105 59 [.ref 13, .int a0] (r.toList ++ []) h1 (cz + c1) (kz + k1) := by
  intro G
  rfl
theorem cf_56 {k : Int32} {z w : Int64}
    (H : (∃ Q1 : pw_Q, pe N X 156 [.ref 14, .long z, .long w] (ev_hp I J R T) Q1 ∧ ∀ (r : Option Value) (h1 : ez_H), Q1 r h1 → pw N X 105 59 [.ref 13, .int k] (r.toList ++ []) h1 Q)) : pw (N + 1) X 105 56 [.ref 13, .int k] [.long w, .long z, .ref 14] (ev_hp I J R T) Q := by
  obtain ⟨Q1, hc, hk⟩ := H
  exact pw_call (by decide) (fun _ _ => ta_r43) hc hk
set_option maxRecDepth 100000 in
theorem ta_r44 {a0 : Int32} : ∀ G : ez_F, fx_up X 2 G 105 59 [.ref 13, .int a0] [] (ev_hp I J R T) cz kz = G 105 17 [.ref 13, .int (a0 + (1 : Int32))] [] (ev_hp I J R T) cz kz := by
  intro G
  rfl
theorem cf_59 {k : Int32}
    (H : pw N X 105 17 [.ref 13, .int (k + (1 : Int32))] [] (ev_hp I J R T) Q) : pw (N + 1) X 105 59 [.ref 13, .int k] [] (ev_hp I J R T) Q := by
  refine pw_seg (by decide) (fun _ _ => ta_r44) ?_
  exact H
end
def wrB (A K z : Int64) : Int64 := ((z ^^^ A) ||| us (z ^^^ A) 1) &&& K
def lfB (I : Nat → Nat → Int32) (J : Nat → Nat → Int64) (z : Int64) : Bool := decide (pcJ (wrB (J 8 2) (J 8 3) z) ≤ (I 2 2).toInt.toNat)
theorem b_lie {I : Nat → Nat → Int32} (hB : cx_hB cx_B0 I) : 0 ≤ (I 2 2).toInt ∧ (I 2 2).toInt ≤ 2 := hB 2 2
section
variable {N : Nat} {X : ez_X} {I : Nat → Nat → Int32} {J : Nat → Nat → Int64} {R : Nat → Nat} {T : List ez_C} {x : Int32} {z w : Int64} {n k : Nat} {g g1 g2 g3 : Nat → Int64}
theorem pe_wrongs (h : rowJ (R 1) T n g) (hn : n ≤ 10000) (hk : k < n) (hx : x = Int32.ofNat k) : pe N X 113 [.ref 13, .int x] (ev_hp I J R T) (fun r h => r = some (.long (wrB (J 8 2) (J 8 3) (g k))) ∧ h = ev_hp I J R T) := by
  subst hx
  refine pe_of (pw_p (wg_0 ⟨_, pe_atRJ h (by omega), ?_⟩))
  rintro r h' ⟨rfl, rfl⟩
  rw [atJ_in hk (by omega)]
  exact pw_p (wg_8 ⟨rfl, rfl⟩)
theorem pe_isLeft (h : rowJ (R 1) T n g) (hn : n ≤ 10000) (hk : k < n) (hl : 0 ≤ (I 2 2).toInt ∧ (I 2 2).toInt ≤ 2) (hx : x = Int32.ofNat k) : pe N X 109 [.ref 13, .int x] (ev_hp I J R T) (fun r h => r = some (.int (bif lfB I J (g k) then 1 else 0)) ∧ h = ev_hp I J R T) := by
  refine pe_of (pw_p (il_0x ⟨_, pe_wrongs h hn hk hx, ?_⟩))
  rintro r h' ⟨rfl, rfl⟩
  have hp := pcJ_le (wrB (J 8 2) (J 8 3) (g k))
  refine pw_p (il_5x ?_)
  rw [show ev_at 3 (I 2) (2 : Int32) = I 2 2 from at_in (j := 2) (by decide) (by decide), pcJ_bc, io_nat hl.1, io_lt (by omega) (by omega)]
  unfold lfB
  refine ⟨fun g _ => ⟨?_, rfl⟩, fun g _ => ⟨?_, rfl⟩⟩
  · rw [decide_eq_false (by omega)]
    rfl
  · rw [decide_eq_true (by omega)]
    rfl
theorem pe_countIn15 (hz : onp 36 z) : pe N X 160 [.ref 15, .long z] (ev_hp I J R T) (fun r h => r = none ∧ ∃ F, h = ev_hp (ev_sI I 15 F) J R T ∧ ∀ c, c < 36 → F c = I 15 c + (bif kb z c then 1 else 0)) := by
  have loop : ∀ (d b : Nat), b + d = 36 → ∀ (m : Nat) (w : Int64) (F : Nat → Int32), m ≤ b → (∀ i, kb w i = (kb z i && decide (b ≤ i))) → (∀ c, c < 36 → F c = I 15 c + (bif kb z c && decide (c < b) then 1 else 0)) → ∀ N, pw N X 160 5 [.ref 15, .long z, ez_fill, .long w, ez_fill, .int (Int32.ofNat m)] [] (ev_hp (ev_sI I 15 F) J R T) (fun r h => r = none ∧ ∃ F, h = ev_hp (ev_sI I 15 F) J R T ∧ ∀ c, c < 36 → F c = I 15 c + (bif kb z c then 1 else 0)) := by
    intro d
    induction d using Nat.strongRecOn with
    | _ d ih =>
      intro b hbd m w F hm hw hF N
      have done : w = 0 → (none : Option Value) = none ∧ ∃ F', ev_hp (ev_sI I 15 F) J R T = ev_hp (ev_sI I 15 F') J R T ∧ ∀ c, c < 36 → F' c = I 15 c + (bif kb z c then 1 else 0) := by
        rintro rfl
        refine ⟨rfl, F, rfl, fun c hc => ?_⟩
        rw [hF c hc]
        have h1 := hw c
        rw [kb_0] at h1
        cases hk : kb z c
        · rfl
        · rw [hk, Bool.true_and] at h1
          have h2 := of_decide_eq_false h1.symm
          rw [decide_eq_true (show c < b by omega)]
          rfl
      have none36 : 36 ≤ b → w = 0 := fun hb => kb_ext fun i _ => by
        rw [hw i, kb_0]
        by_cases h1 : b ≤ i
        · rw [hz i (by omega), Bool.false_and]
        · rw [decide_eq_false h1, Bool.and_false]
      refine pw_p (ci15_5 ?_)
      rw [lg_eq]
      refine ⟨fun g => done (none36 ?_), fun g => ⟨fun g2 => done g2, fun g2 => ?_⟩⟩
      · rw [show (36 : Int32) = Int32.ofNat 36 from rfl, io_le (by omega) (by omega)] at g
        omega
      · obtain ⟨j, j1, j2, j3⟩ := low_bit g2
        refine ⟨_, pe_ntz j2 j3 j1, ?_⟩
        rintro r h ⟨rfl, rfl⟩
        have hj : kb z j = true ∧ b ≤ j := by
          have h1 := hw j
          rw [j2] at h1
          obtain ⟨h2, h3⟩ := Bool.and_eq_true_iff.mp h1.symm
          exact ⟨h2, of_decide_eq_true h3⟩
        have hj36 : j < 36 := by
          apply Classical.byContradiction
          intro h1
          have h2 := hz j (by omega)
          rw [hj.1] at h2
          cases h2
        refine pw_p (ci15_22 ?_)
        rw [cx_sI_s, at_in hj36 (by decide), put_in hj36 (by decide), sI2, io_1]
        refine ih (36 - (j + 1)) (by omega) (j + 1) (by omega) (m + 1) _ _ (by omega) (fun i => ?_) (fun c hc => ?_) N
        · rw [kb_less j2 j3, hw i]
          by_cases h1 : j + 1 ≤ i
          · rw [decide_eq_true (show b ≤ i by omega), decide_eq_true (p := i ≠ j) (by omega), decide_eq_true h1, Bool.and_true]
          · rw [decide_eq_false h1, Bool.and_false]
            by_cases h2 : i = j
            · rw [decide_eq_false (p := i ≠ j) (fun z => z h2), Bool.and_false]
            · have h3 := j3 i (by omega)
              rw [hw i] at h3
              rw [h3, Bool.false_and]
        · by_cases h1 : c = j
          · subst h1
            rw [upd_s, hF c hc, hj.1, decide_eq_false (show ¬ c < b by omega), decide_eq_true (show c < c + 1 by omega)]
            show I 15 c + 0 + 1 = I 15 c + 1
            rw [Int32.add_zero]
          · rw [upd_n _ _ h1, hF c hc]
            by_cases h2 : c < b
            · rw [decide_eq_true h2, decide_eq_true (show c < j + 1 by omega)]
            · rw [decide_eq_false h2, Bool.and_false]
              by_cases h3 : c < j
              · have h4 := j3 c h3
                rw [hw c, decide_eq_true (show b ≤ c by omega), Bool.and_true] at h4
                rw [h4, Bool.false_and]
              · rw [decide_eq_false (show ¬ c < j + 1 by omega), Bool.and_false]
  refine pe_of (pw_p (ci15_0 ?_))
  have h0 := loop 36 0 (by omega) 0 z (I 15) (Nat.le_refl 0) (fun i => by rw [decide_eq_true (Nat.zero_le i), Bool.and_true]) (fun c _ => by
    rw [decide_eq_false (Nat.not_lt_zero c), Bool.and_false]
    exact (Int32.add_zero _).symm) N
  rw [sI_self] at h0
  exact h0
theorem pe_countIn16 (hz : onp 36 z) : pe N X 160 [.ref 16, .long z] (ev_hp I J R T) (fun r h => r = none ∧ ∃ F, h = ev_hp (ev_sI I 16 F) J R T ∧ ∀ c, c < 36 → F c = I 16 c + (bif kb z c then 1 else 0)) := by
  have loop : ∀ (d b : Nat), b + d = 36 → ∀ (m : Nat) (w : Int64) (F : Nat → Int32), m ≤ b → (∀ i, kb w i = (kb z i && decide (b ≤ i))) → (∀ c, c < 36 → F c = I 16 c + (bif kb z c && decide (c < b) then 1 else 0)) → ∀ N, pw N X 160 5 [.ref 16, .long z, ez_fill, .long w, ez_fill, .int (Int32.ofNat m)] [] (ev_hp (ev_sI I 16 F) J R T) (fun r h => r = none ∧ ∃ F, h = ev_hp (ev_sI I 16 F) J R T ∧ ∀ c, c < 36 → F c = I 16 c + (bif kb z c then 1 else 0)) := by
    intro d
    induction d using Nat.strongRecOn with
    | _ d ih =>
      intro b hbd m w F hm hw hF N
      have done : w = 0 → (none : Option Value) = none ∧ ∃ F', ev_hp (ev_sI I 16 F) J R T = ev_hp (ev_sI I 16 F') J R T ∧ ∀ c, c < 36 → F' c = I 16 c + (bif kb z c then 1 else 0) := by
        rintro rfl
        refine ⟨rfl, F, rfl, fun c hc => ?_⟩
        rw [hF c hc]
        have h1 := hw c
        rw [kb_0] at h1
        cases hk : kb z c
        · rfl
        · rw [hk, Bool.true_and] at h1
          have h2 := of_decide_eq_false h1.symm
          rw [decide_eq_true (show c < b by omega)]
          rfl
      have none36 : 36 ≤ b → w = 0 := fun hb => kb_ext fun i _ => by
        rw [hw i, kb_0]
        by_cases h1 : b ≤ i
        · rw [hz i (by omega), Bool.false_and]
        · rw [decide_eq_false h1, Bool.and_false]
      refine pw_p (ci16_5 ?_)
      rw [lg_eq]
      refine ⟨fun g => done (none36 ?_), fun g => ⟨fun g2 => done g2, fun g2 => ?_⟩⟩
      · rw [show (36 : Int32) = Int32.ofNat 36 from rfl, io_le (by omega) (by omega)] at g
        omega
      · obtain ⟨j, j1, j2, j3⟩ := low_bit g2
        refine ⟨_, pe_ntz j2 j3 j1, ?_⟩
        rintro r h ⟨rfl, rfl⟩
        have hj : kb z j = true ∧ b ≤ j := by
          have h1 := hw j
          rw [j2] at h1
          obtain ⟨h2, h3⟩ := Bool.and_eq_true_iff.mp h1.symm
          exact ⟨h2, of_decide_eq_true h3⟩
        have hj36 : j < 36 := by
          apply Classical.byContradiction
          intro h1
          have h2 := hz j (by omega)
          rw [hj.1] at h2
          cases h2
        refine pw_p (ci16_22 ?_)
        rw [cx_sI_s, at_in hj36 (by decide), put_in hj36 (by decide), sI2, io_1]
        refine ih (36 - (j + 1)) (by omega) (j + 1) (by omega) (m + 1) _ _ (by omega) (fun i => ?_) (fun c hc => ?_) N
        · rw [kb_less j2 j3, hw i]
          by_cases h1 : j + 1 ≤ i
          · rw [decide_eq_true (show b ≤ i by omega), decide_eq_true (p := i ≠ j) (by omega), decide_eq_true h1, Bool.and_true]
          · rw [decide_eq_false h1, Bool.and_false]
            by_cases h2 : i = j
            · rw [decide_eq_false (p := i ≠ j) (fun z => z h2), Bool.and_false]
            · have h3 := j3 i (by omega)
              rw [hw i] at h3
              rw [h3, Bool.false_and]
        · by_cases h1 : c = j
          · subst h1
            rw [upd_s, hF c hc, hj.1, decide_eq_false (show ¬ c < b by omega), decide_eq_true (show c < c + 1 by omega)]
            show I 16 c + 0 + 1 = I 16 c + 1
            rw [Int32.add_zero]
          · rw [upd_n _ _ h1, hF c hc]
            by_cases h2 : c < b
            · rw [decide_eq_true h2, decide_eq_true (show c < j + 1 by omega)]
            · rw [decide_eq_false h2, Bool.and_false]
              by_cases h3 : c < j
              · have h4 := j3 c h3
                rw [hw c, decide_eq_true (show b ≤ c by omega), Bool.and_true] at h4
                rw [h4, Bool.false_and]
              · rw [decide_eq_false (show ¬ c < j + 1 by omega), Bool.and_false]
  refine pe_of (pw_p (ci16_0 ?_))
  have h0 := loop 36 0 (by omega) 0 z (I 16) (Nat.le_refl 0) (fun i => by rw [decide_eq_true (Nat.zero_le i), Bool.and_true]) (fun c _ => by
    rw [decide_eq_false (Nat.not_lt_zero c), Bool.and_false]
    exact (Int32.add_zero _).symm) N
  rw [sI_self] at h0
  exact h0
/-- one more -/
theorem pe_tadd (hz : onp 36 z) (hw : onp 36 w) : pe N X 156 [.ref 14, .long z, .long w] (ev_hp I J R T) (fun r h => r = none ∧ ∃ A, h = ev_hp A J R T ∧ (∀ a, a ≠ 14 → a ≠ 15 → a ≠ 16 → A a = I a) ∧ A 14 2 = I 14 2 + 1 ∧ ∀ c, c < 36 → A 15 c = I 15 c + (bif kb z c then 1 else 0) ∧ A 16 c = I 16 c + (bif kb w c then 1 else 0)) := by
  refine pe_of (pw_p (td_0 ⟨_, pe_countIn15 hz, ?_⟩))
  rintro r h ⟨rfl, F, rfl, hF⟩
  refine pw_p (td_18 ⟨_, pe_countIn16 hw, ?_⟩)
  rintro r h ⟨rfl, G, rfl, hG⟩
  rw [cx_sI_n _ _ (show (15 : Nat) ≠ 14 by decide)] at hF
  rw [cx_sI_n _ _ (show (16 : Nat) ≠ 15 by decide), cx_sI_n _ _ (show (16 : Nat) ≠ 14 by decide)] at hG
  refine pw_p (td_26 ⟨rfl, _, rfl, fun a h1 h2 h3 => ?_, ?_, fun c hc => ⟨?_, ?_⟩⟩)
  · rw [cx_sI_n _ _ h3, cx_sI_n _ _ h2, cx_sI_n _ _ h1]
  · rw [cx_sI_n _ _ (by decide), cx_sI_n _ _ (by decide), cx_sI_s, upd_s]
  · rw [cx_sI_n _ _ (by decide), cx_sI_s]
    exact hF c hc
  · rw [cx_sI_s]
    exact hG c hc
theorem pe_tclear : pe N X 159 [.ref 14] (ev_hp I J R T) (fun r h => r = none ∧ ∃ A, h = ev_hp A J R T ∧ (∀ a, a ≠ 14 → a ≠ 15 → a ≠ 16 → A a = I a) ∧ A 14 2 = 0 ∧ ∀ c, c < 36 → A 15 c = 0 ∧ A 16 c = 0) := by
  have loop : ∀ (d c : Nat), c + d = 36 → ∀ A : Nat → Nat → Int32, (∀ a, a ≠ 14 → a ≠ 15 → a ≠ 16 → A a = I a) → A 14 2 = 0 → (∀ i, i < c → A 15 i = 0 ∧ A 16 i = 0) → ∀ N, pw N X 159 7 [.ref 14, .int (Int32.ofNat c)] [] (ev_hp A J R T) (fun r h => r = none ∧ ∃ A, h = ev_hp A J R T ∧ (∀ a, a ≠ 14 → a ≠ 15 → a ≠ 16 → A a = I a) ∧ A 14 2 = 0 ∧ ∀ c, c < 36 → A 15 c = 0 ∧ A 16 c = 0) := by
    intro d
    induction d with
    | zero =>
      intro c hc A h1 h2 h3 N
      obtain rfl : c = 36 := by omega
      exact pw_p (tl_7 ⟨fun _ => ⟨rfl, A, rfl, h1, h2, h3⟩, fun g => absurd (by decide) g⟩)
    | succ d ih =>
      intro c hcd A h1 h2 h3 N
      refine pw_p (tl_7 ⟨fun g => ?_, fun _ => ?_⟩)
      · rw [show (36 : Int32) = Int32.ofNat 36 from rfl, io_le (by omega) (by omega)] at g
        omega
      · rw [put_in (by omega) (by decide), put_in (by omega) (by decide), io_1]
        refine ih (c + 1) (by omega) _ (fun a g1 g2 g3 => ?_) ?_ (fun i hi => ?_) N
        · rw [cx_sI_n _ _ g3, cx_sI_n _ _ g2]
          exact h1 a g1 g2 g3
        · rw [cx_sI_n _ _ (by decide), cx_sI_n _ _ (by decide)]
          exact h2
        · rw [cx_sI_n _ _ (show (15 : Nat) ≠ 16 by decide), cx_sI_s, cx_sI_s]
          by_cases hic : i = c
          · subst hic
            rw [upd_s, upd_s]
            exact ⟨rfl, rfl⟩
          · rw [upd_n _ _ hic, upd_n _ _ hic]
            exact h3 i (by omega)
  refine pe_of (pw_p (tl_0 (loop 36 0 (by omega) _ (fun a h1 h2 h3 => cx_sI_n _ _ h1) ?_ (fun i hi => absurd hi (by omega)) _)))
  rw [cx_sI_s, upd_s]
/-- the tally of those that are left -/
def tyl (I : Nat → Nat → Int32) (J : Nat → Nat → Int64) (g1 g2 g3 : Nat → Int64) (l : Nat) (A : Nat → Nat → Int32) : Prop := A 14 2 = Int32.ofNat (cq (fun k => lfB I J (g1 k)) l) ∧ ∀ c, c < 36 → A 15 c = Int32.ofNat (cq (fun k => lfB I J (g1 k) && kb (g2 k) c) l) ∧ A 16 c = Int32.ofNat (cq (fun k => lfB I J (g1 k) && kb (g3 k) c) l)
theorem lfB_c {A : Nat → Nat → Int32} (h : A 2 = I 2) (z : Int64) : lfB A J z = lfB I J z := by
  unfold lfB
  rw [h]
theorem pe_countLeft {l : Nat} (e63 : I 6 3 = Int32.ofNat l) (hl : l ≤ n) (hn : n ≤ 10000) (q1 : rowJ (R 1) T n g1) (q2 : rowJ (R 2) T n g2) (q3 : rowJ (R 3) T n g3) (hb : 0 ≤ (I 2 2).toInt ∧ (I 2 2).toInt ≤ 2) (hp : ∀ k, k < l → onp 36 (g2 k) ∧ onp 36 (g3 k)) (h139 : I 13 9 = 0 ∨ I 13 9 = 1) :
    pe N X 105 [.ref 13] (ev_hp I J R T) (fun r h => r = none ∧ ∃ A, h = ev_hp A J R T ∧ (∀ a, a ≠ 13 → a ≠ 14 → a ≠ 15 → a ≠ 16 → A a = I a) ∧ A 13 = upd (I 13) 9 1 ∧ ((I 13 9 = 0 ∧ tyl I J g1 g2 g3 l A) ∨ (I 13 9 = 1 ∧ A = I))) := by
  refine pe_of (pw_p (cf_0 ⟨fun e0 => ⟨_, pe_tclear, ?_⟩, fun e0 => ?_⟩))
  rotate_left
  · have e1 := h139.resolve_left e0
    refine ⟨rfl, I, rfl, fun _ _ _ _ _ => rfl, ?_, Or.inr ⟨e1, rfl⟩⟩
    rw [← e1, upd_self]
  rintro r h ⟨rfl, A, rfl, a1, a2, a3⟩
  refine pw_p (cf_15 ?_)
  have loop : ∀ (d k : Nat), k + d = l → ∀ A : Nat → Nat → Int32, (∀ a, a ≠ 14 → a ≠ 15 → a ≠ 16 → A a = I a) → tyl I J g1 g2 g3 k A → ∀ N, pw N X 105 17 [.ref 13, .int (Int32.ofNat k)] [] (ev_hp A J R T) (fun r h => r = none ∧ ∃ A, h = ev_hp A J R T ∧ (∀ a, a ≠ 13 → a ≠ 14 → a ≠ 15 → a ≠ 16 → A a = I a) ∧ A 13 = upd (I 13) 9 1 ∧ ((I 13 9 = 0 ∧ tyl I J g1 g2 g3 l A) ∨ (I 13 9 = 1 ∧ A = I))) := by
    intro d
    induction d with
    | zero =>
      intro k hk A h1 h2 N
      obtain rfl : k = l := by omega
      refine pw_p (cf_17 ⟨fun _ => ⟨rfl, _, rfl, fun a g1 g2 g3 g4 => ?_, ?_, Or.inl ⟨e0, ?_, fun c hc => ?_⟩⟩, fun g => ?_⟩)
      · rw [cx_sI_n _ _ g1]
        exact h1 a g2 g3 g4
      · rw [cx_sI_s, h1 13 (by decide) (by decide) (by decide)]
      · rw [cx_sI_n _ _ (by decide)]
        exact h2.1
      · rw [cx_sI_n _ _ (show (15 : Nat) ≠ 13 by decide), cx_sI_n _ _ (show (16 : Nat) ≠ 13 by decide)]
        exact h2.2 c hc
      · rw [h1 6 (by decide) (by decide) (by decide), e63] at g
        exact absurd (Int32.le_refl _) g
    | succ d ih =>
      intro k hkd A h1 h2 N
      have hk : k < l := by omega
      have hA2 : A 2 = I 2 := h1 2 (by decide) (by decide) (by decide)
      have ez : ∀ (p : Nat → Bool), cq p (k + 1) = cq p k + (bif p k then 1 else 0) := fun _ => rfl
      refine pw_p (cf_17 ⟨fun g => ?_, fun _ => ⟨_, pe_isLeft (k := k) q1 hn (by omega) (by rw [hA2]; exact hb) rfl, ?_⟩⟩)
      · rw [h1 6 (by decide) (by decide) (by decide), e63, io_le (by omega) (by omega)] at g
        omega
      · rintro r h ⟨rfl, rfl⟩
        rw [lfB_c hA2]
        refine pw_p (cf_33 ⟨fun g => ?_, fun g => ⟨_, pe_atRJ q2 (by omega), ?_⟩⟩)
        · have hf : lfB I J (g1 k) = false := by
            cases hz : lfB I J (g1 k)
            · rfl
            · rw [hz] at g
              exact absurd g (by decide)
          refine pw_p (cf_59 ?_)
          rw [io_1]
          refine ih (k + 1) (by omega) A h1 ⟨?_, fun c hc => ?_⟩ N
          · rw [ez, hf]
            exact h2.1
          · rw [ez, ez, hf]
            exact h2.2 c hc
        · have hf : lfB I J (g1 k) = true := by
            cases hz : lfB I J (g1 k)
            · rw [hz] at g
              exact absurd rfl g
            · rfl
          rintro r h ⟨rfl, rfl⟩
          rw [atJ_in (show k < n by omega) (by omega)]
          refine pw_p (cf_48 ⟨_, pe_atRJ q3 (by omega), ?_⟩)
          rintro r h ⟨rfl, rfl⟩
          rw [atJ_in (show k < n by omega) (by omega)]
          refine pw_p (cf_56 ⟨_, pe_tadd (hp k hk).1 (hp k hk).2, ?_⟩)
          rintro r h ⟨rfl, B, rfl, b1, b2, b3⟩
          refine pw_p (cf_59 ?_)
          rw [io_1]
          refine ih (k + 1) (by omega) B (fun a g1 g2 g3 => (b1 a g1 g2 g3).trans (h1 a g1 g2 g3)) ⟨?_, fun c hc => ?_⟩ N
          · rw [ez, hf, b2, h2.1, io_1]
            rfl
          · rw [ez, ez, hf, (b3 c hc).1, (b3 c hc).2, (h2.2 c hc).1, (h2.2 c hc).2]
            constructor
            · cases kb (g2 k) c
              · exact Int32.add_zero _
              · exact io_1 _
            · cases kb (g3 k) c
              · exact Int32.add_zero _
              · exact io_1 _
  exact loop l 0 (by omega) A a1 ⟨a2, a3⟩ N
end
