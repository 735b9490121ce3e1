/-! The reference: the layings that are left. -/
section
variable {N : Nat} {X : ez_X} {I : Nat → Nat → Int32} {J : Nat → Nat → Int64} {R : Nat → Nat} {T : List ez_C} {Q : pw_Q} {cz kz : Nat}
set_option maxRecDepth 100000 in
theorem fl_r0  : ∀ G : ez_F, fx_up X 4 G 233 0 [.ref 35] [] (ev_hp I J R T) cz kz = G 233 4 [.ref 35, .int (0 : Int32), .int (0 : Int32)] [] (ev_hp I J R T) cz kz := by
  intro G
  rfl
theorem wv_0 
    (H : pw N X 233 4 [.ref 35, .int (0 : Int32), .int (0 : Int32)] [] (ev_hp I J R T) Q) : pw (N + 1) X 233 0 [.ref 35] [] (ev_hp I J R T) Q := by
  refine pw_seg (by decide) (fun _ _ => fl_r0) ?_
  exact H
set_option maxRecDepth 100000 in
theorem fl_r1 {a0 : Int32} {a1 : Int32} : ∀ G : ez_F, fx_up X 3 G 233 4 [.ref 35, .int a0, .int a1] [] (ev_hp I J R T) cz kz = G 233 9 [.ref 35, .int a0, .int a1] [.int (I 35 16), .int a1] (ev_hp I J R T) cz kz := by
  intro G
  rfl
set_option maxRecDepth 100000 in
theorem fl_r2 {a0 : Int32} {a1 : Int32} {a2 : Int32} {a3 : Int32} : ∀ G : ez_F, fx_up X 1 G 233 9 [.ref 35, .int a0, .int a1] [.int a2, .int a3] (ev_hp I J R T) cz kz = bif decide (a2 ≤ a3) then G 233 51 [.ref 35, .int a0, .int a1] [] (ev_hp I J R T) cz kz else G 233 12 [.ref 35, .int a0, .int a1] [] (ev_hp I J R T) cz kz := by
  intro G
  rfl
set_option maxRecDepth 100000 in
theorem fl_r3 {a0 : Int32} {a1 : Int32} : ∀ G : ez_F, fx_up X 2 G 233 51 [.ref 35, .int a0, .int a1] [] (ev_hp I J R T) cz kz = some (some (.int a0), (ev_hp I J R T), cz, kz) := by
  intro G
  rfl
set_option maxRecDepth 100000 in
theorem fl_r4 {a0 : Int32} {a1 : Int32} : ∀ G : ez_F, fx_up X 4 G 233 12 [.ref 35, .int a0, .int a1] [] (ev_hp I J R T) cz kz = G 233 18 [.ref 35, .int a0, .int a1] [.int a1, .ref 44, .int a0] (ev_hp I J R T) cz kz := by
  intro G
  rfl
set_option maxRecDepth 100000 in
theorem fl_r5 {a0 : Int32} {a1 : Int32} {a2 : Int32} {a3 : Int32} : ∀ G : ez_F, fx_up X 2 G 233 19 [.ref 35, .int a0, .int a1] [.int a2, .int a3] (ev_hp I J R T) cz kz = bif decide (a2 = (-1 : Int32)) then G 233 42 [.ref 35, .int a0, .int a1] [.int a3] (ev_hp I J R T) cz kz else G 233 23 [.ref 35, .int a0, .int a1] [.int a3] (ev_hp I J R T) cz kz := by
  intro G
  rfl
set_option maxRecDepth 100000 in
theorem fl_r6 {a0 : Int32} {a1 : Int32} {a2 : Int32} : ∀ G : ez_F, fx_up X 5 G 233 42 [.ref 35, .int a0, .int a1] [.int a2] (ev_hp I J R T) cz kz = G 233 4 [.ref 35, .int (a2 + (0 : Int32)), .int (a1 + (1 : Int32))] [] (ev_hp I J R T) cz kz := by
  intro G
  rfl
set_option maxRecDepth 100000 in
theorem fl_r7 {a0 : Int32} {a1 : Int32} {a2 : Int32} : ∀ G : ez_F, fx_up X 3 G 233 23 [.ref 35, .int a0, .int a1] [.int a2] (ev_hp I J R T) cz kz = G 233 28 [.ref 35, .int a0, .int a1] [.int a1, .ref 44, .int a2] (ev_hp I J R T) cz kz := by
  intro G
  rfl
set_option maxRecDepth 100000 in
theorem fl_r8 {a0 : Int32} {a1 : Int32} {a2 : Int32} {a3 : Int32} : ∀ G : ez_F, fx_up X 3 G 233 29 [.ref 35, .int a0, .int a1] [.int a2, .int a3] (ev_hp I J R T) cz kz = G 233 34 [.ref 35, .int a0, .int a1] [.int a1, .ref 48, .int a2, .int a3] (ev_hp I J R T) cz kz := by
  intro G
  rfl
set_option maxRecDepth 100000 in
theorem fl_r9 {a0 : Int32} {a1 : Int32} {a2 : Int32} {a3 : Int32} {a4 : Int32} : ∀ G : ez_F, fx_up X 1 G 233 35 [.ref 35, .int a0, .int a1] [.int a2, .int a3, .int a4] (ev_hp I J R T) cz kz = bif decide (a3 = a2) then G 233 42 [.ref 35, .int a0, .int a1] [.int a4] (ev_hp I J R T) cz kz else G 233 38 [.ref 35, .int a0, .int a1] [.int a4] (ev_hp I J R T) cz kz := by
  intro G
  rfl
set_option maxRecDepth 100000 in
theorem fl_r10 {a0 : Int32} {a1 : Int32} {a2 : Int32} : ∀ G : ez_F, fx_up X 6 G 233 38 [.ref 35, .int a0, .int a1] [.int a2] (ev_hp I J R T) cz kz = G 233 4 [.ref 35, .int (a2 + (1 : Int32)), .int (a1 + (1 : Int32))] [] (ev_hp I J R T) cz kz := by
  intro G
  rfl
theorem wv_4 {m c : Int32}
    (H : (((I 35 16) ≤ c → Q (some (.int m)) (ev_hp I J R T)) ∧ (¬ ((I 35 16) ≤ c) → (ev_ix c 30 → (((I 44 c.toNatClampNeg) = (-1 : Int32) → pw N X 233 4 [.ref 35, .int (m + (0 : Int32)), .int (c + (1 : Int32))] [] (ev_hp I J R T) Q) ∧ (¬ ((I 44 c.toNatClampNeg) = (-1 : Int32)) → (ev_ix c 30 → (ev_ix c 31 → (((I 44 c.toNatClampNeg) = (I 48 c.toNatClampNeg) → pw N X 233 4 [.ref 35, .int (m + (0 : Int32)), .int (c + (1 : Int32))] [] (ev_hp I J R T) Q) ∧ (¬ ((I 44 c.toNatClampNeg) = (I 48 c.toNatClampNeg)) → pw N X 233 4 [.ref 35, .int (m + (1 : Int32)), .int (c + (1 : Int32))] [] (ev_hp I J R T) Q)))))))))) : pw (N + 1) X 233 4 [.ref 35, .int m, .int c] [] (ev_hp I J R T) Q := by
  refine pw_seg (by decide) (fun _ _ => fl_r1) ?_
  refine pw_p (pw_if (by decide) (fun _ _ => fl_r2) (fun w1 => ?_) (fun w1 => ?_))
  · have h1 := H.1 w1
    exact pw_p (pw_ret (by decide) (fun _ _ => fl_r3) h1)
  · have h1 := H.2 w1
    refine pw_p (pw_seg (by decide) (fun _ _ => fl_r4) ?_)
    refine pw_p (pw_iald (by rfl) (cx_getI (show cx_Ds[44]? = some (0, 30, []) from rfl)) (fun w2 => ?_))
    have h2 := h1 w2
    refine pw_p (pw_if (by decide) (fun _ _ => fl_r5) (fun w2 => ?_) (fun w2 => ?_))
    · have h2 := h2.1 w2
      refine pw_p (pw_seg (by decide) (fun _ _ => fl_r6) ?_)
      exact h2
    · have h2 := h2.2 w2
      refine pw_p (pw_seg (by decide) (fun _ _ => fl_r7) ?_)
      refine pw_p (pw_iald (by rfl) (cx_getI (show cx_Ds[44]? = some (0, 30, []) from rfl)) (fun w3 => ?_))
      have h3 := h2 w3
      refine pw_p (pw_seg (by decide) (fun _ _ => fl_r8) ?_)
      refine pw_p (pw_iald (by rfl) (cx_getI (show cx_Ds[48]? = some (0, 31, []) from rfl)) (fun w3 => ?_))
      have h3 := h3 w3
      refine pw_p (pw_if (by decide) (fun _ _ => fl_r9) (fun w3 => ?_) (fun w3 => ?_))
      · have h3 := h3.1 w3
        refine pw_p (pw_seg (by decide) (fun _ _ => fl_r6) ?_)
        exact h3
      · have h3 := h3.2 w3
        refine pw_p (pw_seg (by decide) (fun _ _ => fl_r10) ?_)
        exact h3
set_option maxRecDepth 100000 in
theorem fl_r11  : ∀ G : ez_F, fx_up X 2 G 188 0 [.ref 35] [] (ev_hp I J R T) cz kz = ev_C G 167 [.ref 35] (ev_hp I J R T) fun r h1 c1 k1 => G 188 4 [.ref 35] (r.toList ++ []) h1 (cz + c1) (kz + k1) := by
  intro G
  rfl
theorem fv_0 
    (H : (∃ Q1 : pw_Q, pe N X 167 [.ref 35] (ev_hp I J R T) Q1 ∧ ∀ (r : Option Value) (h1 : ez_H), Q1 r h1 → pw N X 188 4 [.ref 35] (r.toList ++ []) h1 Q)) : pw (N + 1) X 188 0 [.ref 35] [] (ev_hp I J R T) Q := by
  obtain ⟨Q1, hc, hk⟩ := H
  exact pw_call (by decide) (fun _ _ => fl_r11) hc hk
set_option maxRecDepth 100000 in
theorem fl_r12 {a0 : Int32} : ∀ G : ez_F, fx_up X 1 G 188 4 [.ref 35] [.int a0] (ev_hp I J R T) cz kz = bif decide (¬ a0 = (0 : Int32)) then G 188 9 [.ref 35] [] (ev_hp I J R T) cz kz else G 188 7 [.ref 35] [] (ev_hp I J R T) cz kz := by
  intro G
  rfl
set_option maxRecDepth 100000 in
theorem fl_r13  : ∀ G : ez_F, fx_up X 3 G 188 9 [.ref 35] [] (ev_hp I J R T) cz kz = G 188 14 [.ref 35] [] (ev_hp (ev_sI I 35 (upd (I 35) 24 (0 : Int32))) J R T) cz kz := by
  intro G
  rfl
set_option maxRecDepth 100000 in
theorem fl_r14  : ∀ G : ez_F, fx_up X 2 G 188 14 [.ref 35] [] (ev_hp I J R T) cz kz = G 188 16 [.ref 35, .int (0 : Int32)] [] (ev_hp I J R T) cz kz := by
  intro G
  rfl
set_option maxRecDepth 100000 in
theorem fl_r15  : ∀ G : ez_F, fx_up X 1 G 188 7 [.ref 35] [] (ev_hp I J R T) cz kz = G 188 8 [.ref 35] [.int (0 : Int32)] (ev_hp I J R T) cz kz := by
  intro G
  rfl
theorem fv_4 {v : Int32}
    (H : ((¬ v = (0 : Int32) → pw N X 188 16 [.ref 35, .int (0 : Int32)] [] (ev_hp (ev_sI I 35 (upd (I 35) 24 (0 : Int32))) J R T) Q) ∧ (¬ (¬ v = (0 : Int32)) → ((0 : Int32) = 0 ∨ (0 : Int32) = 1 → Q (some (.int (0 : Int32))) (ev_hp I J R T))))) : pw (N + 1) X 188 4 [.ref 35] [.int v] (ev_hp I J R T) Q := by
  refine pw_if (by decide) (fun _ _ => fl_r12) (fun w1 => ?_) (fun w1 => ?_)
  · have h1 := H.1 w1
    refine pw_p (pw_seg (by decide) (fun _ _ => fl_r13) ?_)
    refine pw_p (pw_seg (by decide) (fun _ _ => fl_r14) ?_)
    exact h1
  · have h1 := H.2 w1
    refine pw_p (pw_seg (by decide) (fun _ _ => fl_r15) ?_)
    exact pw_p (pw_zret (by rfl) h1)
set_option maxRecDepth 100000 in
theorem fl_r16 {a0 : Int32} : ∀ G : ez_F, fx_up X 3 G 188 16 [.ref 35, .int a0] [] (ev_hp I J R T) cz kz = G 188 21 [.ref 35, .int a0] [.int (I 35 14), .int a0] (ev_hp I J R T) cz kz := by
  intro G
  rfl
set_option maxRecDepth 100000 in
theorem fl_r17 {a0 : Int32} {a1 : Int32} {a2 : Int32} : ∀ G : ez_F, fx_up X 1 G 188 21 [.ref 35, .int a0] [.int a1, .int a2] (ev_hp I J R T) cz kz = bif decide (a1 ≤ a2) then G 188 145 [.ref 35, .int a0] [] (ev_hp I J R T) cz kz else G 188 24 [.ref 35, .int a0] [] (ev_hp I J R T) cz kz := by
  intro G
  rfl
set_option maxRecDepth 100000 in
theorem fl_r18 {a0 : Int32} : ∀ G : ez_F, fx_up X 1 G 188 145 [.ref 35, .int a0] [] (ev_hp I J R T) cz kz = G 188 146 [.ref 35, .int a0] [.int (1 : Int32)] (ev_hp I J R T) cz kz := by
  intro G
  rfl
set_option maxRecDepth 100000 in
theorem fl_r19 {a0 : Int32} : ∀ G : ez_F, fx_up X 4 G 188 24 [.ref 35, .int a0] [] (ev_hp I J R T) cz kz = G 188 30 [.ref 35, .int a0] [.int (I 35 16), .int a0, .ref 35] (ev_hp I J R T) cz kz := by
  intro G
  rfl
set_option maxRecDepth 100000 in
theorem fl_r20 {a0 : Int32} {a1 : Int32} {a2 : Int32} : ∀ G : ez_F, fx_up X 1 G 188 30 [.ref 35, .int a0] [.int a1, .int a2, .ref 35] (ev_hp I J R T) cz kz = ev_C G 192 [.ref 35, .int a2, .int a1] (ev_hp I J R T) fun r h1 c1 k1 => G 188 33 [.ref 35, .int a0] (r.toList ++ []) h1 (cz + c1) (kz + k1) := by
  intro G
  rfl
theorem fv_16 {k : Int32}
    (H : (((I 35 14) ≤ k → ((1 : Int32) = 0 ∨ (1 : Int32) = 1 → Q (some (.int (1 : Int32))) (ev_hp I J R T))) ∧ (¬ ((I 35 14) ≤ k) → (∃ Q1 : pw_Q, pe N X 192 [.ref 35, .int k, .int (I 35 16)] (ev_hp I J R T) Q1 ∧ ∀ (r : Option Value) (h1 : ez_H), Q1 r h1 → pw N X 188 33 [.ref 35, .int k] (r.toList ++ []) h1 Q)))) : pw (N + 1) X 188 16 [.ref 35, .int k] [] (ev_hp I J R T) Q := by
  refine pw_seg (by decide) (fun _ _ => fl_r16) ?_
  refine pw_p (pw_if (by decide) (fun _ _ => fl_r17) (fun w1 => ?_) (fun w1 => ?_))
  · have h1 := H.1 w1
    refine pw_p (pw_seg (by decide) (fun _ _ => fl_r18) ?_)
    exact pw_p (pw_zret (by rfl) h1)
  · have h1 := H.2 w1
    refine pw_p (pw_seg (by decide) (fun _ _ => fl_r19) ?_)
    obtain ⟨Q1, hc, hk⟩ := h1
    exact pw_p (pw_call (by decide) (fun _ _ => fl_r20) hc hk)
set_option maxRecDepth 100000 in
theorem fl_r21 {a0 : Int32} : ∀ G : ez_F, fx_up X 2 G 188 33 [.ref 35, .int a0] [] (ev_hp I J R T) cz kz = ev_C G 233 [.ref 35] (ev_hp I J R T) fun r h1 c1 k1 => G 188 37 [.ref 35, .int a0] (r.toList ++ []) h1 (cz + c1) (kz + k1) := by
  intro G
  rfl
theorem fv_33 {k : Int32}
    (H : (∃ Q1 : pw_Q, pe N X 233 [.ref 35] (ev_hp I J R T) Q1 ∧ ∀ (r : Option Value) (h1 : ez_H), Q1 r h1 → pw N X 188 37 [.ref 35, .int k] (r.toList ++ []) h1 Q)) : pw (N + 1) X 188 33 [.ref 35, .int k] [] (ev_hp I J R T) Q := by
  obtain ⟨Q1, hc, hk⟩ := H
  exact pw_call (by decide) (fun _ _ => fl_r21) hc hk
set_option maxRecDepth 100000 in
theorem fl_r22 {a0 : Int32} {a1 : Int32} : ∀ G : ez_F, fx_up X 2 G 188 37 [.ref 35, .int a0] [.int a1] (ev_hp I J R T) cz kz = G 188 41 [.ref 35, .int a0] [.int (I 35 8), .int a1] (ev_hp I J R T) cz kz := by
  intro G
  rfl
set_option maxRecDepth 100000 in
theorem fl_r23 {a0 : Int32} {a1 : Int32} {a2 : Int32} : ∀ G : ez_F, fx_up X 1 G 188 41 [.ref 35, .int a0] [.int a1, .int a2] (ev_hp I J R T) cz kz = bif decide (a1 < a2) then G 188 139 [.ref 35, .int a0] [] (ev_hp I J R T) cz kz else G 188 44 [.ref 35, .int a0] [] (ev_hp I J R T) cz kz := by
  intro G
  rfl
set_option maxRecDepth 100000 in
theorem fl_r24 {a0 : Int32} : ∀ G : ez_F, fx_up X 2 G 188 139 [.ref 35, .int a0] [] (ev_hp I J R T) cz kz = G 188 16 [.ref 35, .int (a0 + (1 : Int32))] [] (ev_hp I J R T) cz kz := by
  intro G
  rfl
set_option maxRecDepth 100000 in
theorem fl_r25 {a0 : Int32} : ∀ G : ez_F, fx_up X 4 G 188 44 [.ref 35, .int a0] [] (ev_hp I J R T) cz kz = G 188 52 [.ref 35, .int a0] [.int (I 35 24), .ref 49] (ev_hp I J R T) cz kz := by
  intro G
  rfl
set_option maxRecDepth 100000 in
theorem fl_r26 {a0 : Int32} {a1 : Int32} : ∀ G : ez_F, fx_up X 1 G 188 52 [.ref 35, .int a0] [.int a1, .ref 49] (ev_hp I J R T) cz kz = G 188 53 [.ref 35, .int a0] [.int a0, .int a1, .ref 49] (ev_hp I J R T) cz kz := by
  intro G
  rfl
set_option maxRecDepth 100000 in
theorem fl_r27 {a0 : Int32} : ∀ G : ez_F, fx_up X 2 G 188 54 [.ref 35, .int a0] [] (ev_hp I J R T) cz kz = G 188 56 [.ref 35, .int a0, .int (0 : Int32)] [] (ev_hp I J R T) cz kz := by
  intro G
  rfl
theorem fv_37 {k v : Int32}
    (H : (((I 35 8) < v → pw N X 188 16 [.ref 35, .int (k + (1 : Int32))] [] (ev_hp I J R T) Q) ∧ (¬ ((I 35 8) < v) → (ev_ix (I 35 24) 10001 → pw N X 188 56 [.ref 35, .int k, .int (0 : Int32)] [] (ev_hp (ev_sI I 49 (upd (I 49) ((I 35 24).toNatClampNeg) k)) J R T) Q)))) : pw (N + 1) X 188 37 [.ref 35, .int k] [.int v] (ev_hp I J R T) Q := by
  refine pw_seg (by decide) (fun _ _ => fl_r22) ?_
  refine pw_p (pw_if (by decide) (fun _ _ => fl_r23) (fun w1 => ?_) (fun w1 => ?_))
  · have h1 := H.1 w1
    refine pw_p (pw_seg (by decide) (fun _ _ => fl_r24) ?_)
    exact h1
  · have h1 := H.2 w1
    refine pw_p (pw_seg (by decide) (fun _ _ => fl_r25) ?_)
    refine pw_p (pw_seg (by decide) (fun _ _ => fl_r26) ?_)
    refine pw_p (pw_iast (by rfl) (cx_getI (show cx_Ds[49]? = some (0, 10001, []) from rfl)) (cx_setI (show cx_Ds[49]? = some (0, 10001, []) from rfl) _) (fun w2 => ?_))
    have h2 := h1 w2
    refine pw_p (pw_seg (by decide) (fun _ _ => fl_r27) ?_)
    exact h2
set_option maxRecDepth 100000 in
theorem fl_r28 {a0 : Int32} {a1 : Int32} : ∀ G : ez_F, fx_up X 3 G 188 56 [.ref 35, .int a0, .int a1] [] (ev_hp I J R T) cz kz = bif decide ((3 : Int32) ≤ a1) then G 188 129 [.ref 35, .int a0, .int a1] [] (ev_hp I J R T) cz kz else G 188 61 [.ref 35, .int a0, .int a1] [] (ev_hp I J R T) cz kz := by
  intro G
  rfl
set_option maxRecDepth 100000 in
theorem fl_r29 {a0 : Int32} {a1 : Int32} : ∀ G : ez_F, fx_up X 3 G 188 129 [.ref 35, .int a0, .int a1] [] (ev_hp I J R T) cz kz = G 188 134 [.ref 35, .int a0, .int a1] [.int (I 35 24), .ref 35] (ev_hp I J R T) cz kz := by
  intro G
  rfl
set_option maxRecDepth 100000 in
theorem fl_r30 {a0 : Int32} {a1 : Int32} {a2 : Int32} : ∀ G : ez_F, fx_up X 3 G 188 134 [.ref 35, .int a0, .int a1] [.int a2, .ref 35] (ev_hp I J R T) cz kz = G 188 139 [.ref 35, .int a0, .int a1] [] (ev_hp (ev_sI I 35 (upd (I 35) 24 (a2 + (1 : Int32)))) J R T) cz kz := by
  intro G
  rfl
set_option maxRecDepth 100000 in
theorem fl_r31 {a0 : Int32} {a1 : Int32} : ∀ G : ez_F, fx_up X 2 G 188 139 [.ref 35, .int a0, .int a1] [] (ev_hp I J R T) cz kz = G 188 16 [.ref 35, .int (a0 + (1 : Int32))] [] (ev_hp I J R T) cz kz := by
  intro G
  rfl
set_option maxRecDepth 100000 in
theorem fl_r32 {a0 : Int32} {a1 : Int32} : ∀ G : ez_F, fx_up X 5 G 188 61 [.ref 35, .int a0, .int a1] [] (ev_hp I J R T) cz kz = G 188 70 [.ref 35, .int a0, .int a1] [.int (I 35 24), .int (3 : Int32), .ref 50] (ev_hp I J R T) cz kz := by
  intro G
  rfl
set_option maxRecDepth 100000 in
theorem fl_r33 {a0 : Int32} {a1 : Int32} {a2 : Int32} {a3 : Int32} : ∀ G : ez_F, fx_up X 6 G 188 70 [.ref 35, .int a0, .int a1] [.int a2, .int a3, .ref 50] (ev_hp I J R T) cz kz = G 188 78 [.ref 35, .int a0, .int a1] [.int (I 35 3), .int a1, .int ((a3 * a2) + a1), .ref 50] (ev_hp I J R T) cz kz := by
  intro G
  rfl
set_option maxRecDepth 100000 in
theorem fl_r34 {a0 : Int32} {a1 : Int32} {a2 : Int32} {a3 : Int32} {a4 : Int32} : ∀ G : ez_F, fx_up X 1 G 188 78 [.ref 35, .int a0, .int a1] [.int a2, .int a3, .int a4, .ref 50] (ev_hp I J R T) cz kz = bif decide (a2 ≤ a3) then G 188 90 [.ref 35, .int a0, .int a1] [.int a4, .ref 50] (ev_hp I J R T) cz kz else G 188 81 [.ref 35, .int a0, .int a1] [.int a4, .ref 50] (ev_hp I J R T) cz kz := by
  intro G
  rfl
set_option maxRecDepth 100000 in
theorem fl_r35 {a0 : Int32} {a1 : Int32} {a2 : Int32} : ∀ G : ez_F, fx_up X 1 G 188 90 [.ref 35, .int a0, .int a1] [.int a2, .ref 50] (ev_hp I J R T) cz kz = G 188 91 [.ref 35, .int a0, .int a1] [.long (0 : Int64), .int a2, .ref 50] (ev_hp I J R T) cz kz := by
  intro G
  rfl
set_option maxRecDepth 100000 in
theorem fl_r36 {a0 : Int32} {a1 : Int32} : ∀ G : ez_F, fx_up X 5 G 188 92 [.ref 35, .int a0, .int a1] [] (ev_hp I J R T) cz kz = G 188 101 [.ref 35, .int a0, .int a1] [.int (I 35 24), .int (3 : Int32), .ref 51] (ev_hp I J R T) cz kz := by
  intro G
  rfl
set_option maxRecDepth 100000 in
theorem fl_r37 {a0 : Int32} {a1 : Int32} {a2 : Int32} {a3 : Int32} : ∀ G : ez_F, fx_up X 6 G 188 101 [.ref 35, .int a0, .int a1] [.int a2, .int a3, .ref 51] (ev_hp I J R T) cz kz = G 188 109 [.ref 35, .int a0, .int a1] [.int (I 35 3), .int a1, .int ((a3 * a2) + a1), .ref 51] (ev_hp I J R T) cz kz := by
  intro G
  rfl
set_option maxRecDepth 100000 in
theorem fl_r38 {a0 : Int32} {a1 : Int32} {a2 : Int32} {a3 : Int32} {a4 : Int32} : ∀ G : ez_F, fx_up X 1 G 188 109 [.ref 35, .int a0, .int a1] [.int a2, .int a3, .int a4, .ref 51] (ev_hp I J R T) cz kz = bif decide (a2 ≤ a3) then G 188 121 [.ref 35, .int a0, .int a1] [.int a4, .ref 51] (ev_hp I J R T) cz kz else G 188 112 [.ref 35, .int a0, .int a1] [.int a4, .ref 51] (ev_hp I J R T) cz kz := by
  intro G
  rfl
set_option maxRecDepth 100000 in
theorem fl_r39 {a0 : Int32} {a1 : Int32} {a2 : Int32} : ∀ G : ez_F, fx_up X 1 G 188 121 [.ref 35, .int a0, .int a1] [.int a2, .ref 51] (ev_hp I J R T) cz kz = G 188 122 [.ref 35, .int a0, .int a1] [.long (0 : Int64), .int a2, .ref 51] (ev_hp I J R T) cz kz := by
  intro G
  rfl
set_option maxRecDepth 100000 in
theorem fl_r40 {a0 : Int32} {a1 : Int32} : ∀ G : ez_F, fx_up X 2 G 188 123 [.ref 35, .int a0, .int a1] [] (ev_hp I J R T) cz kz = G 188 56 [.ref 35, .int a0, .int (a1 + (1 : Int32))] [] (ev_hp I J R T) cz kz := by
  intro G
  rfl
set_option maxRecDepth 100000 in
theorem fl_r41 {a0 : Int32} {a1 : Int32} {a2 : Int32} : ∀ G : ez_F, fx_up X 3 G 188 112 [.ref 35, .int a0, .int a1] [.int a2, .ref 51] (ev_hp I J R T) cz kz = G 188 117 [.ref 35, .int a0, .int a1] [.int a1, .ref 46, .int a2, .ref 51] (ev_hp I J R T) cz kz := by
  intro G
  rfl
set_option maxRecDepth 100000 in
theorem fl_r42 {a0 : Int32} {a1 : Int32} {a2 : Int64} {a3 : Int32} : ∀ G : ez_F, fx_up X 1 G 188 118 [.ref 35, .int a0, .int a1] [.long a2, .int a3, .ref 51] (ev_hp I J R T) cz kz = G 188 122 [.ref 35, .int a0, .int a1] [.long a2, .int a3, .ref 51] (ev_hp I J R T) cz kz := by
  intro G
  rfl
set_option maxRecDepth 100000 in
theorem fl_r43 {a0 : Int32} {a1 : Int32} {a2 : Int32} : ∀ G : ez_F, fx_up X 3 G 188 81 [.ref 35, .int a0, .int a1] [.int a2, .ref 50] (ev_hp I J R T) cz kz = G 188 86 [.ref 35, .int a0, .int a1] [.int a1, .ref 45, .int a2, .ref 50] (ev_hp I J R T) cz kz := by
  intro G
  rfl
set_option maxRecDepth 100000 in
theorem fl_r44 {a0 : Int32} {a1 : Int32} {a2 : Int64} {a3 : Int32} : ∀ G : ez_F, fx_up X 1 G 188 87 [.ref 35, .int a0, .int a1] [.long a2, .int a3, .ref 50] (ev_hp I J R T) cz kz = G 188 91 [.ref 35, .int a0, .int a1] [.long a2, .int a3, .ref 50] (ev_hp I J R T) cz kz := by
  intro G
  rfl
theorem fv_56 {k s : Int32}
    (H : (((3 : Int32) ≤ s → pw N X 188 16 [.ref 35, .int (k + (1 : Int32))] [] (ev_hp (ev_sI I 35 (upd (I 35) 24 ((I 35 24) + (1 : Int32)))) J R T) Q) ∧ (¬ ((3 : Int32) ≤ s) → (((I 35 3) ≤ s → (ev_ix (((3 : Int32) * (I 35 24)) + s) 30003 → (((I 35 3) ≤ s → (ev_ix (((3 : Int32) * (I 35 24)) + s) 30003 → pw N X 188 56 [.ref 35, .int k, .int (s + (1 : Int32))] [] (ev_hp I (ev_sJ (ev_sJ J 50 (vp_updL (J 50) ((((3 : Int32) * (I 35 24)) + s).toNatClampNeg) (0 : Int64))) 51 (vp_updL (J 51) ((((3 : Int32) * (I 35 24)) + s).toNatClampNeg) (0 : Int64))) R T) Q)) ∧ (¬ ((I 35 3) ≤ s) → (ev_ix s 3 → (ev_ix (((3 : Int32) * (I 35 24)) + s) 30003 → pw N X 188 56 [.ref 35, .int k, .int (s + (1 : Int32))] [] (ev_hp I (ev_sJ (ev_sJ J 50 (vp_updL (J 50) ((((3 : Int32) * (I 35 24)) + s).toNatClampNeg) (0 : Int64))) 51 (vp_updL (J 51) ((((3 : Int32) * (I 35 24)) + s).toNatClampNeg) (J 46 s.toNatClampNeg))) R T) Q)))))) ∧ (¬ ((I 35 3) ≤ s) → (ev_ix s 3 → (ev_ix (((3 : Int32) * (I 35 24)) + s) 30003 → (((I 35 3) ≤ s → (ev_ix (((3 : Int32) * (I 35 24)) + s) 30003 → pw N X 188 56 [.ref 35, .int k, .int (s + (1 : Int32))] [] (ev_hp I (ev_sJ (ev_sJ J 50 (vp_updL (J 50) ((((3 : Int32) * (I 35 24)) + s).toNatClampNeg) (J 45 s.toNatClampNeg))) 51 (vp_updL (J 51) ((((3 : Int32) * (I 35 24)) + s).toNatClampNeg) (0 : Int64))) R T) Q)) ∧ (¬ ((I 35 3) ≤ s) → (ev_ix s 3 → (ev_ix (((3 : Int32) * (I 35 24)) + s) 30003 → pw N X 188 56 [.ref 35, .int k, .int (s + (1 : Int32))] [] (ev_hp I (ev_sJ (ev_sJ J 50 (vp_updL (J 50) ((((3 : Int32) * (I 35 24)) + s).toNatClampNeg) (J 45 s.toNatClampNeg))) 51 (vp_updL (J 51) ((((3 : Int32) * (I 35 24)) + s).toNatClampNeg) (J 46 s.toNatClampNeg))) R T) Q))))))))))) : pw (N + 1) X 188 56 [.ref 35, .int k, .int s] [] (ev_hp I J R T) Q := by
  refine pw_if (by decide) (fun _ _ => fl_r28) (fun w1 => ?_) (fun w1 => ?_)
  · have h1 := H.1 w1
    refine pw_p (pw_seg (by decide) (fun _ _ => fl_r29) ?_)
    refine pw_p (pw_seg (by decide) (fun _ _ => fl_r30) ?_)
    refine pw_p (pw_seg (by decide) (fun _ _ => fl_r31) ?_)
    exact h1
  · have h1 := H.2 w1
    refine pw_p (pw_seg (by decide) (fun _ _ => fl_r32) ?_)
    refine pw_p (pw_seg (by decide) (fun _ _ => fl_r33) ?_)
    refine pw_p (pw_if (by decide) (fun _ _ => fl_r34) (fun w2 => ?_) (fun w2 => ?_))
    · have h2 := h1.1 w2
      refine pw_p (pw_seg (by decide) (fun _ _ => fl_r35) ?_)
      refine pw_p (pw_last (by rfl) (cx_getJ (show cx_Ds[50]? = some (1, 30003, []) from rfl)) (cx_setJ (show cx_Ds[50]? = some (1, 30003, []) from rfl) _) (fun w3 => ?_))
      have h3 := h2 w3
      refine pw_p (pw_seg (by decide) (fun _ _ => fl_r36) ?_)
      refine pw_p (pw_seg (by decide) (fun _ _ => fl_r37) ?_)
      refine pw_p (pw_if (by decide) (fun _ _ => fl_r38) (fun w3 => ?_) (fun w3 => ?_))
      · have h3 := h3.1 w3
        refine pw_p (pw_seg (by decide) (fun _ _ => fl_r39) ?_)
        refine pw_p (pw_last (by rfl) (cx_getJ (show cx_Ds[51]? = some (1, 30003, []) from rfl)) (cx_setJ (show cx_Ds[51]? = some (1, 30003, []) from rfl) _) (fun w4 => ?_))
        have h4 := h3 w4
        refine pw_p (pw_seg (by decide) (fun _ _ => fl_r40) ?_)
        exact h4
      · have h3 := h3.2 w3
        refine pw_p (pw_seg (by decide) (fun _ _ => fl_r41) ?_)
        refine pw_p (pw_lald (by rfl) (cx_getJ (show cx_Ds[46]? = some (1, 3, []) from rfl)) (fun w4 => ?_))
        have h4 := h3 w4
        refine pw_p (pw_seg (by decide) (fun _ _ => fl_r42) ?_)
        refine pw_p (pw_last (by rfl) (cx_getJ (show cx_Ds[51]? = some (1, 30003, []) from rfl)) (cx_setJ (show cx_Ds[51]? = some (1, 30003, []) from rfl) _) (fun w4 => ?_))
        have h4 := h4 w4
        refine pw_p (pw_seg (by decide) (fun _ _ => fl_r40) ?_)
        exact h4
    · have h2 := h1.2 w2
      refine pw_p (pw_seg (by decide) (fun _ _ => fl_r43) ?_)
      refine pw_p (pw_lald (by rfl) (cx_getJ (show cx_Ds[45]? = some (1, 3, []) from rfl)) (fun w3 => ?_))
      have h3 := h2 w3
      refine pw_p (pw_seg (by decide) (fun _ _ => fl_r44) ?_)
      refine pw_p (pw_last (by rfl) (cx_getJ (show cx_Ds[50]? = some (1, 30003, []) from rfl)) (cx_setJ (show cx_Ds[50]? = some (1, 30003, []) from rfl) _) (fun w3 => ?_))
      have h3 := h3 w3
      refine pw_p (pw_seg (by decide) (fun _ _ => fl_r36) ?_)
      refine pw_p (pw_seg (by decide) (fun _ _ => fl_r37) ?_)
      refine pw_p (pw_if (by decide) (fun _ _ => fl_r38) (fun w3 => ?_) (fun w3 => ?_))
      · have h3 := h3.1 w3
        refine pw_p (pw_seg (by decide) (fun _ _ => fl_r39) ?_)
        refine pw_p (pw_last (by rfl) (cx_getJ (show cx_Ds[51]? = some (1, 30003, []) from rfl)) (cx_setJ (show cx_Ds[51]? = some (1, 30003, []) from rfl) _) (fun w4 => ?_))
        have h4 := h3 w4
        refine pw_p (pw_seg (by decide) (fun _ _ => fl_r40) ?_)
        exact h4
      · have h3 := h3.2 w3
        refine pw_p (pw_seg (by decide) (fun _ _ => fl_r41) ?_)
        refine pw_p (pw_lald (by rfl) (cx_getJ (show cx_Ds[46]? = some (1, 3, []) from rfl)) (fun w4 => ?_))
        have h4 := h3 w4
        refine pw_p (pw_seg (by decide) (fun _ _ => fl_r42) ?_)
        refine pw_p (pw_last (by rfl) (cx_getJ (show cx_Ds[51]? = some (1, 30003, []) from rfl)) (cx_setJ (show cx_Ds[51]? = some (1, 30003, []) from rfl) _) (fun w4 => ?_))
        have h4 := h4 w4
        refine pw_p (pw_seg (by decide) (fun _ _ => fl_r40) ?_)
        exact h4
set_option maxRecDepth 100000 in
theorem fl_r45 {a0 : Int32} : ∀ G : ez_F, fx_up X 2 G 231 0 [.ref 35, .int a0] [] (ev_hp I J R T) cz kz = G 231 2 [.ref 35, .int a0, .int (0 : Int32)] [] (ev_hp I J R T) cz kz := by
  intro G
  rfl
theorem uv_0 {i : Int32}
    (H : pw N X 231 2 [.ref 35, .int i, .int (0 : Int32)] [] (ev_hp I J R T) Q) : pw (N + 1) X 231 0 [.ref 35, .int i] [] (ev_hp I J R T) Q := by
  refine pw_seg (by decide) (fun _ _ => fl_r45) ?_
  exact H
set_option maxRecDepth 100000 in
theorem fl_r46 {a0 : Int32} {a1 : Int32} : ∀ G : ez_F, fx_up X 3 G 231 2 [.ref 35, .int a0, .int a1] [] (ev_hp I J R T) cz kz = G 231 7 [.ref 35, .int a0, .int a1] [.int (I 35 3), .int a1] (ev_hp I J R T) cz kz := by
  intro G
  rfl
set_option maxRecDepth 100000 in
theorem fl_r47 {a0 : Int32} {a1 : Int32} {a2 : Int32} {a3 : Int32} : ∀ G : ez_F, fx_up X 1 G 231 7 [.ref 35, .int a0, .int a1] [.int a2, .int a3] (ev_hp I J R T) cz kz = bif decide (a2 ≤ a3) then G 231 48 [.ref 35, .int a0, .int a1] [] (ev_hp I J R T) cz kz else G 231 10 [.ref 35, .int a0, .int a1] [] (ev_hp I J R T) cz kz := by
  intro G
  rfl
set_option maxRecDepth 100000 in
theorem fl_r48 {a0 : Int32} {a1 : Int32} : ∀ G : ez_F, fx_up X 1 G 231 48 [.ref 35, .int a0, .int a1] [] (ev_hp I J R T) cz kz = some (none, (ev_hp I J R T), cz, kz) := by
  intro G
  rfl
set_option maxRecDepth 100000 in
theorem fl_r49 {a0 : Int32} {a1 : Int32} : ∀ G : ez_F, fx_up X 10 G 231 10 [.ref 35, .int a0, .int a1] [] (ev_hp I J R T) cz kz = G 231 24 [.ref 35, .int a0, .int a1] [.int (((3 : Int32) * a0) + a1), .ref 50, .int a1, .ref 45] (ev_hp I J R T) cz kz := by
  intro G
  rfl
set_option maxRecDepth 100000 in
theorem fl_r50 {a0 : Int32} {a1 : Int32} : ∀ G : ez_F, fx_up X 10 G 231 26 [.ref 35, .int a0, .int a1] [] (ev_hp I J R T) cz kz = G 231 40 [.ref 35, .int a0, .int a1] [.int (((3 : Int32) * a0) + a1), .ref 51, .int a1, .ref 46] (ev_hp I J R T) cz kz := by
  intro G
  rfl
set_option maxRecDepth 100000 in
theorem fl_r51 {a0 : Int32} {a1 : Int32} : ∀ G : ez_F, fx_up X 2 G 231 42 [.ref 35, .int a0, .int a1] [] (ev_hp I J R T) cz kz = G 231 2 [.ref 35, .int a0, .int (a1 + (1 : Int32))] [] (ev_hp I J R T) cz kz := by
  intro G
  rfl
theorem uv_2 {i s : Int32}
    (H : (((I 35 3) ≤ s → Q none (ev_hp I J R T)) ∧ (¬ ((I 35 3) ≤ s) → (ev_ix (((3 : Int32) * i) + s) 30003 → (ev_ix s 3 → (ev_ix (((3 : Int32) * i) + s) 30003 → (ev_ix s 3 → pw N X 231 2 [.ref 35, .int i, .int (s + (1 : Int32))] [] (ev_hp I (ev_sJ (ev_sJ J 45 (vp_updL (J 45) s.toNatClampNeg (J 50 (((3 : Int32) * i) + s).toNatClampNeg))) 46 (vp_updL (J 46) s.toNatClampNeg (J 51 (((3 : Int32) * i) + s).toNatClampNeg))) R T) Q))))))) : pw (N + 1) X 231 2 [.ref 35, .int i, .int s] [] (ev_hp I J R T) Q := by
  refine pw_seg (by decide) (fun _ _ => fl_r46) ?_
  refine pw_p (pw_if (by decide) (fun _ _ => fl_r47) (fun w1 => ?_) (fun w1 => ?_))
  · have h1 := H.1 w1
    exact pw_p (pw_ret (by decide) (fun _ _ => fl_r48) h1)
  · have h1 := H.2 w1
    refine pw_p (pw_seg (by decide) (fun _ _ => fl_r49) ?_)
    refine pw_p (pw_lald (by rfl) (cx_getJ (show cx_Ds[50]? = some (1, 30003, []) from rfl)) (fun w2 => ?_))
    have h2 := h1 w2
    refine pw_p (pw_last (by rfl) (cx_getJ (show cx_Ds[45]? = some (1, 3, []) from rfl)) (cx_setJ (show cx_Ds[45]? = some (1, 3, []) from rfl) _) (fun w2 => ?_))
    have h2 := h2 w2
    refine pw_p (pw_seg (by decide) (fun _ _ => fl_r50) ?_)
    refine pw_p (pw_lald (by rfl) (cx_getJ (show cx_Ds[51]? = some (1, 30003, []) from rfl)) (fun w2 => ?_))
    have h2 := h2 w2
    refine pw_p (pw_last (by rfl) (cx_getJ (show cx_Ds[46]? = some (1, 3, []) from rfl)) (cx_setJ (show cx_Ds[46]? = some (1, 3, []) from rfl) _) (fun w2 => ?_))
    have h2 := h2 w2
    refine pw_p (pw_seg (by decide) (fun _ _ => fl_r51) ?_)
    exact h2
set_option maxRecDepth 100000 in
theorem fl_r52 {a0 : Int32} : ∀ G : ez_F, fx_up X 4 G 228 0 [.ref 35, .int a0] [] (ev_hp I J R T) cz kz = G 228 4 [.ref 35, .int a0, .int (0 : Int32), .int (0 : Int32)] [] (ev_hp I J R T) cz kz := by
  intro G
  rfl
theorem tv_0 {c : Int32}
    (H : pw N X 228 4 [.ref 35, .int c, .int (0 : Int32), .int (0 : Int32)] [] (ev_hp I J R T) Q) : pw (N + 1) X 228 0 [.ref 35, .int c] [] (ev_hp I J R T) Q := by
  refine pw_seg (by decide) (fun _ _ => fl_r52) ?_
  exact H
set_option maxRecDepth 100000 in
theorem fl_r53 {a0 : Int32} {a1 : Int32} {a2 : Int32} : ∀ G : ez_F, fx_up X 3 G 228 4 [.ref 35, .int a0, .int a1, .int a2] [] (ev_hp I J R T) cz kz = G 228 9 [.ref 35, .int a0, .int a1, .int a2] [.int (I 35 24), .int a2] (ev_hp I J R T) cz kz := by
  intro G
  rfl
set_option maxRecDepth 100000 in
theorem fl_r54 {a0 : Int32} {a1 : Int32} {a2 : Int32} {a3 : Int32} {a4 : Int32} : ∀ G : ez_F, fx_up X 1 G 228 9 [.ref 35, .int a0, .int a1, .int a2] [.int a3, .int a4] (ev_hp I J R T) cz kz = bif decide (a3 ≤ a4) then G 228 40 [.ref 35, .int a0, .int a1, .int a2] [] (ev_hp I J R T) cz kz else G 228 12 [.ref 35, .int a0, .int a1, .int a2] [] (ev_hp I J R T) cz kz := by
  intro G
  rfl
set_option maxRecDepth 100000 in
theorem fl_r55 {a0 : Int32} {a1 : Int32} {a2 : Int32} : ∀ G : ez_F, fx_up X 2 G 228 40 [.ref 35, .int a0, .int a1, .int a2] [] (ev_hp I J R T) cz kz = some (some (.int a1), (ev_hp I J R T), cz, kz) := by
  intro G
  rfl
set_option maxRecDepth 100000 in
theorem fl_r56 {a0 : Int32} {a1 : Int32} {a2 : Int32} : ∀ G : ez_F, fx_up X 3 G 228 12 [.ref 35, .int a0, .int a1, .int a2] [] (ev_hp I J R T) cz kz = ev_C G 231 [.ref 35, .int a2] (ev_hp I J R T) fun r h1 c1 k1 => G 228 17 [.ref 35, .int a0, .int a1, .int a2] (r.toList ++ []) h1 (cz + c1) (kz + k1) := by
  intro G
  rfl
theorem tv_4 {c m i : Int32}
    (H : (((I 35 24) ≤ i → Q (some (.int m)) (ev_hp I J R T)) ∧ (¬ ((I 35 24) ≤ i) → (∃ Q1 : pw_Q, pe N X 231 [.ref 35, .int i] (ev_hp I J R T) Q1 ∧ ∀ (r : Option Value) (h1 : ez_H), Q1 r h1 → pw N X 228 17 [.ref 35, .int c, .int m, .int i] (r.toList ++ []) h1 Q)))) : pw (N + 1) X 228 4 [.ref 35, .int c, .int m, .int i] [] (ev_hp I J R T) Q := by
  refine pw_seg (by decide) (fun _ _ => fl_r53) ?_
  refine pw_p (pw_if (by decide) (fun _ _ => fl_r54) (fun w1 => ?_) (fun w1 => ?_))
  · have h1 := H.1 w1
    exact pw_p (pw_ret (by decide) (fun _ _ => fl_r55) h1)
  · have h1 := H.2 w1
    obtain ⟨Q1, hc, hk⟩ := h1
    exact pw_p (pw_call (by decide) (fun _ _ => fl_r56) hc hk)
set_option maxRecDepth 100000 in
theorem fl_r57 {a0 : Int32} {a1 : Int32} {a2 : Int32} : ∀ G : ez_F, fx_up X 4 G 228 17 [.ref 35, .int a0, .int a1, .int a2] [] (ev_hp I J R T) cz kz = ev_C G 221 [.ref 35, .int a0] (ev_hp I J R T) fun r h1 c1 k1 => G 228 23 [.ref 35, .int a0, .int a1, .int a2] (r.toList ++ [.int a1]) h1 (cz + c1) (kz + k1) := by
  intro G
  rfl
theorem tv_17 {c m i : Int32}
    (H : (∃ Q1 : pw_Q, pe N X 221 [.ref 35, .int c] (ev_hp I J R T) Q1 ∧ ∀ (r : Option Value) (h1 : ez_H), Q1 r h1 → pw N X 228 23 [.ref 35, .int c, .int m, .int i] (r.toList ++ [.int m]) h1 Q)) : pw (N + 1) X 228 17 [.ref 35, .int c, .int m, .int i] [] (ev_hp I J R T) Q := by
  obtain ⟨Q1, hc, hk⟩ := H
  exact pw_call (by decide) (fun _ _ => fl_r57) hc hk
set_option maxRecDepth 100000 in
theorem fl_r58 {a0 : Int32} {a1 : Int32} {a2 : Int32} {a3 : Int32} {a4 : Int32} : ∀ G : ez_F, fx_up X 2 G 228 23 [.ref 35, .int a0, .int a1, .int a2] [.int a3, .int a4] (ev_hp I J R T) cz kz = bif decide (¬ a3 = (-1 : Int32)) then G 228 31 [.ref 35, .int a0, .int a1, .int a2] [.int a4] (ev_hp I J R T) cz kz else G 228 27 [.ref 35, .int a0, .int a1, .int a2] [.int a4] (ev_hp I J R T) cz kz := by
  intro G
  rfl
set_option maxRecDepth 100000 in
theorem fl_r59 {a0 : Int32} {a1 : Int32} {a2 : Int32} {a3 : Int32} : ∀ G : ez_F, fx_up X 5 G 228 31 [.ref 35, .int a0, .int a1, .int a2] [.int a3] (ev_hp I J R T) cz kz = G 228 4 [.ref 35, .int a0, .int (a3 + (1 : Int32)), .int (a2 + (1 : Int32))] [] (ev_hp I J R T) cz kz := by
  intro G
  rfl
set_option maxRecDepth 100000 in
theorem fl_r60 {a0 : Int32} {a1 : Int32} {a2 : Int32} {a3 : Int32} : ∀ G : ez_F, fx_up X 6 G 228 27 [.ref 35, .int a0, .int a1, .int a2] [.int a3] (ev_hp I J R T) cz kz = G 228 4 [.ref 35, .int a0, .int (a3 + (0 : Int32)), .int (a2 + (1 : Int32))] [] (ev_hp I J R T) cz kz := by
  intro G
  rfl
theorem tv_23 {v c m i : Int32}
    (H : ((¬ v = (-1 : Int32) → pw N X 228 4 [.ref 35, .int c, .int (m + (1 : Int32)), .int (i + (1 : Int32))] [] (ev_hp I J R T) Q) ∧ (¬ (¬ v = (-1 : Int32)) → pw N X 228 4 [.ref 35, .int c, .int (m + (0 : Int32)), .int (i + (1 : Int32))] [] (ev_hp I J R T) Q))) : pw (N + 1) X 228 23 [.ref 35, .int c, .int m, .int i] [.int v, .int m] (ev_hp I J R T) Q := by
  refine pw_if (by decide) (fun _ _ => fl_r58) (fun w1 => ?_) (fun w1 => ?_)
  · have h1 := H.1 w1
    refine pw_p (pw_seg (by decide) (fun _ _ => fl_r59) ?_)
    exact h1
  · have h1 := H.2 w1
    refine pw_p (pw_seg (by decide) (fun _ _ => fl_r60) ?_)
    exact h1
end
section
variable {N : Nat} {X : ez_X} {I : Nat → Nat → Int32} {J : Nat → Nat → Int64} {R : Nat → Nat} {T : List ez_C} {Q : pw_Q} {cz kz : Nat}
set_option maxRecDepth 100000 in
theorem fm_r0 {a0 : Int32} {a1 : Int32} : ∀ G : ez_F, fx_up X 4 G 193 0 [.ref 35, .int a0, .int a1] [] (ev_hp I J R T) cz kz = G 193 6 [.ref 35, .int a0, .int a1] [.int (0 : Int32), .int (0 : Int32), .ref 53] (ev_hp I J R T) cz kz := by
  intro G
  rfl
set_option maxRecDepth 100000 in
theorem fm_r1 {a0 : Int32} {a1 : Int32} : ∀ G : ez_F, fx_up X 4 G 193 7 [.ref 35, .int a0, .int a1] [] (ev_hp I J R T) cz kz = G 193 13 [.ref 35, .int a0, .int a1] [.int (0 : Int32), .int (1 : Int32), .ref 53] (ev_hp I J R T) cz kz := by
  intro G
  rfl
set_option maxRecDepth 100000 in
theorem fm_r2 {a0 : Int32} {a1 : Int32} : ∀ G : ez_F, fx_up X 4 G 193 14 [.ref 35, .int a0, .int a1] [] (ev_hp I J R T) cz kz = G 193 20 [.ref 35, .int a0, .int a1] [.int (0 : Int32), .int (2 : Int32), .ref 53] (ev_hp I J R T) cz kz := by
  intro G
  rfl
set_option maxRecDepth 100000 in
theorem fm_r3 {a0 : Int32} {a1 : Int32} : ∀ G : ez_F, fx_up X 2 G 193 21 [.ref 35, .int a0, .int a1] [] (ev_hp I J R T) cz kz = G 193 23 [.ref 35, .int a0, .int a1, .int (0 : Int32)] [] (ev_hp I J R T) cz kz := by
  intro G
  rfl
theorem gv_0 {a : Int32}
    (H : (ev_ix (0 : Int32) 4 → (ev_ix (1 : Int32) 4 → (ev_ix (2 : Int32) 4 → pw N X 193 23 [.ref 35, .int a, .int (-1 : Int32), .int (0 : Int32)] [] (ev_hp (ev_sI (ev_sI (ev_sI I 53 (upd (I 53) ((0 : Int32).toNatClampNeg) (0 : Int32))) 53 (upd (upd (I 53) ((0 : Int32).toNatClampNeg) (0 : Int32)) ((1 : Int32).toNatClampNeg) (0 : Int32))) 53 (upd (upd (upd (I 53) ((0 : Int32).toNatClampNeg) (0 : Int32)) ((1 : Int32).toNatClampNeg) (0 : Int32)) ((2 : Int32).toNatClampNeg) (0 : Int32))) J R T) Q)))) : pw (N + 1) X 193 0 [.ref 35, .int a, .int (-1 : Int32)] [] (ev_hp I J R T) Q := by
  refine pw_seg (by decide) (fun _ _ => fm_r0) ?_
  refine pw_p (pw_iast (by rfl) (cx_getI (show cx_Ds[53]? = some (0, 4, []) from rfl)) (cx_setI (show cx_Ds[53]? = some (0, 4, []) from rfl) _) (fun w1 => ?_))
  have h1 := H w1
  refine pw_p (pw_seg (by decide) (fun _ _ => fm_r1) ?_)
  refine pw_p (pw_iast (by rfl) (cx_getI (show cx_Ds[53]? = some (0, 4, []) from rfl)) (cx_setI (show cx_Ds[53]? = some (0, 4, []) from rfl) _) (fun w1 => ?_))
  have h1 := h1 w1
  refine pw_p (pw_seg (by decide) (fun _ _ => fm_r2) ?_)
  refine pw_p (pw_iast (by rfl) (cx_getI (show cx_Ds[53]? = some (0, 4, []) from rfl)) (cx_setI (show cx_Ds[53]? = some (0, 4, []) from rfl) _) (fun w1 => ?_))
  have h1 := h1 w1
  refine pw_p (pw_seg (by decide) (fun _ _ => fm_r3) ?_)
  exact h1
set_option maxRecDepth 100000 in
theorem fm_r4 {a0 : Int32} {a1 : Int32} {a2 : Int32} : ∀ G : ez_F, fx_up X 3 G 193 23 [.ref 35, .int a0, .int a1, .int a2] [] (ev_hp I J R T) cz kz = G 193 28 [.ref 35, .int a0, .int a1, .int a2] [.int (I 35 24), .int a2] (ev_hp I J R T) cz kz := by
  intro G
  rfl
set_option maxRecDepth 100000 in
theorem fm_r5 {a0 : Int32} {a1 : Int32} {a2 : Int32} {a3 : Int32} {a4 : Int32} : ∀ G : ez_F, fx_up X 1 G 193 28 [.ref 35, .int a0, .int a1, .int a2] [.int a3, .int a4] (ev_hp I J R T) cz kz = bif decide (a3 ≤ a4) then G 193 96 [.ref 35, .int a0, .int a1, .int a2] [] (ev_hp I J R T) cz kz else G 193 31 [.ref 35, .int a0, .int a1, .int a2] [] (ev_hp I J R T) cz kz := by
  intro G
  rfl
set_option maxRecDepth 100000 in
theorem fm_r6 {a0 : Int32} {a1 : Int32} {a2 : Int32} : ∀ G : ez_F, fx_up X 3 G 193 96 [.ref 35, .int a0, .int a1, .int a2] [] (ev_hp I J R T) cz kz = G 193 101 [.ref 35, .int a0, .int a1, .int a2] [.int (0 : Int32), .ref 53] (ev_hp I J R T) cz kz := by
  intro G
  rfl
set_option maxRecDepth 100000 in
theorem fm_r7 {a0 : Int32} {a1 : Int32} {a2 : Int32} {a3 : Int32} : ∀ G : ez_F, fx_up X 3 G 193 102 [.ref 35, .int a0, .int a1, .int a2] [.int a3] (ev_hp I J R T) cz kz = G 193 107 [.ref 35, .int a0, .int a1, .int a2] [.int (1 : Int32), .ref 53, .int a3] (ev_hp I J R T) cz kz := by
  intro G
  rfl
set_option maxRecDepth 100000 in
theorem fm_r8 {a0 : Int32} {a1 : Int32} {a2 : Int32} {a3 : Int32} {a4 : Int32} : ∀ G : ez_F, fx_up X 1 G 193 108 [.ref 35, .int a0, .int a1, .int a2] [.int a3, .int a4] (ev_hp I J R T) cz kz = bif decide (a4 ≤ a3) then G 193 120 [.ref 35, .int a0, .int a1, .int a2] [] (ev_hp I J R T) cz kz else G 193 111 [.ref 35, .int a0, .int a1, .int a2] [] (ev_hp I J R T) cz kz := by
  intro G
  rfl
set_option maxRecDepth 100000 in
theorem fm_r9 {a0 : Int32} {a1 : Int32} {a2 : Int32} : ∀ G : ez_F, fx_up X 3 G 193 120 [.ref 35, .int a0, .int a1, .int a2] [] (ev_hp I J R T) cz kz = G 193 125 [.ref 35, .int a0, .int a1, .int a2] [.int (1 : Int32), .ref 53] (ev_hp I J R T) cz kz := by
  intro G
  rfl
set_option maxRecDepth 100000 in
theorem fm_r10 {a0 : Int32} {a1 : Int32} {a2 : Int32} {a3 : Int32} : ∀ G : ez_F, fx_up X 4 G 193 126 [.ref 35, .int a0, .int a1, .int a2] [.int a3] (ev_hp I J R T) cz kz = G 193 132 [.ref 35, .int a0, .int a1, .int a3] [.int (2 : Int32), .ref 53] (ev_hp I J R T) cz kz := by
  intro G
  rfl
set_option maxRecDepth 100000 in
theorem fm_r11 {a0 : Int32} {a1 : Int32} {a2 : Int32} {a3 : Int32} : ∀ G : ez_F, fx_up X 2 G 193 133 [.ref 35, .int a0, .int a1, .int a2] [.int a3] (ev_hp I J R T) cz kz = bif decide (a3 ≤ a2) then G 193 146 [.ref 35, .int a0, .int a1, .int a2] [] (ev_hp I J R T) cz kz else G 193 137 [.ref 35, .int a0, .int a1, .int a2] [] (ev_hp I J R T) cz kz := by
  intro G
  rfl
set_option maxRecDepth 100000 in
theorem fm_r12 {a0 : Int32} {a1 : Int32} {a2 : Int32} : ∀ G : ez_F, fx_up X 2 G 193 146 [.ref 35, .int a0, .int a1, .int a2] [] (ev_hp I J R T) cz kz = some (some (.int a2), (ev_hp I J R T), cz, kz) := by
  intro G
  rfl
set_option maxRecDepth 100000 in
theorem fm_r13 {a0 : Int32} {a1 : Int32} {a2 : Int32} : ∀ G : ez_F, fx_up X 3 G 193 137 [.ref 35, .int a0, .int a1, .int a2] [] (ev_hp I J R T) cz kz = G 193 142 [.ref 35, .int a0, .int a1, .int a2] [.int (2 : Int32), .ref 53] (ev_hp I J R T) cz kz := by
  intro G
  rfl
set_option maxRecDepth 100000 in
theorem fm_r14 {a0 : Int32} {a1 : Int32} {a2 : Int32} {a3 : Int32} : ∀ G : ez_F, fx_up X 2 G 193 143 [.ref 35, .int a0, .int a1, .int a2] [.int a3] (ev_hp I J R T) cz kz = some (some (.int a3), (ev_hp I J R T), cz, kz) := by
  intro G
  rfl
set_option maxRecDepth 100000 in
theorem fm_r15 {a0 : Int32} {a1 : Int32} {a2 : Int32} : ∀ G : ez_F, fx_up X 3 G 193 111 [.ref 35, .int a0, .int a1, .int a2] [] (ev_hp I J R T) cz kz = G 193 116 [.ref 35, .int a0, .int a1, .int a2] [.int (0 : Int32), .ref 53] (ev_hp I J R T) cz kz := by
  intro G
  rfl
set_option maxRecDepth 100000 in
theorem fm_r16 {a0 : Int32} {a1 : Int32} {a2 : Int32} {a3 : Int32} : ∀ G : ez_F, fx_up X 5 G 193 117 [.ref 35, .int a0, .int a1, .int a2] [.int a3] (ev_hp I J R T) cz kz = G 193 132 [.ref 35, .int a0, .int a1, .int a3] [.int (2 : Int32), .ref 53] (ev_hp I J R T) cz kz := by
  intro G
  rfl
set_option maxRecDepth 100000 in
theorem fm_r17 {a0 : Int32} {a1 : Int32} {a2 : Int32} : ∀ G : ez_F, fx_up X 3 G 193 31 [.ref 35, .int a0, .int a1, .int a2] [] (ev_hp I J R T) cz kz = ev_C G 231 [.ref 35, .int a2] (ev_hp I J R T) fun r h1 c1 k1 => G 193 36 [.ref 35, .int a0, .int a1, .int a2] (r.toList ++ []) h1 (cz + c1) (kz + k1) := by
  intro G
  rfl
theorem gv_23 {a i : Int32}
    (H : (((I 35 24) ≤ i → (ev_ix (0 : Int32) 4 → (ev_ix (1 : Int32) 4 → (((I 53 (0 : Int32).toNatClampNeg) ≤ (I 53 (1 : Int32).toNatClampNeg) → (ev_ix (1 : Int32) 4 → (ev_ix (2 : Int32) 4 → (((I 53 (2 : Int32).toNatClampNeg) ≤ (I 53 (1 : Int32).toNatClampNeg) → Q (some (.int (I 53 (1 : Int32).toNatClampNeg))) (ev_hp I J R T)) ∧ (¬ ((I 53 (2 : Int32).toNatClampNeg) ≤ (I 53 (1 : Int32).toNatClampNeg)) → (ev_ix (2 : Int32) 4 → Q (some (.int (I 53 (2 : Int32).toNatClampNeg))) (ev_hp I J R T))))))) ∧ (¬ ((I 53 (0 : Int32).toNatClampNeg) ≤ (I 53 (1 : Int32).toNatClampNeg)) → (ev_ix (0 : Int32) 4 → (ev_ix (2 : Int32) 4 → (((I 53 (2 : Int32).toNatClampNeg) ≤ (I 53 (0 : Int32).toNatClampNeg) → Q (some (.int (I 53 (0 : Int32).toNatClampNeg))) (ev_hp I J R T)) ∧ (¬ ((I 53 (2 : Int32).toNatClampNeg) ≤ (I 53 (0 : Int32).toNatClampNeg)) → (ev_ix (2 : Int32) 4 → Q (some (.int (I 53 (2 : Int32).toNatClampNeg))) (ev_hp I J R T))))))))))) ∧ (¬ ((I 35 24) ≤ i) → (∃ Q1 : pw_Q, pe N X 231 [.ref 35, .int i] (ev_hp I J R T) Q1 ∧ ∀ (r : Option Value) (h1 : ez_H), Q1 r h1 → pw N X 193 36 [.ref 35, .int a, .int (-1 : Int32), .int i] (r.toList ++ []) h1 Q)))) : pw (N + 1) X 193 23 [.ref 35, .int a, .int (-1 : Int32), .int i] [] (ev_hp I J R T) Q := by
  refine pw_seg (by decide) (fun _ _ => fm_r4) ?_
  refine pw_p (pw_if (by decide) (fun _ _ => fm_r5) (fun w1 => ?_) (fun w1 => ?_))
  · have h1 := H.1 w1
    refine pw_p (pw_seg (by decide) (fun _ _ => fm_r6) ?_)
    refine pw_p (pw_iald (by rfl) (cx_getI (show cx_Ds[53]? = some (0, 4, []) from rfl)) (fun w2 => ?_))
    have h2 := h1 w2
    refine pw_p (pw_seg (by decide) (fun _ _ => fm_r7) ?_)
    refine pw_p (pw_iald (by rfl) (cx_getI (show cx_Ds[53]? = some (0, 4, []) from rfl)) (fun w2 => ?_))
    have h2 := h2 w2
    refine pw_p (pw_if (by decide) (fun _ _ => fm_r8) (fun w2 => ?_) (fun w2 => ?_))
    · have h2 := h2.1 w2
      refine pw_p (pw_seg (by decide) (fun _ _ => fm_r9) ?_)
      refine pw_p (pw_iald (by rfl) (cx_getI (show cx_Ds[53]? = some (0, 4, []) from rfl)) (fun w3 => ?_))
      have h3 := h2 w3
      refine pw_p (pw_seg (by decide) (fun _ _ => fm_r10) ?_)
      refine pw_p (pw_iald (by rfl) (cx_getI (show cx_Ds[53]? = some (0, 4, []) from rfl)) (fun w3 => ?_))
      have h3 := h3 w3
      refine pw_p (pw_if (by decide) (fun _ _ => fm_r11) (fun w3 => ?_) (fun w3 => ?_))
      · have h3 := h3.1 w3
        exact pw_p (pw_ret (by decide) (fun _ _ => fm_r12) h3)
      · have h3 := h3.2 w3
        refine pw_p (pw_seg (by decide) (fun _ _ => fm_r13) ?_)
        refine pw_p (pw_iald (by rfl) (cx_getI (show cx_Ds[53]? = some (0, 4, []) from rfl)) (fun w4 => ?_))
        have h4 := h3 w4
        exact pw_p (pw_ret (by decide) (fun _ _ => fm_r14) h4)
    · have h2 := h2.2 w2
      refine pw_p (pw_seg (by decide) (fun _ _ => fm_r15) ?_)
      refine pw_p (pw_iald (by rfl) (cx_getI (show cx_Ds[53]? = some (0, 4, []) from rfl)) (fun w3 => ?_))
      have h3 := h2 w3
      refine pw_p (pw_seg (by decide) (fun _ _ => fm_r16) ?_)
      refine pw_p (pw_iald (by rfl) (cx_getI (show cx_Ds[53]? = some (0, 4, []) from rfl)) (fun w3 => ?_))
      have h3 := h3 w3
      refine pw_p (pw_if (by decide) (fun _ _ => fm_r11) (fun w3 => ?_) (fun w3 => ?_))
      · have h3 := h3.1 w3
        exact pw_p (pw_ret (by decide) (fun _ _ => fm_r12) h3)
      · have h3 := h3.2 w3
        refine pw_p (pw_seg (by decide) (fun _ _ => fm_r13) ?_)
        refine pw_p (pw_iald (by rfl) (cx_getI (show cx_Ds[53]? = some (0, 4, []) from rfl)) (fun w4 => ?_))
        have h4 := h3 w4
        exact pw_p (pw_ret (by decide) (fun _ _ => fm_r14) h4)
  · have h1 := H.2 w1
    obtain ⟨Q1, hc, hk⟩ := h1
    exact pw_p (pw_call (by decide) (fun _ _ => fm_r17) hc hk)
set_option maxRecDepth 100000 in
theorem fm_r18 {a0 : Int32} {a1 : Int32} {a2 : Int32} : ∀ G : ez_F, fx_up X 3 G 193 36 [.ref 35, .int a0, .int a1, .int a2] [] (ev_hp I J R T) cz kz = ev_C G 176 [.ref 35, .int a0] (ev_hp I J R T) fun r h1 c1 k1 => G 193 41 [.ref 35, .int a0, .int a1, .int a2] (r.toList ++ []) h1 (cz + c1) (kz + k1) := by
  intro G
  rfl
theorem gv_36 {a i : Int32}
    (H : (∃ Q1 : pw_Q, pe N X 176 [.ref 35, .int a] (ev_hp I J R T) Q1 ∧ ∀ (r : Option Value) (h1 : ez_H), Q1 r h1 → pw N X 193 41 [.ref 35, .int a, .int (-1 : Int32), .int i] (r.toList ++ []) h1 Q)) : pw (N + 1) X 193 36 [.ref 35, .int a, .int (-1 : Int32), .int i] [] (ev_hp I J R T) Q := by
  obtain ⟨Q1, hc, hk⟩ := H
  exact pw_call (by decide) (fun _ _ => fm_r18) hc hk
set_option maxRecDepth 100000 in
theorem fm_r19 {a0 : Int32} {a1 : Int32} {a2 : Int32} {a3 : Int32} : ∀ G : ez_F, fx_up X 4 G 193 41 [.ref 35, .int a0, .int a1, .int a2] [.int a3] (ev_hp I J R T) cz kz = bif decide (¬ a1 = (-1 : Int32)) then G 193 53 [.ref 35, .int a0, .int a1, .int a2, .int a3] [] (ev_hp I J R T) cz kz else G 193 48 [.ref 35, .int a0, .int a1, .int a2, .int a3] [] (ev_hp I J R T) cz kz := by
  intro G
  rfl
set_option maxRecDepth 100000 in
theorem fm_r20 {a0 : Int32} {a1 : Int32} {a2 : Int32} {a3 : Int32} : ∀ G : ez_F, fx_up X 7 G 193 48 [.ref 35, .int a0, .int a1, .int a2, .int a3] [] (ev_hp I J R T) cz kz = G 193 86 [.ref 35, .int a0, .int a1, .int a2, .int a3] [.int a3, .ref 53, .int a3, .ref 53] (ev_hp I J R T) cz kz := by
  intro G
  rfl
set_option maxRecDepth 100000 in
theorem fm_r21 {a0 : Int32} {a1 : Int32} {a2 : Int32} {a3 : Int32} {a4 : Int32} {a5 : Int32} : ∀ G : ez_F, fx_up X 2 G 193 87 [.ref 35, .int a0, .int a1, .int a2, .int a3] [.int a4, .int a5, .ref 53] (ev_hp I J R T) cz kz = G 193 89 [.ref 35, .int a0, .int a1, .int a2, .int a3] [.int (a4 + (1 : Int32)), .int a5, .ref 53] (ev_hp I J R T) cz kz := by
  intro G
  rfl
set_option maxRecDepth 100000 in
theorem fm_r22 {a0 : Int32} {a1 : Int32} {a2 : Int32} {a3 : Int32} : ∀ G : ez_F, fx_up X 2 G 193 90 [.ref 35, .int a0, .int a1, .int a2, .int a3] [] (ev_hp I J R T) cz kz = G 193 23 [.ref 35, .int a0, .int a1, .int (a2 + (1 : Int32)), .int a3] [] (ev_hp I J R T) cz kz := by
  intro G
  rfl
theorem gv_41 {v a i : Int32}
    (H : (ev_ix v 4 → (ev_ix v 4 → pw N X 193 23 [.ref 35, .int a, .int (-1 : Int32), .int (i + (1 : Int32))] [] (ev_hp (ev_sI I 53 (upd (I 53) v.toNatClampNeg ((I 53 v.toNatClampNeg) + (1 : Int32)))) J R T) Q))) : pw (N + 1) X 193 41 [.ref 35, .int a, .int (-1 : Int32), .int i] [.int v] (ev_hp I J R T) Q := by
  refine pw_if (by decide) (fun _ _ => fm_r19) (fun w1 => ?_) (fun w1 => ?_)
  · exact absurd w1 (by decide)
  refine pw_p (pw_seg (by decide) (fun _ _ => fm_r20) ?_)
  refine pw_p (pw_iald (by rfl) (cx_getI (show cx_Ds[53]? = some (0, 4, []) from rfl)) (fun w1 => ?_))
  have h1 := H w1
  refine pw_p (pw_seg (by decide) (fun _ _ => fm_r21) ?_)
  refine pw_p (pw_iast (by rfl) (cx_getI (show cx_Ds[53]? = some (0, 4, []) from rfl)) (cx_setI (show cx_Ds[53]? = some (0, 4, []) from rfl) _) (fun w1 => ?_))
  have h1 := h1 w1
  refine pw_p (pw_seg (by decide) (fun _ _ => fm_r22) ?_)
  refine pw_cutl (by rfl) ?_
  exact h1
set_option maxRecDepth 100000 in
theorem fm_r23  : ∀ G : ez_F, fx_up X 2 G 207 0 [.ref 35] [] (ev_hp I J R T) cz kz = ev_C G 188 [.ref 35] (ev_hp I J R T) fun r h1 c1 k1 => G 207 4 [.ref 35] (r.toList ++ []) h1 (cz + c1) (kz + k1) := by
  intro G
  rfl
theorem ml_0 
    (H : (∃ Q1 : pw_Q, pe N X 188 [.ref 35] (ev_hp I J R T) Q1 ∧ ∀ (r : Option Value) (h1 : ez_H), Q1 r h1 → pw N X 207 4 [.ref 35] (r.toList ++ []) h1 Q)) : pw (N + 1) X 207 0 [.ref 35] [] (ev_hp I J R T) Q := by
  obtain ⟨Q1, hc, hk⟩ := H
  exact pw_call (by decide) (fun _ _ => fm_r23) hc hk
set_option maxRecDepth 100000 in
theorem fm_r24 {a0 : Int32} : ∀ G : ez_F, fx_up X 1 G 207 4 [.ref 35] [.int a0] (ev_hp I J R T) cz kz = bif decide (a0 = (0 : Int32)) then G 207 14 [.ref 35] [] (ev_hp I J R T) cz kz else G 207 7 [.ref 35] [] (ev_hp I J R T) cz kz := by
  intro G
  rfl
set_option maxRecDepth 100000 in
theorem fm_r25  : ∀ G : ez_F, fx_up X 2 G 207 14 [.ref 35] [] (ev_hp I J R T) cz kz = some (some (.int (-6 : Int32)), (ev_hp I J R T), cz, kz) := by
  intro G
  rfl
set_option maxRecDepth 100000 in
theorem fm_r26  : ∀ G : ez_F, fx_up X 2 G 207 7 [.ref 35] [] (ev_hp I J R T) cz kz = G 207 11 [.ref 35] [.int (I 35 24)] (ev_hp I J R T) cz kz := by
  intro G
  rfl
set_option maxRecDepth 100000 in
theorem fm_r27 {a0 : Int32} : ∀ G : ez_F, fx_up X 2 G 207 11 [.ref 35] [.int a0] (ev_hp I J R T) cz kz = some (some (.int a0), (ev_hp I J R T), cz, kz) := by
  intro G
  rfl
theorem ml_4 {v : Int32}
    (H : ((v = (0 : Int32) → Q (some (.int (-6 : Int32))) (ev_hp I J R T)) ∧ (¬ (v = (0 : Int32)) → Q (some (.int (I 35 24))) (ev_hp I J R T)))) : pw (N + 1) X 207 4 [.ref 35] [.int v] (ev_hp I J R T) Q := by
  refine pw_if (by decide) (fun _ _ => fm_r24) (fun w1 => ?_) (fun w1 => ?_)
  · have h1 := H.1 w1
    exact pw_p (pw_ret (by decide) (fun _ _ => fm_r25) h1)
  · have h1 := H.2 w1
    refine pw_p (pw_seg (by decide) (fun _ _ => fm_r26) ?_)
    exact pw_p (pw_ret (by decide) (fun _ _ => fm_r27) h1)
set_option maxRecDepth 100000 in
theorem fm_r28 {a0 : Int32} : ∀ G : ez_F, fx_up X 2 G 232 0 [.ref 35, .int a0] [] (ev_hp I J R T) cz kz = bif decide ((0 : Int32) ≤ a0) then G 232 7 [.ref 35, .int a0] [] (ev_hp I J R T) cz kz else G 232 4 [.ref 35, .int a0] [] (ev_hp I J R T) cz kz := by
  intro G
  rfl
set_option maxRecDepth 100000 in
theorem fm_r29 {a0 : Int32} : ∀ G : ez_F, fx_up X 2 G 232 7 [.ref 35, .int a0] [] (ev_hp I J R T) cz kz = ev_C G 188 [.ref 35] (ev_hp I J R T) fun r h1 c1 k1 => G 232 11 [.ref 35, .int a0] (r.toList ++ []) h1 (cz + c1) (kz + k1) := by
  intro G
  rfl
set_option maxRecDepth 100000 in
theorem fm_r30 {a0 : Int32} : ∀ G : ez_F, fx_up X 2 G 232 4 [.ref 35, .int a0] [] (ev_hp I J R T) cz kz = some (some (.int (-3 : Int32)), (ev_hp I J R T), cz, kz) := by
  intro G
  rfl
theorem mh_0 {x : Int32}
    (H : (((0 : Int32) ≤ x → (∃ Q1 : pw_Q, pe N X 188 [.ref 35] (ev_hp I J R T) Q1 ∧ ∀ (r : Option Value) (h1 : ez_H), Q1 r h1 → pw N X 232 11 [.ref 35, .int x] (r.toList ++ []) h1 Q)) ∧ (¬ ((0 : Int32) ≤ x) → Q (some (.int (-3 : Int32))) (ev_hp I J R T)))) : pw (N + 1) X 232 0 [.ref 35, .int x] [] (ev_hp I J R T) Q := by
  refine pw_if (by decide) (fun _ _ => fm_r28) (fun w1 => ?_) (fun w1 => ?_)
  · have h1 := H.1 w1
    obtain ⟨Q1, hc, hk⟩ := h1
    exact pw_p (pw_call (by decide) (fun _ _ => fm_r29) hc hk)
  · have h1 := H.2 w1
    exact pw_p (pw_ret (by decide) (fun _ _ => fm_r30) h1)
set_option maxRecDepth 100000 in
theorem fm_r31 {a0 : Int32} {a1 : Int32} : ∀ G : ez_F, fx_up X 1 G 232 11 [.ref 35, .int a0] [.int a1] (ev_hp I J R T) cz kz = bif decide (¬ a1 = (0 : Int32)) then G 232 17 [.ref 35, .int a0] [] (ev_hp I J R T) cz kz else G 232 14 [.ref 35, .int a0] [] (ev_hp I J R T) cz kz := by
  intro G
  rfl
set_option maxRecDepth 100000 in
theorem fm_r32 {a0 : Int32} : ∀ G : ez_F, fx_up X 3 G 232 17 [.ref 35, .int a0] [] (ev_hp I J R T) cz kz = G 232 22 [.ref 35, .int a0] [.int (I 35 24), .int a0] (ev_hp I J R T) cz kz := by
  intro G
  rfl
set_option maxRecDepth 100000 in
theorem fm_r33 {a0 : Int32} {a1 : Int32} {a2 : Int32} : ∀ G : ez_F, fx_up X 1 G 232 22 [.ref 35, .int a0] [.int a1, .int a2] (ev_hp I J R T) cz kz = bif decide (a1 ≤ a2) then G 232 34 [.ref 35, .int a0] [] (ev_hp I J R T) cz kz else G 232 25 [.ref 35, .int a0] [] (ev_hp I J R T) cz kz := by
  intro G
  rfl
set_option maxRecDepth 100000 in
theorem fm_r34 {a0 : Int32} : ∀ G : ez_F, fx_up X 2 G 232 34 [.ref 35, .int a0] [] (ev_hp I J R T) cz kz = some (some (.int (-1 : Int32)), (ev_hp I J R T), cz, kz) := by
  intro G
  rfl
set_option maxRecDepth 100000 in
theorem fm_r35 {a0 : Int32} : ∀ G : ez_F, fx_up X 3 G 232 25 [.ref 35, .int a0] [] (ev_hp I J R T) cz kz = G 232 30 [.ref 35, .int a0] [.int a0, .ref 49] (ev_hp I J R T) cz kz := by
  intro G
  rfl
set_option maxRecDepth 100000 in
theorem fm_r36 {a0 : Int32} {a1 : Int32} : ∀ G : ez_F, fx_up X 2 G 232 31 [.ref 35, .int a0] [.int a1] (ev_hp I J R T) cz kz = some (some (.int a1), (ev_hp I J R T), cz, kz) := by
  intro G
  rfl
set_option maxRecDepth 100000 in
theorem fm_r37 {a0 : Int32} : ∀ G : ez_F, fx_up X 2 G 232 14 [.ref 35, .int a0] [] (ev_hp I J R T) cz kz = some (some (.int (-6 : Int32)), (ev_hp I J R T), cz, kz) := by
  intro G
  rfl
theorem mh_11 {v x : Int32}
    (H : ((¬ v = (0 : Int32) → (((I 35 24) ≤ x → Q (some (.int (-1 : Int32))) (ev_hp I J R T)) ∧ (¬ ((I 35 24) ≤ x) → (ev_ix x 10001 → Q (some (.int (I 49 x.toNatClampNeg))) (ev_hp I J R T))))) ∧ (¬ (¬ v = (0 : Int32)) → Q (some (.int (-6 : Int32))) (ev_hp I J R T)))) : pw (N + 1) X 232 11 [.ref 35, .int x] [.int v] (ev_hp I J R T) Q := by
  refine pw_if (by decide) (fun _ _ => fm_r31) (fun w1 => ?_) (fun w1 => ?_)
  · have h1 := H.1 w1
    refine pw_p (pw_seg (by decide) (fun _ _ => fm_r32) ?_)
    refine pw_p (pw_if (by decide) (fun _ _ => fm_r33) (fun w2 => ?_) (fun w2 => ?_))
    · have h2 := h1.1 w2
      exact pw_p (pw_ret (by decide) (fun _ _ => fm_r34) h2)
    · have h2 := h1.2 w2
      refine pw_p (pw_seg (by decide) (fun _ _ => fm_r35) ?_)
      refine pw_p (pw_iald (by rfl) (cx_getI (show cx_Ds[49]? = some (0, 10001, []) from rfl)) (fun w3 => ?_))
      have h3 := h2 w3
      exact pw_p (pw_ret (by decide) (fun _ _ => fm_r36) h3)
  · have h1 := H.2 w1
    exact pw_p (pw_ret (by decide) (fun _ _ => fm_r37) h1)
set_option maxRecDepth 100000 in
theorem fm_r38 {a0 : Int32} : ∀ G : ez_F, fx_up X 3 G 227 0 [.ref 35, .int a0] [] (ev_hp I J R T) cz kz = ev_C G 200 [.ref 35, .int a0] (ev_hp I J R T) fun r h1 c1 k1 => G 227 5 [.ref 35, .int a0] (r.toList ++ []) h1 (cz + c1) (kz + k1) := by
  intro G
  rfl
set_option maxRecDepth 100000 in
theorem fm_r39 {a0 : Int32} {a1 : Int32} : ∀ G : ez_F, fx_up X 1 G 227 5 [.ref 35, .int a0] [.int a1] (ev_hp I J R T) cz kz = bif decide (¬ a1 = (0 : Int32)) then G 227 11 [.ref 35, .int a0] [] (ev_hp I J R T) cz kz else G 227 8 [.ref 35, .int a0] [] (ev_hp I J R T) cz kz := by
  intro G
  rfl
set_option maxRecDepth 100000 in
theorem fm_r40 {a0 : Int32} : ∀ G : ez_F, fx_up X 2 G 227 11 [.ref 35, .int a0] [] (ev_hp I J R T) cz kz = ev_C G 188 [.ref 35] (ev_hp I J R T) fun r h1 c1 k1 => G 227 15 [.ref 35, .int a0] (r.toList ++ []) h1 (cz + c1) (kz + k1) := by
  intro G
  rfl
set_option maxRecDepth 100000 in
theorem fm_r41 {a0 : Int32} : ∀ G : ez_F, fx_up X 2 G 227 8 [.ref 35, .int a0] [] (ev_hp I J R T) cz kz = some (some (.int (-2 : Int32)), (ev_hp I J R T), cz, kz) := by
  intro G
  rfl
theorem mz_0 {x : Int32}
    (H : ((¬ (ev_il (x.toInt64) 0 (((((I 35 0) * (I 35 1))) - (1 : Int32)).toInt64)) = (0 : Int32) → (∃ Q1 : pw_Q, pe N X 188 [.ref 35] (ev_hp I J R T) Q1 ∧ ∀ (r : Option Value) (h1 : ez_H), Q1 r h1 → pw N X 227 15 [.ref 35, .int x] (r.toList ++ []) h1 Q)) ∧ (¬ (¬ (ev_il (x.toInt64) 0 (((((I 35 0) * (I 35 1))) - (1 : Int32)).toInt64)) = (0 : Int32)) → Q (some (.int (-2 : Int32))) (ev_hp I J R T)))) : pw (N + 1) X 227 0 [.ref 35, .int x] [] (ev_hp I J R T) Q := by
  refine pw_callp (by decide) (fun _ _ => fm_r38) (pe_is (em_isCell _ _ _ _ _ _)) ?_
  refine pw_p (pw_if (by decide) (fun _ _ => fm_r39) (fun w1 => ?_) (fun w1 => ?_))
  · have h1 := H.1 w1
    obtain ⟨Q1, hc, hk⟩ := h1
    exact pw_p (pw_call (by decide) (fun _ _ => fm_r40) hc hk)
  · have h1 := H.2 w1
    exact pw_p (pw_ret (by decide) (fun _ _ => fm_r41) h1)
set_option maxRecDepth 100000 in
theorem fm_r42 {a0 : Int32} {a1 : Int32} : ∀ G : ez_F, fx_up X 1 G 227 15 [.ref 35, .int a0] [.int a1] (ev_hp I J R T) cz kz = bif decide (a1 = (0 : Int32)) then G 227 26 [.ref 35, .int a0] [] (ev_hp I J R T) cz kz else G 227 18 [.ref 35, .int a0] [] (ev_hp I J R T) cz kz := by
  intro G
  rfl
set_option maxRecDepth 100000 in
theorem fm_r43 {a0 : Int32} : ∀ G : ez_F, fx_up X 2 G 227 26 [.ref 35, .int a0] [] (ev_hp I J R T) cz kz = some (some (.int (-6 : Int32)), (ev_hp I J R T), cz, kz) := by
  intro G
  rfl
set_option maxRecDepth 100000 in
theorem fm_r44 {a0 : Int32} : ∀ G : ez_F, fx_up X 3 G 227 18 [.ref 35, .int a0] [] (ev_hp I J R T) cz kz = ev_C G 228 [.ref 35, .int a0] (ev_hp I J R T) fun r h1 c1 k1 => G 227 23 [.ref 35, .int a0] (r.toList ++ []) h1 (cz + c1) (kz + k1) := by
  intro G
  rfl
theorem mz_15 {v x : Int32}
    (H : ((v = (0 : Int32) → Q (some (.int (-6 : Int32))) (ev_hp I J R T)) ∧ (¬ (v = (0 : Int32)) → (∃ Q1 : pw_Q, pe N X 228 [.ref 35, .int x] (ev_hp I J R T) Q1 ∧ ∀ (r : Option Value) (h1 : ez_H), Q1 r h1 → pw N X 227 23 [.ref 35, .int x] (r.toList ++ []) h1 Q)))) : pw (N + 1) X 227 15 [.ref 35, .int x] [.int v] (ev_hp I J R T) Q := by
  refine pw_if (by decide) (fun _ _ => fm_r42) (fun w1 => ?_) (fun w1 => ?_)
  · have h1 := H.1 w1
    exact pw_p (pw_ret (by decide) (fun _ _ => fm_r43) h1)
  · have h1 := H.2 w1
    obtain ⟨Q1, hc, hk⟩ := h1
    exact pw_p (pw_call (by decide) (fun _ _ => fm_r44) hc hk)
set_option maxRecDepth 100000 in
theorem fm_r45 {a0 : Int32} {a1 : Int32} : ∀ G : ez_F, fx_up X 2 G 227 23 [.ref 35, .int a0] [.int a1] (ev_hp I J R T) cz kz = some (some (.int a1), (ev_hp I J R T), cz, kz) := by
  intro G
  rfl
theorem mz_23 {v x : Int32}
    (H : Q (some (.int v)) (ev_hp I J R T)) : pw (N + 1) X 227 23 [.ref 35, .int x] [.int v] (ev_hp I J R T) Q := by
  exact pw_ret (by decide) (fun _ _ => fm_r45) H
set_option maxRecDepth 100000 in
theorem fm_r46 {a0 : Int32} : ∀ G : ez_F, fx_up X 5 G 225 0 [.ref 35, .int a0] [] (ev_hp I J R T) cz kz = ev_C G 198 [.long a0.toInt64, .long (0 : Int64), .long (1 : Int64)] (ev_hp I J R T) fun r h1 c1 k1 => G 225 7 [.ref 35, .int a0] (r.toList ++ []) h1 (cz + c1) (kz + k1) := by
  intro G
  rfl
set_option maxRecDepth 100000 in
theorem fm_r47 {a0 : Int32} {a1 : Int32} : ∀ G : ez_F, fx_up X 1 G 225 7 [.ref 35, .int a0] [.int a1] (ev_hp I J R T) cz kz = bif decide (¬ a1 = (0 : Int32)) then G 225 14 [.ref 35, .int a0] [] (ev_hp I J R T) cz kz else G 225 10 [.ref 35, .int a0] [] (ev_hp I J R T) cz kz := by
  intro G
  rfl
set_option maxRecDepth 100000 in
theorem fm_r48 {a0 : Int32} : ∀ G : ez_F, fx_up X 2 G 225 14 [.ref 35, .int a0] [] (ev_hp I J R T) cz kz = ev_C G 188 [.ref 35] (ev_hp I J R T) fun r h1 c1 k1 => G 225 18 [.ref 35, .int a0] (r.toList ++ []) h1 (cz + c1) (kz + k1) := by
  intro G
  rfl
set_option maxRecDepth 100000 in
theorem fm_r49 {a0 : Int32} : ∀ G : ez_F, fx_up X 2 G 225 10 [.ref 35, .int a0] [] (ev_hp I J R T) cz kz = some (some (.long (18446744073709551613 : Int64)), (ev_hp I J R T), cz, kz) := by
  intro G
  rfl
theorem mq_0 {x : Int32}
    (H : ((¬ (ev_il x.toInt64 (0 : Int64) (1 : Int64)) = (0 : Int32) → (∃ Q1 : pw_Q, pe N X 188 [.ref 35] (ev_hp I J R T) Q1 ∧ ∀ (r : Option Value) (h1 : ez_H), Q1 r h1 → pw N X 225 18 [.ref 35, .int x] (r.toList ++ []) h1 Q)) ∧ (¬ (¬ (ev_il x.toInt64 (0 : Int64) (1 : Int64)) = (0 : Int32)) → Q (some (.long (18446744073709551613 : Int64))) (ev_hp I J R T)))) : pw (N + 1) X 225 0 [.ref 35, .int x] [] (ev_hp I J R T) Q := by
  refine pw_callp (by decide) (fun _ _ => fm_r46) (pe_is (ec_in _ _ _ _ _)) ?_
  refine pw_p (pw_if (by decide) (fun _ _ => fm_r47) (fun w1 => ?_) (fun w1 => ?_))
  · have h1 := H.1 w1
    obtain ⟨Q1, hc, hk⟩ := h1
    exact pw_p (pw_call (by decide) (fun _ _ => fm_r48) hc hk)
  · have h1 := H.2 w1
    exact pw_p (pw_ret (by decide) (fun _ _ => fm_r49) h1)
set_option maxRecDepth 100000 in
theorem fm_r50 {a0 : Int32} {a1 : Int32} : ∀ G : ez_F, fx_up X 1 G 225 18 [.ref 35, .int a0] [.int a1] (ev_hp I J R T) cz kz = bif decide (¬ a1 = (0 : Int32)) then G 225 25 [.ref 35, .int a0] [] (ev_hp I J R T) cz kz else G 225 21 [.ref 35, .int a0] [] (ev_hp I J R T) cz kz := by
  intro G
  rfl
set_option maxRecDepth 100000 in
theorem fm_r51 {a0 : Int32} : ∀ G : ez_F, fx_up X 4 G 225 25 [.ref 35, .int a0] [] (ev_hp I J R T) cz kz = G 225 30 [.ref 35, .int a0, .long (0 : Int64), ez_fill, .int (0 : Int32)] [] (ev_hp I J R T) cz kz := by
  intro G
  rfl
set_option maxRecDepth 100000 in
theorem fm_r52 {a0 : Int32} : ∀ G : ez_F, fx_up X 2 G 225 21 [.ref 35, .int a0] [] (ev_hp I J R T) cz kz = some (some (.long (18446744073709551610 : Int64)), (ev_hp I J R T), cz, kz) := by
  intro G
  rfl
theorem mq_18 {v x : Int32}
    (H : ((¬ v = (0 : Int32) → pw N X 225 30 [.ref 35, .int x, .long (0 : Int64), ez_fill, .int (0 : Int32)] [] (ev_hp I J R T) Q) ∧ (¬ (¬ v = (0 : Int32)) → Q (some (.long (18446744073709551610 : Int64))) (ev_hp I J R T)))) : pw (N + 1) X 225 18 [.ref 35, .int x] [.int v] (ev_hp I J R T) Q := by
  refine pw_if (by decide) (fun _ _ => fm_r50) (fun w1 => ?_) (fun w1 => ?_)
  · have h1 := H.1 w1
    refine pw_p (pw_seg (by decide) (fun _ _ => fm_r51) ?_)
    exact h1
  · have h1 := H.2 w1
    exact pw_p (pw_ret (by decide) (fun _ _ => fm_r52) h1)
set_option maxRecDepth 100000 in
theorem fm_r53 {a0 : Int32} {a1 : Int64} {a2 : Int32} : ∀ G : ez_F, fx_up X 3 G 225 30 [.ref 35, .int a0, .long a1, ez_fill, .int a2] [] (ev_hp I J R T) cz kz = ev_C G 179 [.ref 35] (ev_hp I J R T) fun r h1 c1 k1 => G 225 36 [.ref 35, .int a0, .long a1, ez_fill, .int a2] (r.toList ++ [.int a2]) h1 (cz + c1) (kz + k1) := by
  intro G
  rfl
set_option maxRecDepth 100000 in
theorem fm_r54 {a0 : Int32} {a1 : Int64} {a2 : Int32} {a3 : Int32} {a4 : Int32} : ∀ G : ez_F, fx_up X 1 G 225 36 [.ref 35, .int a0, .long a1, ez_fill, .int a2] [.int a3, .int a4] (ev_hp I J R T) cz kz = bif decide (a3 ≤ a4) then G 225 77 [.ref 35, .int a0, .long a1, ez_fill, .int a2] [] (ev_hp I J R T) cz kz else G 225 39 [.ref 35, .int a0, .long a1, ez_fill, .int a2] [] (ev_hp I J R T) cz kz := by
  intro G
  rfl
set_option maxRecDepth 100000 in
theorem fm_r55 {a0 : Int32} {a1 : Int64} {a2 : Int32} : ∀ G : ez_F, fx_up X 2 G 225 77 [.ref 35, .int a0, .long a1, ez_fill, .int a2] [] (ev_hp I J R T) cz kz = some (some (.long a1), (ev_hp I J R T), cz, kz) := by
  intro G
  rfl
set_option maxRecDepth 100000 in
theorem fm_r56 {a0 : Int32} {a1 : Int64} {a2 : Int32} : ∀ G : ez_F, fx_up X 4 G 225 39 [.ref 35, .int a0, .long a1, ez_fill, .int a2] [] (ev_hp I J R T) cz kz = ev_C G 228 [.ref 35, .int a2] (ev_hp I J R T) fun r h1 c1 k1 => G 225 46 [.ref 35, .int a0, .long a1, ez_fill, .int a2] (r.toList ++ [.long a1]) h1 (cz + c1) (kz + k1) := by
  intro G
  rfl
theorem mq_30 {x c : Int32} {z : Int64}
    (H : ((((I 35 0) * (I 35 1)) ≤ c → Q (some (.long z)) (ev_hp I J R T)) ∧ (¬ (((I 35 0) * (I 35 1)) ≤ c) → (∃ Q1 : pw_Q, pe N X 228 [.ref 35, .int c] (ev_hp I J R T) Q1 ∧ ∀ (r : Option Value) (h1 : ez_H), Q1 r h1 → pw N X 225 46 [.ref 35, .int x, .long z, ez_fill, .int c] (r.toList ++ [.long z]) h1 Q)))) : pw (N + 1) X 225 30 [.ref 35, .int x, .long z, ez_fill, .int c] [] (ev_hp I J R T) Q := by
  refine pw_callp (by decide) (fun _ _ => fm_r53) (pe_mcount) ?_
  refine pw_p (pw_if (by decide) (fun _ _ => fm_r54) (fun w1 => ?_) (fun w1 => ?_))
  · have h1 := H.1 w1
    exact pw_p (pw_ret (by decide) (fun _ _ => fm_r55) h1)
  · have h1 := H.2 w1
    obtain ⟨Q1, hc, hk⟩ := h1
    exact pw_p (pw_call (by decide) (fun _ _ => fm_r56) hc hk)
set_option maxRecDepth 100000 in
theorem fm_r57 {a0 : Int32} {a1 : Int64} {a2 : Int32} {a3 : Int32} {a4 : Int64} : ∀ G : ez_F, fx_up X 2 G 225 46 [.ref 35, .int a0, .long a1, ez_fill, .int a2] [.int a3, .long a4] (ev_hp I J R T) cz kz = bif decide (¬ a0 = (0 : Int32)) then G 225 57 [.ref 35, .int a0, .long a1, ez_fill, .int a2] [.int a3, .long a4] (ev_hp I J R T) cz kz else G 225 50 [.ref 35, .int a0, .long a1, ez_fill, .int a2] [.int a3, .long a4] (ev_hp I J R T) cz kz := by
  intro G
  rfl
set_option maxRecDepth 100000 in
theorem fm_r58 {a0 : Int32} {a1 : Int64} {a2 : Int32} {a3 : Int32} {a4 : Int64} : ∀ G : ez_F, fx_up X 2 G 225 57 [.ref 35, .int a0, .long a1, ez_fill, .int a2] [.int a3, .long a4] (ev_hp I J R T) cz kz = bif decide (¬ a3 = (0 : Int32)) then G 225 68 [.ref 35, .int a0, .long a1, ez_fill, .int a2] [.long a4] (ev_hp I J R T) cz kz else G 225 61 [.ref 35, .int a0, .long a1, ez_fill, .int a2] [.long a4] (ev_hp I J R T) cz kz := by
  intro G
  rfl
set_option maxRecDepth 100000 in
theorem fm_r59 {a0 : Int32} {a1 : Int64} {a2 : Int32} {a3 : Int64} : ∀ G : ez_F, fx_up X 5 G 225 68 [.ref 35, .int a0, .long a1, ez_fill, .int a2] [.long a3] (ev_hp I J R T) cz kz = G 225 30 [.ref 35, .int a0, .long (a3 ||| (0 : Int64)), ez_fill, .int (a2 + (1 : Int32))] [] (ev_hp I J R T) cz kz := by
  intro G
  rfl
set_option maxRecDepth 100000 in
theorem fm_r60 {a0 : Int32} {a1 : Int64} {a2 : Int32} {a3 : Int64} : ∀ G : ez_F, fx_up X 8 G 225 61 [.ref 35, .int a0, .long a1, ez_fill, .int a2] [.long a3] (ev_hp I J R T) cz kz = G 225 30 [.ref 35, .int a0, .long (a3 ||| ((1 : Int64) <<< (a2.toInt64 &&& (63 : Int64)))), ez_fill, .int (a2 + (1 : Int32))] [] (ev_hp I J R T) cz kz := by
  intro G
  rfl
set_option maxRecDepth 100000 in
theorem fm_r61 {a0 : Int32} {a1 : Int64} {a2 : Int32} {a3 : Int32} {a4 : Int64} : ∀ G : ez_F, fx_up X 2 G 225 50 [.ref 35, .int a0, .long a1, ez_fill, .int a2] [.int a3, .long a4] (ev_hp I J R T) cz kz = G 225 54 [.ref 35, .int a0, .long a1, ez_fill, .int a2] [.int (I 35 24), .int a3, .long a4] (ev_hp I J R T) cz kz := by
  intro G
  rfl
set_option maxRecDepth 100000 in
theorem fm_r62 {a0 : Int32} {a1 : Int64} {a2 : Int32} {a3 : Int32} {a4 : Int32} {a5 : Int64} : ∀ G : ez_F, fx_up X 2 G 225 54 [.ref 35, .int a0, .long a1, ez_fill, .int a2] [.int a3, .int a4, .long a5] (ev_hp I J R T) cz kz = bif decide (¬ a4 = a3) then G 225 68 [.ref 35, .int a0, .long a1, ez_fill, .int a2] [.long a5] (ev_hp I J R T) cz kz else G 225 61 [.ref 35, .int a0, .long a1, ez_fill, .int a2] [.long a5] (ev_hp I J R T) cz kz := by
  intro G
  rfl
theorem mq_46 {v x c : Int32} {z : Int64}
    (H : ((¬ x = (0 : Int32) → ((¬ v = (0 : Int32) → pw N X 225 30 [.ref 35, .int x, .long (z ||| (0 : Int64)), ez_fill, .int (c + (1 : Int32))] [] (ev_hp I J R T) Q) ∧ (¬ (¬ v = (0 : Int32)) → pw N X 225 30 [.ref 35, .int x, .long (z ||| ((1 : Int64) <<< (c.toInt64 &&& (63 : Int64)))), ez_fill, .int (c + (1 : Int32))] [] (ev_hp I J R T) Q))) ∧ (¬ (¬ x = (0 : Int32)) → ((¬ v = (I 35 24) → pw N X 225 30 [.ref 35, .int x, .long (z ||| (0 : Int64)), ez_fill, .int (c + (1 : Int32))] [] (ev_hp I J R T) Q) ∧ (¬ (¬ v = (I 35 24)) → pw N X 225 30 [.ref 35, .int x, .long (z ||| ((1 : Int64) <<< (c.toInt64 &&& (63 : Int64)))), ez_fill, .int (c + (1 : Int32))] [] (ev_hp I J R T) Q))))) : pw (N + 1) X 225 46 [.ref 35, .int x, .long z, ez_fill, .int c] [.int v, .long z] (ev_hp I J R T) Q := by
  refine pw_if (by decide) (fun _ _ => fm_r57) (fun w1 => ?_) (fun w1 => ?_)
  · have h1 := H.1 w1
    refine pw_p (pw_if (by decide) (fun _ _ => fm_r58) (fun w2 => ?_) (fun w2 => ?_))
    · have h2 := h1.1 w2
      refine pw_p (pw_seg (by decide) (fun _ _ => fm_r59) ?_)
      exact h2
    · have h2 := h1.2 w2
      refine pw_p (pw_seg (by decide) (fun _ _ => fm_r60) ?_)
      exact h2
  · have h1 := H.2 w1
    refine pw_p (pw_seg (by decide) (fun _ _ => fm_r61) ?_)
    refine pw_p (pw_if (by decide) (fun _ _ => fm_r62) (fun w2 => ?_) (fun w2 => ?_))
    · have h2 := h1.1 w2
      refine pw_p (pw_seg (by decide) (fun _ _ => fm_r59) ?_)
      exact h2
    · have h2 := h1.2 w2
      refine pw_p (pw_seg (by decide) (fun _ _ => fm_r60) ?_)
      exact h2
set_option maxRecDepth 100000 in
theorem fm_r63 {a0 : Int32} {a1 : Int32} : ∀ G : ez_F, fx_up X 3 G 214 0 [.ref 35, .int a0, .int a1] [] (ev_hp I J R T) cz kz = ev_C G 200 [.ref 35, .int a0] (ev_hp I J R T) fun r h1 c1 k1 => G 214 5 [.ref 35, .int a0, .int a1] (r.toList ++ []) h1 (cz + c1) (kz + k1) := by
  intro G
  rfl
set_option maxRecDepth 100000 in
theorem fm_r64 {a0 : Int32} {a1 : Int32} {a2 : Int32} : ∀ G : ez_F, fx_up X 1 G 214 5 [.ref 35, .int a0, .int a1] [.int a2] (ev_hp I J R T) cz kz = bif decide (¬ a2 = (0 : Int32)) then G 214 11 [.ref 35, .int a0, .int a1] [] (ev_hp I J R T) cz kz else G 214 8 [.ref 35, .int a0, .int a1] [] (ev_hp I J R T) cz kz := by
  intro G
  rfl
set_option maxRecDepth 100000 in
theorem fm_r65 {a0 : Int32} {a1 : Int32} : ∀ G : ez_F, fx_up X 5 G 214 11 [.ref 35, .int a0, .int a1] [] (ev_hp I J R T) cz kz = ev_C G 198 [.long a1.toInt64, .long (0 : Int64), .long (2 : Int64)] (ev_hp I J R T) fun r h1 c1 k1 => G 214 20 [.ref 35, .int a0, .int a1] (r.toList ++ []) h1 (cz + c1) (kz + k1) := by
  intro G
  rfl
set_option maxRecDepth 100000 in
theorem fm_r66 {a0 : Int32} {a1 : Int32} {a2 : Int32} : ∀ G : ez_F, fx_up X 1 G 214 20 [.ref 35, .int a0, .int a1] [.int a2] (ev_hp I J R T) cz kz = bif decide (¬ a2 = (0 : Int32)) then G 214 26 [.ref 35, .int a0, .int a1] [] (ev_hp I J R T) cz kz else G 214 23 [.ref 35, .int a0, .int a1] [] (ev_hp I J R T) cz kz := by
  intro G
  rfl
set_option maxRecDepth 100000 in
theorem fm_r67 {a0 : Int32} {a1 : Int32} : ∀ G : ez_F, fx_up X 2 G 214 26 [.ref 35, .int a0, .int a1] [] (ev_hp I J R T) cz kz = ev_C G 188 [.ref 35] (ev_hp I J R T) fun r h1 c1 k1 => G 214 30 [.ref 35, .int a0, .int a1] (r.toList ++ []) h1 (cz + c1) (kz + k1) := by
  intro G
  rfl
set_option maxRecDepth 100000 in
theorem fm_r68 {a0 : Int32} {a1 : Int32} : ∀ G : ez_F, fx_up X 2 G 214 23 [.ref 35, .int a0, .int a1] [] (ev_hp I J R T) cz kz = some (some (.int (-3 : Int32)), (ev_hp I J R T), cz, kz) := by
  intro G
  rfl
set_option maxRecDepth 100000 in
theorem fm_r69 {a0 : Int32} {a1 : Int32} : ∀ G : ez_F, fx_up X 2 G 214 8 [.ref 35, .int a0, .int a1] [] (ev_hp I J R T) cz kz = some (some (.int (-2 : Int32)), (ev_hp I J R T), cz, kz) := by
  intro G
  rfl
theorem mp_0 {x y : Int32}
    (H : ((¬ (ev_il (x.toInt64) 0 (((((I 35 0) * (I 35 1))) - (1 : Int32)).toInt64)) = (0 : Int32) → ((¬ (ev_il y.toInt64 (0 : Int64) (2 : Int64)) = (0 : Int32) → (∃ Q1 : pw_Q, pe N X 188 [.ref 35] (ev_hp I J R T) Q1 ∧ ∀ (r : Option Value) (h1 : ez_H), Q1 r h1 → pw N X 214 30 [.ref 35, .int x, .int y] (r.toList ++ []) h1 Q)) ∧ (¬ (¬ (ev_il y.toInt64 (0 : Int64) (2 : Int64)) = (0 : Int32)) → Q (some (.int (-3 : Int32))) (ev_hp I J R T)))) ∧ (¬ (¬ (ev_il (x.toInt64) 0 (((((I 35 0) * (I 35 1))) - (1 : Int32)).toInt64)) = (0 : Int32)) → Q (some (.int (-2 : Int32))) (ev_hp I J R T)))) : pw (N + 1) X 214 0 [.ref 35, .int x, .int y] [] (ev_hp I J R T) Q := by
  refine pw_callp (by decide) (fun _ _ => fm_r63) (pe_is (em_isCell _ _ _ _ _ _)) ?_
  refine pw_p (pw_if (by decide) (fun _ _ => fm_r64) (fun w1 => ?_) (fun w1 => ?_))
  · have h1 := H.1 w1
    refine pw_p (pw_callp (by decide) (fun _ _ => fm_r65) (pe_is (ec_in _ _ _ _ _)) ?_)
    refine pw_p (pw_if (by decide) (fun _ _ => fm_r66) (fun w2 => ?_) (fun w2 => ?_))
    · have h2 := h1.1 w2
      obtain ⟨Q1, hc, hk⟩ := h2
      exact pw_p (pw_call (by decide) (fun _ _ => fm_r67) hc hk)
    · have h2 := h1.2 w2
      exact pw_p (pw_ret (by decide) (fun _ _ => fm_r68) h2)
  · have h1 := H.2 w1
    exact pw_p (pw_ret (by decide) (fun _ _ => fm_r69) h1)
set_option maxRecDepth 100000 in
theorem fm_r70 {a0 : Int32} {a1 : Int32} {a2 : Int32} : ∀ G : ez_F, fx_up X 1 G 214 30 [.ref 35, .int a0, .int a1] [.int a2] (ev_hp I J R T) cz kz = bif decide (¬ a2 = (0 : Int32)) then G 214 36 [.ref 35, .int a0, .int a1] [] (ev_hp I J R T) cz kz else G 214 33 [.ref 35, .int a0, .int a1] [] (ev_hp I J R T) cz kz := by
  intro G
  rfl
set_option maxRecDepth 100000 in
theorem fm_r71 {a0 : Int32} {a1 : Int32} : ∀ G : ez_F, fx_up X 4 G 214 36 [.ref 35, .int a0, .int a1] [] (ev_hp I J R T) cz kz = ev_C G 193 [.ref 35, .int a0, .int (-1 : Int32)] (ev_hp I J R T) fun r h1 c1 k1 => G 214 42 [.ref 35, .int a0, .int a1] (r.toList ++ []) h1 (cz + c1) (kz + k1) := by
  intro G
  rfl
set_option maxRecDepth 100000 in
theorem fm_r72 {a0 : Int32} {a1 : Int32} : ∀ G : ez_F, fx_up X 2 G 214 33 [.ref 35, .int a0, .int a1] [] (ev_hp I J R T) cz kz = some (some (.int (-6 : Int32)), (ev_hp I J R T), cz, kz) := by
  intro G
  rfl
theorem mp_30 {v x y : Int32}
    (H : ((¬ v = (0 : Int32) → (∃ Q1 : pw_Q, pe N X 193 [.ref 35, .int x, .int (-1 : Int32)] (ev_hp I J R T) Q1 ∧ ∀ (r : Option Value) (h1 : ez_H), Q1 r h1 → pw N X 214 42 [.ref 35, .int x, .int y] (r.toList ++ []) h1 Q)) ∧ (¬ (¬ v = (0 : Int32)) → Q (some (.int (-6 : Int32))) (ev_hp I J R T)))) : pw (N + 1) X 214 30 [.ref 35, .int x, .int y] [.int v] (ev_hp I J R T) Q := by
  refine pw_if (by decide) (fun _ _ => fm_r70) (fun w1 => ?_) (fun w1 => ?_)
  · have h1 := H.1 w1
    obtain ⟨Q1, hc, hk⟩ := h1
    exact pw_p (pw_call (by decide) (fun _ _ => fm_r71) hc hk)
  · have h1 := H.2 w1
    exact pw_p (pw_ret (by decide) (fun _ _ => fm_r72) h1)
set_option maxRecDepth 100000 in
theorem fm_r73 {a0 : Int32} {a1 : Int32} {a2 : Int32} : ∀ G : ez_F, fx_up X 4 G 214 42 [.ref 35, .int a0, .int a1] [.int a2] (ev_hp I J R T) cz kz = G 214 48 [.ref 35, .int a0, .int a1] [.int a1, .ref 53] (ev_hp I J R T) cz kz := by
  intro G
  rfl
set_option maxRecDepth 100000 in
theorem fm_r74 {a0 : Int32} {a1 : Int32} {a2 : Int32} : ∀ G : ez_F, fx_up X 1 G 214 49 [.ref 35, .int a0, .int a1] [.int a2] (ev_hp I J R T) cz kz = some (some (.int a2), (ev_hp I J R T), cz, kz) := by
  intro G
  rfl
theorem mp_42 {v x y : Int32}
    (H : (ev_ix y 4 → Q (some (.int (I 53 y.toNatClampNeg))) (ev_hp I J R T))) : pw (N + 1) X 214 42 [.ref 35, .int x, .int y] [.int v] (ev_hp I J R T) Q := by
  refine pw_seg (by decide) (fun _ _ => fm_r73) ?_
  refine pw_p (pw_iald (by rfl) (cx_getI (show cx_Ds[53]? = some (0, 4, []) from rfl)) (fun w1 => ?_))
  have h1 := H w1
  exact pw_p (pw_ret (by decide) (fun _ _ => fm_r74) h1)
set_option maxRecDepth 100000 in
theorem fm_r75 {a0 : Int32} : ∀ G : ez_F, fx_up X 5 G 169 0 [.ref 35, .int a0] [] (ev_hp I J R T) cz kz = ev_C G 198 [.long a0.toInt64, .long (0 : Int64), .long (1 : Int64)] (ev_hp I J R T) fun r h1 c1 k1 => G 169 7 [.ref 35, .int a0] (r.toList ++ []) h1 (cz + c1) (kz + k1) := by
  intro G
  rfl
set_option maxRecDepth 100000 in
theorem fm_r76 {a0 : Int32} {a1 : Int32} : ∀ G : ez_F, fx_up X 1 G 169 7 [.ref 35, .int a0] [.int a1] (ev_hp I J R T) cz kz = bif decide (¬ a1 = (0 : Int32)) then G 169 13 [.ref 35, .int a0] [] (ev_hp I J R T) cz kz else G 169 10 [.ref 35, .int a0] [] (ev_hp I J R T) cz kz := by
  intro G
  rfl
set_option maxRecDepth 100000 in
theorem fm_r77 {a0 : Int32} : ∀ G : ez_F, fx_up X 2 G 169 13 [.ref 35, .int a0] [] (ev_hp I J R T) cz kz = ev_C G 188 [.ref 35] (ev_hp I J R T) fun r h1 c1 k1 => G 169 17 [.ref 35, .int a0] (r.toList ++ []) h1 (cz + c1) (kz + k1) := by
  intro G
  rfl
set_option maxRecDepth 100000 in
theorem fm_r78 {a0 : Int32} : ∀ G : ez_F, fx_up X 2 G 169 10 [.ref 35, .int a0] [] (ev_hp I J R T) cz kz = some (some (.int (-3 : Int32)), (ev_hp I J R T), cz, kz) := by
  intro G
  rfl
theorem mb_0 {x : Int32}
    (H : ((¬ (ev_il x.toInt64 (0 : Int64) (1 : Int64)) = (0 : Int32) → (∃ Q1 : pw_Q, pe N X 188 [.ref 35] (ev_hp I J R T) Q1 ∧ ∀ (r : Option Value) (h1 : ez_H), Q1 r h1 → pw N X 169 17 [.ref 35, .int x] (r.toList ++ []) h1 Q)) ∧ (¬ (¬ (ev_il x.toInt64 (0 : Int64) (1 : Int64)) = (0 : Int32)) → Q (some (.int (-3 : Int32))) (ev_hp I J R T)))) : pw (N + 1) X 169 0 [.ref 35, .int x] [] (ev_hp I J R T) Q := by
  refine pw_callp (by decide) (fun _ _ => fm_r75) (pe_is (ec_in _ _ _ _ _)) ?_
  refine pw_p (pw_if (by decide) (fun _ _ => fm_r76) (fun w1 => ?_) (fun w1 => ?_))
  · have h1 := H.1 w1
    obtain ⟨Q1, hc, hk⟩ := h1
    exact pw_p (pw_call (by decide) (fun _ _ => fm_r77) hc hk)
  · have h1 := H.2 w1
    exact pw_p (pw_ret (by decide) (fun _ _ => fm_r78) h1)
set_option maxRecDepth 100000 in
theorem fm_r79 {a0 : Int32} {a1 : Int32} : ∀ G : ez_F, fx_up X 1 G 169 17 [.ref 35, .int a0] [.int a1] (ev_hp I J R T) cz kz = bif decide (¬ a1 = (0 : Int32)) then G 169 23 [.ref 35, .int a0] [] (ev_hp I J R T) cz kz else G 169 20 [.ref 35, .int a0] [] (ev_hp I J R T) cz kz := by
  intro G
  rfl
set_option maxRecDepth 100000 in
theorem fm_r80 {a0 : Int32} : ∀ G : ez_F, fx_up X 2 G 169 23 [.ref 35, .int a0] [] (ev_hp I J R T) cz kz = G 169 27 [.ref 35, .int a0] [.int (I 35 24)] (ev_hp I J R T) cz kz := by
  intro G
  rfl
set_option maxRecDepth 100000 in
theorem fm_r81 {a0 : Int32} {a1 : Int32} : ∀ G : ez_F, fx_up X 1 G 169 27 [.ref 35, .int a0] [.int a1] (ev_hp I J R T) cz kz = bif decide (¬ a1 = (0 : Int32)) then G 169 32 [.ref 35, .int a0] [] (ev_hp I J R T) cz kz else G 169 30 [.ref 35, .int a0] [] (ev_hp I J R T) cz kz := by
  intro G
  rfl
set_option maxRecDepth 100000 in
theorem fm_r82 {a0 : Int32} : ∀ G : ez_F, fx_up X 6 G 169 32 [.ref 35, .int a0] [] (ev_hp I J R T) cz kz = ev_C G 193 [.ref 35, .int (0 : Int32), .int (-1 : Int32)] (ev_hp I J R T) fun r h1 c1 k1 => G 169 40 [.ref 35, .int a0, .int (0 : Int32)] (r.toList ++ []) h1 (cz + c1) (kz + k1) := by
  intro G
  rfl
set_option maxRecDepth 100000 in
theorem fm_r83 {a0 : Int32} : ∀ G : ez_F, fx_up X 2 G 169 30 [.ref 35, .int a0] [] (ev_hp I J R T) cz kz = some (some (.int (-1 : Int32)), (ev_hp I J R T), cz, kz) := by
  intro G
  rfl
set_option maxRecDepth 100000 in
theorem fm_r84 {a0 : Int32} : ∀ G : ez_F, fx_up X 2 G 169 20 [.ref 35, .int a0] [] (ev_hp I J R T) cz kz = some (some (.int (-6 : Int32)), (ev_hp I J R T), cz, kz) := by
  intro G
  rfl
theorem mb_17 {v x : Int32}
    (H : ((¬ v = (0 : Int32) → ((¬ (I 35 24) = (0 : Int32) → (∃ Q1 : pw_Q, pe N X 193 [.ref 35, .int (0 : Int32), .int (-1 : Int32)] (ev_hp I J R T) Q1 ∧ ∀ (r : Option Value) (h1 : ez_H), Q1 r h1 → pw N X 169 40 [.ref 35, .int x, .int (0 : Int32)] (r.toList ++ []) h1 Q)) ∧ (¬ (¬ (I 35 24) = (0 : Int32)) → Q (some (.int (-1 : Int32))) (ev_hp I J R T)))) ∧ (¬ (¬ v = (0 : Int32)) → Q (some (.int (-6 : Int32))) (ev_hp I J R T)))) : pw (N + 1) X 169 17 [.ref 35, .int x] [.int v] (ev_hp I J R T) Q := by
  refine pw_if (by decide) (fun _ _ => fm_r79) (fun w1 => ?_) (fun w1 => ?_)
  · have h1 := H.1 w1
    refine pw_p (pw_seg (by decide) (fun _ _ => fm_r80) ?_)
    refine pw_p (pw_if (by decide) (fun _ _ => fm_r81) (fun w2 => ?_) (fun w2 => ?_))
    · have h2 := h1.1 w2
      obtain ⟨Q1, hc, hk⟩ := h2
      exact pw_p (pw_call (by decide) (fun _ _ => fm_r82) hc hk)
    · have h2 := h1.2 w2
      exact pw_p (pw_ret (by decide) (fun _ _ => fm_r83) h2)
  · have h1 := H.2 w1
    exact pw_p (pw_ret (by decide) (fun _ _ => fm_r84) h1)
set_option maxRecDepth 100000 in
theorem fm_r85 {a0 : Int32} {a1 : Int32} {a2 : Int32} : ∀ G : ez_F, fx_up X 3 G 169 40 [.ref 35, .int a0, .int a1] [.int a2] (ev_hp I J R T) cz kz = G 169 44 [.ref 35, .int a0, .int a1, .int a2, .int (1 : Int32)] [] (ev_hp I J R T) cz kz := by
  intro G
  rfl
theorem mb_40 {v x b : Int32}
    (H : pw N X 169 44 [.ref 35, .int x, .int b, .int v, .int (1 : Int32)] [] (ev_hp I J R T) Q) : pw (N + 1) X 169 40 [.ref 35, .int x, .int b] [.int v] (ev_hp I J R T) Q := by
  refine pw_seg (by decide) (fun _ _ => fm_r85) ?_
  exact H
set_option maxRecDepth 100000 in
theorem fm_r86 {a0 : Int32} {a1 : Int32} {a2 : Int32} {a3 : Int32} : ∀ G : ez_F, fx_up X 3 G 169 44 [.ref 35, .int a0, .int a1, .int a2, .int a3] [] (ev_hp I J R T) cz kz = ev_C G 179 [.ref 35] (ev_hp I J R T) fun r h1 c1 k1 => G 169 50 [.ref 35, .int a0, .int a1, .int a2, .int a3] (r.toList ++ [.int a3]) h1 (cz + c1) (kz + k1) := by
  intro G
  rfl
set_option maxRecDepth 100000 in
theorem fm_r87 {a0 : Int32} {a1 : Int32} {a2 : Int32} {a3 : Int32} {a4 : Int32} {a5 : Int32} : ∀ G : ez_F, fx_up X 1 G 169 50 [.ref 35, .int a0, .int a1, .int a2, .int a3] [.int a4, .int a5] (ev_hp I J R T) cz kz = bif decide (a4 ≤ a5) then G 169 94 [.ref 35, .int a0, .int a1, .int a2, .int a3] [] (ev_hp I J R T) cz kz else G 169 53 [.ref 35, .int a0, .int a1, .int a2, .int a3] [] (ev_hp I J R T) cz kz := by
  intro G
  rfl
set_option maxRecDepth 100000 in
theorem fm_r88 {a0 : Int32} {a1 : Int32} {a2 : Int32} {a3 : Int32} : ∀ G : ez_F, fx_up X 2 G 169 94 [.ref 35, .int a0, .int a1, .int a2, .int a3] [] (ev_hp I J R T) cz kz = bif decide (¬ a0 = (0 : Int32)) then G 169 102 [.ref 35, .int a0, .int a1, .int a2, .int a3] [] (ev_hp I J R T) cz kz else G 169 98 [.ref 35, .int a0, .int a1, .int a2, .int a3] [] (ev_hp I J R T) cz kz := by
  intro G
  rfl
set_option maxRecDepth 100000 in
theorem fm_r89 {a0 : Int32} {a1 : Int32} {a2 : Int32} {a3 : Int32} : ∀ G : ez_F, fx_up X 2 G 169 102 [.ref 35, .int a0, .int a1, .int a2, .int a3] [] (ev_hp I J R T) cz kz = some (some (.int a2), (ev_hp I J R T), cz, kz) := by
  intro G
  rfl
set_option maxRecDepth 100000 in
theorem fm_r90 {a0 : Int32} {a1 : Int32} {a2 : Int32} {a3 : Int32} : ∀ G : ez_F, fx_up X 3 G 169 98 [.ref 35, .int a0, .int a1, .int a2, .int a3] [] (ev_hp I J R T) cz kz = some (some (.int a1), (ev_hp I J R T), cz, kz) := by
  intro G
  rfl
set_option maxRecDepth 100000 in
theorem fm_r91 {a0 : Int32} {a1 : Int32} {a2 : Int32} {a3 : Int32} : ∀ G : ez_F, fx_up X 4 G 169 53 [.ref 35, .int a0, .int a1, .int a2, .int a3] [] (ev_hp I J R T) cz kz = ev_C G 193 [.ref 35, .int a3, .int (-1 : Int32)] (ev_hp I J R T) fun r h1 c1 k1 => G 169 60 [.ref 35, .int a0, .int a1, .int a2, .int a3] (r.toList ++ []) h1 (cz + c1) (kz + k1) := by
  intro G
  rfl
theorem mb_44 {x b l c : Int32}
    (H : ((((I 35 0) * (I 35 1)) ≤ c → ((¬ x = (0 : Int32) → Q (some (.int l)) (ev_hp I J R T)) ∧ (¬ (¬ x = (0 : Int32)) → Q (some (.int b)) (ev_hp I J R T)))) ∧ (¬ (((I 35 0) * (I 35 1)) ≤ c) → (∃ Q1 : pw_Q, pe N X 193 [.ref 35, .int c, .int (-1 : Int32)] (ev_hp I J R T) Q1 ∧ ∀ (r : Option Value) (h1 : ez_H), Q1 r h1 → pw N X 169 60 [.ref 35, .int x, .int b, .int l, .int c] (r.toList ++ []) h1 Q)))) : pw (N + 1) X 169 44 [.ref 35, .int x, .int b, .int l, .int c] [] (ev_hp I J R T) Q := by
  refine pw_callp (by decide) (fun _ _ => fm_r86) (pe_mcount) ?_
  refine pw_p (pw_if (by decide) (fun _ _ => fm_r87) (fun w1 => ?_) (fun w1 => ?_))
  · have h1 := H.1 w1
    refine pw_p (pw_if (by decide) (fun _ _ => fm_r88) (fun w2 => ?_) (fun w2 => ?_))
    · have h2 := h1.1 w2
      exact pw_p (pw_ret (by decide) (fun _ _ => fm_r89) h2)
    · have h2 := h1.2 w2
      exact pw_p (pw_ret (by decide) (fun _ _ => fm_r90) h2)
  · have h1 := H.2 w1
    obtain ⟨Q1, hc, hk⟩ := h1
    exact pw_p (pw_call (by decide) (fun _ _ => fm_r91) hc hk)
set_option maxRecDepth 100000 in
theorem fm_r92 {a0 : Int32} {a1 : Int32} {a2 : Int32} {a3 : Int32} {a4 : Int32} : ∀ G : ez_F, fx_up X 4 G 169 60 [.ref 35, .int a0, .int a1, .int a2, .int a3] [.int a4] (ev_hp I J R T) cz kz = bif decide (a2 ≤ a4) then G 169 73 [.ref 35, .int a0, .int a1, .int a2, .int a3, .int a4] [] (ev_hp I J R T) cz kz else G 169 68 [.ref 35, .int a0, .int a1, .int a2, .int a3, .int a4] [] (ev_hp I J R T) cz kz := by
  intro G
  rfl
set_option maxRecDepth 100000 in
theorem fm_r93 {a0 : Int32} {a1 : Int32} {a2 : Int32} {a3 : Int32} {a4 : Int32} : ∀ G : ez_F, fx_up X 5 G 169 73 [.ref 35, .int a0, .int a1, .int a2, .int a3, .int a4] [] (ev_hp I J R T) cz kz = bif decide (a2 ≤ a4) then G 169 86 [.ref 35, .int a0, .int a1, .int a2, .int a3, .int a4] [] (ev_hp I J R T) cz kz else G 169 81 [.ref 35, .int a0, .int a1, .int a2, .int a3, .int a4] [] (ev_hp I J R T) cz kz := by
  intro G
  rfl
set_option maxRecDepth 100000 in
theorem fm_r94 {a0 : Int32} {a1 : Int32} {a2 : Int32} {a3 : Int32} {a4 : Int32} : ∀ G : ez_F, fx_up X 4 G 169 86 [.ref 35, .int a0, .int a1, .int a2, .int a3, .int a4] [] (ev_hp I J R T) cz kz = G 169 44 [.ref 35, .int a0, .int a1, .int a2, .int (a3 + (1 : Int32)), .int a4] [] (ev_hp I J R T) cz kz := by
  intro G
  rfl
set_option maxRecDepth 100000 in
theorem fm_r95 {a0 : Int32} {a1 : Int32} {a2 : Int32} {a3 : Int32} {a4 : Int32} : ∀ G : ez_F, fx_up X 5 G 169 81 [.ref 35, .int a0, .int a1, .int a2, .int a3, .int a4] [] (ev_hp I J R T) cz kz = G 169 44 [.ref 35, .int a0, .int a1, .int a4, .int (a3 + (1 : Int32)), .int a4] [] (ev_hp I J R T) cz kz := by
  intro G
  rfl
set_option maxRecDepth 100000 in
theorem fm_r96 {a0 : Int32} {a1 : Int32} {a2 : Int32} {a3 : Int32} {a4 : Int32} : ∀ G : ez_F, fx_up X 6 G 169 68 [.ref 35, .int a0, .int a1, .int a2, .int a3, .int a4] [] (ev_hp I J R T) cz kz = bif decide (a2 ≤ a4) then G 169 86 [.ref 35, .int a0, .int a3, .int a2, .int a3, .int a4] [] (ev_hp I J R T) cz kz else G 169 81 [.ref 35, .int a0, .int a3, .int a2, .int a3, .int a4] [] (ev_hp I J R T) cz kz := by
  intro G
  rfl
theorem mb_60 {v x b l c : Int32}
    (H : ((l ≤ v → ((l ≤ v → pw N X 169 44 [.ref 35, .int x, .int b, .int l, .int (c + (1 : Int32))] [] (ev_hp I J R T) Q) ∧ (¬ (l ≤ v) → pw N X 169 44 [.ref 35, .int x, .int b, .int v, .int (c + (1 : Int32))] [] (ev_hp I J R T) Q))) ∧ (¬ (l ≤ v) → ((l ≤ v → pw N X 169 44 [.ref 35, .int x, .int c, .int l, .int (c + (1 : Int32))] [] (ev_hp I J R T) Q) ∧ (¬ (l ≤ v) → pw N X 169 44 [.ref 35, .int x, .int c, .int v, .int (c + (1 : Int32))] [] (ev_hp I J R T) Q))))) : pw (N + 1) X 169 60 [.ref 35, .int x, .int b, .int l, .int c] [.int v] (ev_hp I J R T) Q := by
  refine pw_if (by decide) (fun _ _ => fm_r92) (fun w1 => ?_) (fun w1 => ?_)
  · have h1 := H.1 w1
    refine pw_p (pw_if (by decide) (fun _ _ => fm_r93) (fun w2 => ?_) (fun w2 => ?_))
    · have h2 := h1.1 w2
      refine pw_p (pw_seg (by decide) (fun _ _ => fm_r94) ?_)
      refine pw_cutl (by rfl) ?_
      exact h2
    · have h2 := h1.2 w2
      refine pw_p (pw_seg (by decide) (fun _ _ => fm_r95) ?_)
      refine pw_cutl (by rfl) ?_
      exact h2
  · have h1 := H.2 w1
    refine pw_p (pw_if (by decide) (fun _ _ => fm_r96) (fun w2 => ?_) (fun w2 => ?_))
    · have h2 := h1.1 w2
      refine pw_p (pw_seg (by decide) (fun _ _ => fm_r94) ?_)
      refine pw_cutl (by rfl) ?_
      exact h2
    · have h2 := h1.2 w2
      refine pw_p (pw_seg (by decide) (fun _ _ => fm_r95) ?_)
      refine pw_cutl (by rfl) ?_
      exact h2
end
theorem cq_mono {p : Nat → Bool} {a : Nat} : ∀ d, cq p a ≤ cq p (a + d) := by
  intro d
  induction d with
  | zero => exact Nat.le_refl _
  | succ d ih =>
    have e : cq p (a + d + 1) = cq p (a + d) + (bif p (a + d) then 1 else 0) := rfl
    show _ ≤ cq p (a + d + 1)
    omega
theorem cq_lt {p : Nat → Bool} {a b : Nat} (hab : a < b) (hp : p a = true) : cq p a < cq p b := by
  have h := cq_mono (p := p) (a := a + 1) (b - (a + 1))
  have e : cq p (a + 1) = cq p a + (bif p a then 1 else 0) := rfl
  rw [show a + 1 + (b - (a + 1)) = b by omega, e, hp] at h
  show cq p a + 1 ≤ cq p b
  exact h
/-! the wrong answers -/
theorem kb_us1 (z : Int64) (n : Nat) : kb (us z 1) n = kb z (1 + n) := by
  show ((z.toUInt64 >>> ((1 : Int32).toInt64.toUInt64 &&& Int64.toUInt64 63)).toBitVec).getLsbD n = _
  rw [UInt64.toBitVec_shiftRight, BitVec.ushiftRight_eq', show (((1 : Int32).toInt64.toUInt64 &&& Int64.toUInt64 63).toBitVec % 64).toNat = 1 from by decide, BitVec.getLsbD_ushiftRight]
  rfl
/-- the told answers other than true, as the reference sees them -/
def wc (I : Nat → Nat → Int32) (J : Nat → Nat → Int64) (t : ly_t) (c : Nat) : Bool := decide (¬ I 44 c = -1 ∧ ¬ I 44 c = Int32.ofNat (xt I J t c))
theorem wc_b {a0 a1 : Bool} {v : Int32} (h : v = 0 ∨ v = 1 ∨ v = 2) : (Bool.xor (kb v.toInt64 0) a0 || Bool.xor (kb v.toInt64 1) a1) = decide (¬ td_v a0 a1 = -1 ∧ ¬ td_v a0 a1 = v) := by
  rcases h with rfl | rfl | rfl <;> cases a0 <;> cases a1 <;> decide
section
variable {I : Nat → Nat → Int32} {J : Nat → Nat → Int64} {t : ly_t}
/-- and in the class's words -/
theorem wr_bit (hc3 : C3 (ck I J)) (ht : ∀ c, c < nca I → xt I J t c ≤ 2) : (∀ c, c < nca I → kb (wrB (J 8 2) (J 8 3) (xz I J t (nca I))) (2 * c) = wc I J t c) ∧ (∀ i, kb (wrB (J 8 2) (J 8 3) (xz I J t (nca I))) i = true → i % 2 = 0 ∧ i / 2 < nca I) ∧ nca I ≤ 30 := by
  obtain ⟨k, e81, hk, -, hr, hK, -⟩ := c3_of hc3
  have enc : nca I = k := by
    unfold nca
    rw [e81, io_ti (by omega)]
    exact Int.toNat_natCast k
  rw [enc] at ht ⊢
  have hw : ∀ i, kb (wrB (J 8 2) (J 8 3) (xz I J t k)) i = ((Bool.xor (kb (xz I J t k) i) (kb (J 8 2) i) || Bool.xor (kb (xz I J t k) (1 + i)) (kb (J 8 2) (1 + i))) && kb (J 8 3) i) := fun i => by
    unfold wrB
    rw [kb_and, kb_or, kb_xor, kb_us1, kb_xor]
  refine ⟨fun c hc => ?_, fun i hi => ?_, hk⟩
  · obtain ⟨-, -, -, htd, -⟩ := hr c hc
    have hz := (pl_z_kb k hk ht).2
    have z0 : kb (xz I J t k) (2 * c) = kb (Int32.ofNat (xt I J t c)).toInt64 0 := hz c 0 hc (by decide)
    have z1 : kb (xz I J t k) (2 * c + 1) = kb (Int32.ofNat (xt I J t c)).toInt64 1 := hz c 1 hc (by decide)
    rw [hw, Nat.add_comm 1 (2 * c), z0, z1, wc_b (n012 (ht c hc))]
    unfold wc
    rw [← htd]
    unfold td_at
    cases kb (J 8 3) (2 * c)
    · rw [Bool.and_false]
      exact (decide_eq_false fun z => z.1 rfl).symm
    · rw [Bool.and_true]
      rfl
  · rw [hw] at hi
    exact hK i (Bool.and_eq_true_iff.mp hi).2
theorem wr_pc (hc3 : C3 (ck I J)) (ht : ∀ c, c < nca I → xt I J t c ≤ 2) : pcJ (wrB (J 8 2) (J 8 3) (xz I J t (nca I))) = cq (wc I J t) (nca I) := by
  obtain ⟨h1, h2, h3⟩ := wr_bit hc3 ht
  have e1 : cq (kb (wrB (J 8 2) (J 8 3) (xz I J t (nca I)))) (2 * 32) = cq (fun c => kb (wrB (J 8 2) (J 8 3) (xz I J t (nca I))) (2 * c)) 32 := cq_even (fun i => by
    cases h : kb (wrB (J 8 2) (J 8 3) (xz I J t (nca I))) (2 * i + 1)
    · rfl
    · have := (h2 _ h).1
      omega) 32
  have e2 := cq_pad (p := fun c => kb (wrB (J 8 2) (J 8 3) (xz I J t (nca I))) (2 * c)) (k := nca I) (fun i hi => by
    cases h : kb (wrB (J 8 2) (J 8 3) (xz I J t (nca I))) (2 * i)
    · rfl
    · have := (h2 _ h).2
      omega) (32 - nca I)
  rw [show nca I + (32 - nca I) = 32 by omega] at e2
  rw [pcJ_cq]
  exact (e1.trans e2).trans (cq_c _ h1)
end
section
variable {N : Nat} {X : ez_X} {I A A' : Nat → Nat → Int32} {J B B' : Nat → Nat → Int64} {R R1 : Nat → Nat} {T T1 : List ez_C} {x y : Int32} {W HH n : Nat}
theorem pe_mwrong {p : Nat → Bool} (e16 : A 35 16 = Int32.ofNat n) (hn : n ≤ 30) (hp : ∀ c, c < n → p c = decide (¬ A 44 c = -1 ∧ ¬ A 44 c = A 48 c)) : pe N X 233 [.ref 35] (ev_hp A B R T) (fun r h => r = some (.int (Int32.ofNat (cq p n))) ∧ h = ev_hp A B R T) := by
  have loop : ∀ (d c : Nat), c + d = n → ∀ N, pw N X 233 4 [.ref 35, .int (Int32.ofNat (cq p c)), .int (Int32.ofNat c)] [] (ev_hp A B R T) (fun r h => r = some (.int (Int32.ofNat (cq p n))) ∧ h = ev_hp A B R T) := by
    intro d
    induction d with
    | zero =>
      intro c hc N
      obtain rfl : c = n := by omega
      refine pw_p (wv_4 ⟨fun _ => ⟨rfl, rfl⟩, fun g => ?_⟩)
      rw [e16] at g
      exact absurd (Int32.le_refl _) g
    | succ d ih =>
      intro c hcd N
      have hc : c < n := by omega
      have e : cq p (c + 1) = cq p c + (bif p c then 1 else 0) := rfl
      have h5 := ih (c + 1) (by omega) N
      rw [e] at h5
      refine pw_p (wv_4 ?_)
      rw [e16, io_cl (by omega), io_1, io_1, Int32.add_zero]
      refine ⟨fun g => ?_, fun _ _ => ⟨fun g => ?_, fun g _ _ => ⟨fun g2 => ?_, fun g2 => ?_⟩⟩⟩
      · rw [io_le (by omega) (by omega)] at g
        omega
      · rw [hp c hc, decide_eq_false (fun z => z.1 g)] at h5
        exact h5
      · rw [hp c hc, decide_eq_false (fun z => z.2 g2)] at h5
        exact h5
      · rw [hp c hc, decide_eq_true ⟨g, g2⟩] at h5
        exact h5
  exact pe_of (pw_p (wv_0 (loop n 0 (by omega) _)))
/-- the reference's cells, while it goes through layings -/
def rg (I : Nat → Nat → Int32) (J : Nat → Nat → Int64) (W HH n : Nat) (A : Nat → Nat → Int32) (B : Nat → Nat → Int64) : Prop := gk A B W HH (rf_n I) n ∧ bk A B = bk I J ∧ ml_row (A 41) (ls I J) ∧ (∀ s, s < rf_n I → ∀ a, a < in_n I s → B 39 (300 * s + a) = J 4 (288 * s + a)) ∧ A 35 14 = Int32.ofNat (ls I J).length ∧ A 35 16 = Int32.ofNat n ∧ A 35 8 = I 2 2 ∧ A 44 = I 44 ∧ A 35 0 = I 35 0 ∧ A 35 1 = I 35 1
theorem rg_c (h : rg I J W HH n A B) (hA : ∀ a, a ≠ 35 → a ≠ 48 → a ≠ 49 → a ≠ 53 → A' a = A a) (h35 : ∀ k, k ≠ 24 → A' 35 k = A 35 k) (hB : ∀ a, a ≠ 45 → a ≠ 46 → a ≠ 47 → a ≠ 50 → a ≠ 51 → B' a = B a) : rg I J W HH n A' B' := by
  obtain ⟨h1, h2, h3, h4, h5, h6, h7, h8, h9, h10⟩ := h
  have hm : mvF A' B' = mvF A B := funext fun z => by
    unfold mvF
    rw [hA 1 (by decide) (by decide) (by decide) (by decide), hB 1 (by decide) (by decide) (by decide) (by decide) (by decide)]
  have hd : drF A' = drF A := by
    unfold drF
    rw [hA 1 (by decide) (by decide) (by decide) (by decide)]
  refine ⟨?_, ?_, ?_, ?_, ?_, ?_, ?_, ?_, ?_, ?_⟩
  · unfold gk
    rw [h35 0 (by decide), h35 1 (by decide), h35 3 (by decide), h35 7 (by decide), h35 9 (by decide), h35 10 (by decide), hA 2 (by decide) (by decide) (by decide) (by decide), hA 42 (by decide) (by decide) (by decide) (by decide), hA 43 (by decide) (by decide) (by decide) (by decide), hB 9 (by decide) (by decide) (by decide) (by decide) (by decide), hm, hd]
    exact h1
  · rw [← h2]
    unfold bk
    rw [hA 8 (by decide) (by decide) (by decide) (by decide), hA 3 (by decide) (by decide) (by decide) (by decide), hA 5 (by decide) (by decide) (by decide) (by decide), hA 2 (by decide) (by decide) (by decide) (by decide), hA 1 (by decide) (by decide) (by decide) (by decide), hA 33 (by decide) (by decide) (by decide) (by decide), hB 4 (by decide) (by decide) (by decide) (by decide) (by decide), hB 9 (by decide) (by decide) (by decide) (by decide) (by decide), hB 1 (by decide) (by decide) (by decide) (by decide) (by decide), hB 8 (by decide) (by decide) (by decide) (by decide) (by decide)]
  · rw [hA 41 (by decide) (by decide) (by decide) (by decide)]
    exact h3
  · rw [hB 39 (by decide) (by decide) (by decide) (by decide) (by decide)]
    exact h4
  · rw [h35 14 (by decide)]
    exact h5
  · rw [h35 16 (by decide)]
    exact h6
  · rw [h35 8 (by decide)]
    exact h7
  · rw [hA 44 (by decide) (by decide) (by decide) (by decide)]
    exact h8
  · rw [h35 0 (by decide)]
    exact h9
  · rw [h35 1 (by decide)]
    exact h10
/-- laying k is gone through, wherever the reference stands -/
theorem pe_goes2 (h : rl3 I J R1 T1) (hB : cx_hB cx_B0 I) (hg : gk I J W HH (rf_n I) n) (hA : rg I J W HH n A B) {k m : Nat} (hk : k < (ls I J).length) (hlen : (ls I J).length ≤ 10000) (hx : x = Int32.ofNat k) (hy : y = Int32.ofNat m) (hm : m ≤ n) :
    pe N X 192 [.ref 35, .int x, .int y] (ev_hp A B R T) (fun r h => r = none ∧ ∃ f K G1 G2, h = ev_hp (ev_sI A 48 f) (ev_sJ (ev_sJ (ev_sJ B 47 K) 45 G1) 46 G2) R T ∧ (∀ s, s < rf_n I → G1 s = (xq I J (ls I J)[k] m).1 s ∧ G2 s = (xq I J (ls I J)[k] m).2 s) ∧ ∀ c, c < m → f c = Int32.ofNat (xt I J (ls I J)[k] c)) := by
  have hr := h.1.1
  have e3 : I 3 3 = I 35 3 := (km_0 hr.1).2.2.2
  have hmem := List.getElem_mem hk
  obtain ⟨gA, eX, h41, fE, -⟩ := hA
  have hw2 := h41 k hk
  obtain ⟨e0, e1, hW, hH, -⟩ := hg
  have hpk := pk_ls hr hB hmem e0 e1 hW hH
  have hl : ∀ s, s < rf_n I → ly_at (ls I J)[k] s < in_n I s ∧ in_n I s ≤ 288 := fun s hs => by
    have hs' : s < (I 3 3).toInt.toNat := by rw [e3]; exact hs
    exact ⟨ly_in hr hB hmem hs', (fi_n hr hs').2.1⟩
  have hn3 := (rf_ns hB).2
  refine pe_mono (pe_go (t := (ls I J)[k]) (m := m) gA (by rw [(bk_xq eX _).1]; exact hpk) hx (by omega) (fun s hs => ?_) (fun s hs => ?_) (fun s hs => ?_) hy hm) ?_
  · rcases (show s = 0 ∨ s = 1 ∨ s = 2 by omega) with rfl | rfl | rfl
    · exact hw2.1
    · exact hw2.2.1
    · exact hw2.2.2
  · have := hl s hs
    omega
  · rw [fE s hs _ (hl s hs).1, (bk_xq eX _).1]
    unfold ly_s
    rw [if_pos (by rw [e3]; exact hs)]
  · rintro r h' ⟨rfl, I2, J2, rfl, f, K, G1, G2, rfl, rfl, q1, q2⟩
    rw [(bk_xq eX _).2.1] at q1
    rw [(bk_xq eX _).2.2.1] at q2
    exact ⟨rfl, f, K, G1, G2, rfl, q1, q2⟩
/-- those of the first k that are left, noted -/
def lnt (I : Nat → Nat → Int32) (J : Nat → Nat → Int64) (k : Nat) (A : Nat → Nat → Int32) (B : Nat → Nat → Int64) : Prop := A 35 24 = Int32.ofNat (cq (lkf I J) k) ∧ ∀ j, j < k → lkf I J j = true → A 49 (cq (lkf I J) j) = Int32.ofNat j ∧ ∀ s, s < 3 → B 50 (3 * cq (lkf I J) j + s) = (xq I J ((ls I J).getD j (0, 0, 0)) (nca I)).1 s ∧ (s < rf_n I → B 51 (3 * cq (lkf I J) j + s) = (xq I J ((ls I J).getD j (0, 0, 0)) (nca I)).2 s)
theorem io_3 (i s : Nat) : (3 : Int32) * Int32.ofNat i + Int32.ofNat s = Int32.ofNat (3 * i + s) := by
  rw [show (3 : Int32) = Int32.ofNat 3 from rfl, io_mul, io_add]
def fl_Q (I : Nat → Nat → Int32) (J : Nat → Nat → Int64) (R : Nat → Nat) (T : List ez_C) : pw_Q := fun r h => ∃ A B, h = ev_hp A B R T ∧ ((¬ sn I 0 * (sn I 1 * sn I 2) ≤ 10000 ∧ r = some (.int 0)) ∨ (sn I 0 * (sn I 1 * sn I 2) ≤ 10000 ∧ (ls I J).length ≤ 10000 ∧ r = some (.int 1) ∧ ∃ W HH, gk I J W HH (rf_n I) (nca I) ∧ rg I J W HH (nca I) A B ∧ lnt I J (ls I J).length A B))
/-- one that is left is noted -/
theorem fl_in {i k l : Nat} {Q : pw_Q} {P H : Nat → Int64} (e24 : A 35 24 = Int32.ofNat i) (hi : i ≤ 10000) (e3 : A 35 3 = Int32.ofNat l) (hl : l ≤ 3) (hP : ∀ s, s < l → B 45 s = P s ∧ B 46 s = H s) (hz : ∀ s, l ≤ s → s < 3 → P s = 0)
    (go : ∀ F1 F2, (∀ q, q < 3 * i → F1 q = B 50 q ∧ F2 q = B 51 q) → (∀ s, s < 3 → F1 (3 * i + s) = P s ∧ (s < l → F2 (3 * i + s) = H s)) → ∀ N, pw N X 188 16 [.ref 35, .int (Int32.ofNat (k + 1))] [] (ev_hp (ev_sI A 35 (upd (A 35) 24 (Int32.ofNat (i + 1)))) (ev_sJ (ev_sJ B 50 F1) 51 F2) R T) Q) :
    ∀ (d s : Nat), s + d = 3 → ∀ F1 F2, (∀ q, q < 3 * i → F1 q = B 50 q ∧ F2 q = B 51 q) → (∀ s', s' < s → F1 (3 * i + s') = P s' ∧ (s' < l → F2 (3 * i + s') = H s')) → ∀ N, pw N X 188 56 [.ref 35, .int (Int32.ofNat k), .int (Int32.ofNat s)] [] (ev_hp A (ev_sJ (ev_sJ B 50 F1) 51 F2) R T) Q := by
  intro d
  induction d with
  | zero =>
    intro s hs F1 F2 h1 h2 N
    obtain rfl : s = 3 := by omega
    refine pw_p (fv_56 ⟨fun _ => ?_, fun g => absurd (by decide) g⟩)
    rw [e24, io_1, io_1]
    exact go F1 F2 h1 h2 N
  | succ d ih =>
    intro s hsd F1 F2 h1 h2 N
    have hs : s < 3 := by omega
    have nxt : ∀ v w, v = P s → (s < l → w = H s) → ∀ N, pw N X 188 56 [.ref 35, .int (Int32.ofNat k), .int (Int32.ofNat s + (1 : Int32))] [] (ev_hp A (ev_sJ (ev_sJ (ev_sJ (ev_sJ B 50 F1) 51 F2) 50 (vp_updL F1 (3 * i + s) v)) 51 (vp_updL F2 (3 * i + s) w)) R T) Q := fun v w hv hw N => by
      rw [sJ_sw (ev_sJ B 50 F1) F2 (vp_updL F1 (3 * i + s) v) (show (51 : Nat) ≠ 50 by decide), sJ2, sJ2, io_1]
      refine ih (s + 1) (by omega) _ _ (fun q hq => ?_) (fun s' hs' => ?_) N
      · rw [pv_n _ _ (by omega), pv_n _ _ (by omega)]
        exact h1 q hq
      · by_cases e : s' = s
        · subst e
          rw [pv_s, pv_s]
          exact ⟨hv, hw⟩
        · rw [pv_n _ _ (by omega), pv_n _ _ (by omega)]
          exact h2 s' (by omega)
    refine pw_p (fv_56 ?_)
    rw [e24, e3, io_3, io_cl (by omega), io_cl (by omega), cx_sJ_s, cx_sJ_n _ _ (show (50 : Nat) ≠ 51 by decide), cx_sJ_s, cx_sJ_n _ _ (show (45 : Nat) ≠ 51 by decide), cx_sJ_n _ _ (show (45 : Nat) ≠ 50 by decide), cx_sJ_n _ _ (show (46 : Nat) ≠ 51 by decide), cx_sJ_n _ _ (show (46 : Nat) ≠ 50 by decide)]
    refine ⟨fun g => ?_, fun _ => ⟨fun g _ => ⟨fun _ _ => ?_, fun g2 => absurd g g2⟩, fun g _ _ => ⟨fun g2 => absurd g2 g, fun _ _ _ => ?_⟩⟩⟩
    · rw [show (3 : Int32) = Int32.ofNat 3 from rfl, io_le (by omega) (by omega)] at g
      omega
    · rw [io_le (by omega) (by omega)] at g
      exact nxt _ _ (hz s g hs).symm (fun z => by omega) N
    · rw [io_le (by omega) (by omega)] at g
      have h3 := hP s (by omega)
      exact nxt _ _ h3.1 (fun _ => h3.2) N
theorem pe_findLeft (h : rl3 I J R1 T1) (hB : cx_hB cx_B0 I) (N : Nat) : pe N X 188 [.ref 35] (ev_hp I J R T) (fl_Q I J R T) := by
  obtain ⟨W, HH, n, hg, ek, ek2⟩ := gk_of h hB
  have enc : nca I = n := by
    unfold nca
    have hn30 : n ≤ 30 := by
      obtain ⟨-, -, -, -, -, -, -, -, -, z, -⟩ := hg
      exact z
    rw [ek, io_ti (by omega)]
    exact Int.toNat_natCast n
  subst enc
  have hr := h.1.1
  have hn30 : nca I ≤ 30 := by
    obtain ⟨-, -, -, -, -, -, -, -, -, z, -⟩ := hg
    exact z
  have hg0 := hg
  obtain ⟨e0, e1, hW, hH, e35, hn3, -⟩ := hg0
  refine pe_of (pw_p (fv_0 ⟨_, pe_laid hr hB _, ?_⟩))
  rintro r h' ⟨I', J', ⟨fI, fJ, fE⟩, ⟨h1, rfl, rfl⟩ | ⟨h1, rfl, w', rfl, hw'⟩⟩
  · refine pw_p (fv_4 ⟨fun z => absurd rfl z, fun _ _ => ⟨I', J', rfl, Or.inl ⟨?_, rfl⟩⟩⟩)
    rw [pr_is hr hB]
    omega
  · have hlen := ly_1l (lm_p (rf_n I) (rf_f J) (rf_g I J)) (lm_q (rf_n I) (rf_f J) (rf_g I J)) (mm (in_n I) (rf_n I) 1) (mm (in_n I) (rf_n I) 2) (mm (in_n I) (rf_n I) 0)
    have hlen2 : (lm_L (rf_n I) (in_n I) (rf_f J) (rf_g I J)).length ≤ 10000 := Nat.le_trans hlen (by rw [pr_mm _ (rf_ns hB).2]; exact h1)
    rw [← ls_is hr h.1.2.1 hB] at hw' hlen2 ⊢
    have hsn : sn I 0 * (sn I 1 * sn I 2) ≤ 10000 := by
      rw [pr_is hr hB]
      exact h1
    obtain ⟨g1, eb, e35k, e14, e41, eI⟩ := al_gk hg fI fJ w' (ls I J).length
    have base : rg I J W HH (nca I) (al_I I' w' (ls I J).length) J' := by
      refine ⟨g1, eb, by rw [e41]; exact hw', fun s hs a ha => ((fE s hs).2 a ha).1, e14, ?_, ?_, eI 44 (by decide) (by decide) (by decide), e35k 0 (by decide), e35k 1 (by decide)⟩
      · rw [e35k 16 (by decide), ek2, ek]
      · rw [e35k 8 (by decide)]
        exact (congrArg (fun K : kt_K => K.2.2.2.2.2.2.2.2.1) hr.1).symm
    have loop : ∀ (d k : Nat), k + d = (ls I J).length → ∀ A B, rg I J W HH (nca I) A B → lnt I J k A B → ∀ N, pw N X 188 16 [.ref 35, .int (Int32.ofNat k)] [] (ev_hp A B R T) (fl_Q I J R T) := by
      intro d
      induction d with
      | zero =>
        intro k hk A B hA hL N
        obtain rfl : k = (ls I J).length := by omega
        refine pw_p (fv_16 ⟨fun _ _ => ⟨A, B, rfl, Or.inr ⟨hsn, hlen2, rfl, W, HH, hg, hA, hL⟩⟩, fun g => ?_⟩)
        rw [hA.2.2.2.2.1] at g
        exact absurd (Int32.le_refl _) g
      | succ d ih =>
        intro k hkd A B hA hL N
        have hk : k < (ls I J).length := by omega
        have hA0 := hA
        obtain ⟨a1, a2, a3, a4, a5, a6, a7, a8, a9, a10⟩ := hA0
        obtain ⟨l1, l2⟩ := hL
        have hpk := pk_ls hr hB (List.getElem_mem hk) e0 e1 hW hH
        have hpq := pk_q (sr := I 2 1) (tg := J 9) (gk_mv hg) hpk (nca I)
        have hxt : ∀ c, c < nca I → xt I J (ls I J)[k] c ≤ 2 := fun c hc => xt_le hg hpk hc
        have hp : lkf I J k = decide (cq (wc I J (ls I J)[k]) (nca I) ≤ (I 2 2).toInt.toNat) := by
          unfold lkf lfB
          rw [ly_gd hk, wr_pc h.2 hxt]
        have ez : cq (lkf I J) (k + 1) = cq (lkf I J) k + (bif lkf I J k then 1 else 0) := rfl
        have hle := cq_le (lkf I J) k
        have hwl := cq_le (wc I J (ls I J)[k]) (nca I)
        have hb22 := b_lie hB
        refine pw_p (fv_16 ⟨fun g => ?_, fun _ => ⟨_, pe_goes2 (m := nca I) h hB hg hA hk hlen2 rfl a6 (Nat.le_refl _), ?_⟩⟩)
        · rw [a5, io_le (by omega) (by omega)] at g
          omega
        rintro r h' ⟨rfl, f, K, G1, G2, rfl, q1, q2⟩
        have c35 : ev_sI A 48 f 35 = A 35 := cx_sI_n _ _ (by decide)
        refine pw_p (fv_33 ⟨_, pe_mwrong (p := wc I J (ls I J)[k]) (n := nca I) (by rw [c35]; exact a6) hn30 (fun c hc => ?_), ?_⟩)
        · rw [cx_sI_n _ _ (show (44 : Nat) ≠ 48 by decide), cx_sI_s, a8, q2 c hc]
          rfl
        rintro r h' ⟨rfl, rfl⟩
        refine pw_p (fv_37 ?_)
        rw [c35, a7, l1, io_1, show I 2 2 = Int32.ofNat (I 2 2).toInt.toNat from io_nat hb22.1, io_lt (by omega) (by omega), io_cl (by omega), cx_sI_n _ _ (show (49 : Nat) ≠ 48 by decide)]
        refine ⟨fun g => ?_, fun g _ => ?_⟩
        · have hf : lkf I J k = false := by rw [hp]; exact decide_eq_false (by omega)
          refine ih (k + 1) (by omega) (ev_sI A 48 f) (ev_sJ (ev_sJ (ev_sJ B 47 K) 45 G1) 46 G2) (rg_c hA (fun a _ h48 _ _ => cx_sI_n _ _ h48) (fun k _ => by rw [c35]) (fun a h5 h6 h7 _ _ => by rw [cx_sJ_n _ _ h6, cx_sJ_n _ _ h5, cx_sJ_n _ _ h7])) ⟨?_, fun j hj hpj => ?_⟩ N
          · rw [c35, l1, ez, hf]
            rfl
          · by_cases e : j = k
            · rw [e, hf] at hpj
              cases hpj
            · rw [cx_sI_n _ _ (show (49 : Nat) ≠ 48 by decide), cx_sJ_n _ _ (show (50 : Nat) ≠ 46 by decide), cx_sJ_n _ _ (show (50 : Nat) ≠ 45 by decide), cx_sJ_n _ _ (show (50 : Nat) ≠ 47 by decide), cx_sJ_n _ _ (show (51 : Nat) ≠ 46 by decide), cx_sJ_n _ _ (show (51 : Nat) ≠ 45 by decide), cx_sJ_n _ _ (show (51 : Nat) ≠ 47 by decide)]
              exact l2 j (by omega) hpj
        · have hf : lkf I J k = true := by rw [hp]; exact decide_eq_true (by omega)
          have c352 : ev_sI (ev_sI A 48 f) 49 (upd (A 49) (cq (lkf I J) k) (Int32.ofNat k)) 35 = A 35 := by rw [cx_sI_n _ _ (by decide), c35]
          have hin := fl_in (X := X) (R := R) (T := T) (Q := fl_Q I J R T) (A := ev_sI (ev_sI A 48 f) 49 (upd (A 49) (cq (lkf I J) k) (Int32.ofNat k))) (B := ev_sJ (ev_sJ (ev_sJ B 47 K) 45 G1) 46 G2) (i := cq (lkf I J) k) (k := k) (l := rf_n I) (P := (xq I J (ls I J)[k] (nca I)).1) (H := (xq I J (ls I J)[k] (nca I)).2) (by rw [c352]; exact l1) (by omega) (by rw [c352]; exact (a1.2.2.2.2.1)) hn3 (fun s hs => by
            rw [cx_sJ_n _ _ (show (45 : Nat) ≠ 46 by decide), cx_sJ_s, cx_sJ_s]
            exact q1 s hs) hpq.2.2 (fun F1 F2 f1 f2 N => ?_) 3 0 (by omega) (B 50) (B 51) (fun q hq => by
            rw [cx_sJ_n _ _ (show (50 : Nat) ≠ 46 by decide), cx_sJ_n _ _ (show (50 : Nat) ≠ 45 by decide), cx_sJ_n _ _ (show (50 : Nat) ≠ 47 by decide), cx_sJ_n _ _ (show (51 : Nat) ≠ 46 by decide), cx_sJ_n _ _ (show (51 : Nat) ≠ 45 by decide), cx_sJ_n _ _ (show (51 : Nat) ≠ 47 by decide)]
            exact ⟨rfl, rfl⟩) (fun s hs => absurd hs (by omega)) N
          · have e5 : ev_sJ (ev_sJ (ev_sJ (ev_sJ (ev_sJ B 47 K) 45 G1) 46 G2) 50 (B 50)) 51 (B 51) = ev_sJ (ev_sJ (ev_sJ B 47 K) 45 G1) 46 G2 := by
              have e50 : ev_sJ (ev_sJ (ev_sJ B 47 K) 45 G1) 46 G2 50 = B 50 := by rw [cx_sJ_n _ _ (show (50 : Nat) ≠ 46 by decide), cx_sJ_n _ _ (show (50 : Nat) ≠ 45 by decide), cx_sJ_n _ _ (show (50 : Nat) ≠ 47 by decide)]
              have e51 : ev_sJ (ev_sJ (ev_sJ B 47 K) 45 G1) 46 G2 51 = B 51 := by rw [cx_sJ_n _ _ (show (51 : Nat) ≠ 46 by decide), cx_sJ_n _ _ (show (51 : Nat) ≠ 45 by decide), cx_sJ_n _ _ (show (51 : Nat) ≠ 47 by decide)]
              rw [← e50, sJ_self, ← e51, sJ_self]
            rw [e5] at hin
            exact hin
          · refine ih (k + 1) (by omega) (ev_sI (ev_sI (ev_sI A 48 f) 49 (upd (A 49) (cq (lkf I J) k) (Int32.ofNat k))) 35 (upd (ev_sI (ev_sI A 48 f) 49 (upd (A 49) (cq (lkf I J) k) (Int32.ofNat k)) 35) 24 (Int32.ofNat (cq (lkf I J) k + 1)))) (ev_sJ (ev_sJ (ev_sJ (ev_sJ (ev_sJ B 47 K) 45 G1) 46 G2) 50 F1) 51 F2) (rg_c hA (fun a h35 h48 h49 _ => by rw [cx_sI_n _ _ h35, cx_sI_n _ _ h49, cx_sI_n _ _ h48]) (fun q hq => by rw [cx_sI_s, upd_n _ _ hq, c352]) (fun a h5 h6 h7 h0 h1 => by rw [cx_sJ_n _ _ h1, cx_sJ_n _ _ h0, cx_sJ_n _ _ h6, cx_sJ_n _ _ h5, cx_sJ_n _ _ h7])) ⟨?_, fun j hj hpj => ?_⟩ N
            · rw [cx_sI_s, upd_s, ez, hf]
              rfl
            · rw [cx_sI_n _ _ (show (49 : Nat) ≠ 35 by decide), cx_sI_s, cx_sJ_n _ _ (show (50 : Nat) ≠ 51 by decide), cx_sJ_s, cx_sJ_s]
              by_cases e : j = k
              · subst e
                rw [upd_s, ly_gd hk]
                exact ⟨rfl, f2⟩
              · have hlt := cq_lt (p := lkf I J) (show j < k by omega) hpj
                rw [upd_n _ _ (by omega)]
                obtain ⟨m1, m2⟩ := l2 j (by omega) hpj
                refine ⟨m1, fun s hs => ?_⟩
                have f3 := f1 (3 * cq (lkf I J) j + s) (by omega)
                rw [f3.1, f3.2, cx_sJ_n _ _ (show (50 : Nat) ≠ 46 by decide), cx_sJ_n _ _ (show (50 : Nat) ≠ 45 by decide), cx_sJ_n _ _ (show (50 : Nat) ≠ 47 by decide), cx_sJ_n _ _ (show (51 : Nat) ≠ 46 by decide), cx_sJ_n _ _ (show (51 : Nat) ≠ 45 by decide), cx_sJ_n _ _ (show (51 : Nat) ≠ 47 by decide)]
                exact m2 s hs
    refine pw_p (fv_4 ⟨fun _ => ?_, fun z => absurd (by decide) z⟩)
    refine loop (ls I J).length 0 (by omega) (ev_sI (al_I I' w' (ls I J).length) 35 (upd (al_I I' w' (ls I J).length 35) 24 (0 : Int32))) J' (rg_c base (fun a h35 _ _ _ => cx_sI_n _ _ h35) (fun q hq => by rw [cx_sI_s, upd_n _ _ hq]) (fun _ _ _ _ _ _ => rfl)) ⟨?_, fun j hj => absurd hj (by omega)⟩ _
    rw [cx_sI_s, upd_s]
    rfl
end
