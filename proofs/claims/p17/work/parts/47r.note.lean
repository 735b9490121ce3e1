/-! The class notes a set in a row that rises. -/
section
variable {N : Nat} {X : ez_X} {I : Nat → Nat → Int32} {J : Nat → Nat → Int64} {R : Nat → Nat} {T : List ez_C} {Q : pw_Q} {cz kz : Nat}
set_option maxRecDepth 100000 in
theorem nt_r0 {a0 : Int32} {a1 : Int64} : ∀ G : ez_F, fx_up X 8 G 91 0 [.ref 3, .int a0, .long a1, ez_fill] [] (ev_hp I J R T) cz kz = ev_C G 3 [.ref 5, .int a0] (ev_hp I J R T) fun r h1 c1 k1 => G 91 15 [.ref 3, .int a0, .long a1, ez_fill, .int ((288 : Int32) * a0)] (r.toList ++ []) h1 (cz + c1) (kz + k1) := by
  intro G
  rfl
set_option maxRecDepth 100000 in
theorem nt_r1 {a0 : Int32} {a1 : Int64} {a2 : Int32} {a3 : Int32} : ∀ G : ez_F, fx_up X 3 G 91 15 [.ref 3, .int a0, .long a1, ez_fill, .int a2] [.int a3] (ev_hp I J R T) cz kz = G 91 21 [.ref 3, .int a0, .long a1, ez_fill, .int a2, .int a3, .int a3] [] (ev_hp I J R T) cz kz := by
  intro G
  rfl
theorem nt_0 {s : Int32} { v : Int64}
    (H : pw N X 91 21 [.ref 3, .int s, .long v, ez_fill, .int ((288 : Int32) * s), .int (ev_at 3 (I 5) s), .int (ev_at 3 (I 5) s)] [] (ev_hp I J R T) Q) : pw (N + 1) X 91 0 [.ref 3, .int s, .long v, ez_fill] [] (ev_hp I J R T) Q := by
  refine pw_callp (by decide) (fun _ _ => nt_r0) (pe_at (show cx_Ds[5]? = some (0, 3, []) from rfl) (by decide)) ?_
  refine pw_p (pw_seg (by decide) (fun _ _ => nt_r1) ?_)
  exact H
set_option maxRecDepth 100000 in
theorem nt_r2 {a0 : Int32} {a1 : Int64} {a2 : Int32} {a3 : Int32} {a4 : Int32} : ∀ G : ez_F, fx_up X 2 G 91 21 [.ref 3, .int a0, .long a1, ez_fill, .int a2, .int a3, .int a4] [] (ev_hp I J R T) cz kz = bif decide (a4 ≤ (0 : Int32)) then G 91 51 [.ref 3, .int a0, .long a1, ez_fill, .int a2, .int a3, .int a4] [] (ev_hp I J R T) cz kz else G 91 26 [.ref 3, .int a0, .long a1, ez_fill, .int a2, .int a3, .int a4] [] (ev_hp I J R T) cz kz := by
  intro G
  rfl
set_option maxRecDepth 100000 in
theorem nt_r3 {a0 : Int32} {a1 : Int64} {a2 : Int32} {a3 : Int32} {a4 : Int32} : ∀ G : ez_F, fx_up X 8 G 91 26 [.ref 3, .int a0, .long a1, ez_fill, .int a2, .int a3, .int a4] [] (ev_hp I J R T) cz kz = ev_C G 4 [.ref 4, .int ((a2 + a4) - (1 : Int32))] (ev_hp I J R T) fun r h1 c1 k1 => G 91 40 [.ref 3, .int a0, .long a1, ez_fill, .int a2, .int a3, .int a4] (r.toList ++ []) h1 (cz + c1) (kz + k1) := by
  intro G
  rfl
set_option maxRecDepth 100000 in
theorem nt_r4 {a0 : Int32} {a1 : Int64} {a2 : Int32} {a3 : Int32} {a4 : Int32} {a5 : Int64} : ∀ G : ez_F, fx_up X 3 G 91 40 [.ref 3, .int a0, .long a1, ez_fill, .int a2, .int a3, .int a4] [.long a5] (ev_hp I J R T) cz kz = bif decide ((lg_cmp a5 a1) < (0 : Int32)) then G 91 51 [.ref 3, .int a0, .long a1, ez_fill, .int a2, .int a3, .int a4] [] (ev_hp I J R T) cz kz else G 91 45 [.ref 3, .int a0, .long a1, ez_fill, .int a2, .int a3, .int a4] [] (ev_hp I J R T) cz kz := by
  intro G
  rfl
set_option maxRecDepth 100000 in
theorem nt_r5 {a0 : Int32} {a1 : Int64} {a2 : Int32} {a3 : Int32} {a4 : Int32} : ∀ G : ez_F, fx_up X 2 G 91 45 [.ref 3, .int a0, .long a1, ez_fill, .int a2, .int a3, .int a4] [] (ev_hp I J R T) cz kz = G 91 21 [.ref 3, .int a0, .long a1, ez_fill, .int a2, .int a3, .int (a4 + (-1 : Int32))] [] (ev_hp I J R T) cz kz := by
  intro G
  rfl
theorem nt_21 {s st he pl : Int32} { v : Int64}
    (H : ((pl ≤ (0 : Int32) → pw N X 91 51 [.ref 3, .int s, .long v, ez_fill, .int st, .int he, .int pl] [] (ev_hp I J R T) Q) ∧ (¬ (pl ≤ (0 : Int32)) → (((lg_cmp (ev_atJ 864 (J 4) ((st + pl) - (1 : Int32))) v) < (0 : Int32) → pw N X 91 51 [.ref 3, .int s, .long v, ez_fill, .int st, .int he, .int pl] [] (ev_hp I J R T) Q) ∧ (¬ ((lg_cmp (ev_atJ 864 (J 4) ((st + pl) - (1 : Int32))) v) < (0 : Int32)) → pw N X 91 21 [.ref 3, .int s, .long v, ez_fill, .int st, .int he, .int (pl + (-1 : Int32))] [] (ev_hp I J R T) Q))))) : pw (N + 1) X 91 21 [.ref 3, .int s, .long v, ez_fill, .int st, .int he, .int pl] [] (ev_hp I J R T) Q := by
  refine pw_if (by decide) (fun _ _ => nt_r2) (fun w1 => ?_) (fun w1 => ?_)
  · have h1 := H.1 w1
    exact h1
  · have h1 := H.2 w1
    refine pw_p (pw_callp (by decide) (fun _ _ => nt_r3) (pe_atJ (show cx_Ds[4]? = some (1, 864, []) from rfl) (by decide)) ?_)
    refine pw_p (pw_if (by decide) (fun _ _ => nt_r4) (fun w2 => ?_) (fun w2 => ?_))
    · have h2 := h1.1 w2
      exact h2
    · have h2 := h1.2 w2
      refine pw_p (pw_seg (by decide) (fun _ _ => nt_r5) ?_)
      exact h2
set_option maxRecDepth 100000 in
theorem nt_r6 {a0 : Int32} {a1 : Int64} {a2 : Int32} {a3 : Int32} {a4 : Int32} : ∀ G : ez_F, fx_up X 3 G 91 51 [.ref 3, .int a0, .long a1, ez_fill, .int a2, .int a3, .int a4] [] (ev_hp I J R T) cz kz = bif decide (a3 ≤ a4) then G 91 79 [.ref 3, .int a0, .long a1, ez_fill, .int a2, .int a3, .int a4] [] (ev_hp I J R T) cz kz else G 91 58 [.ref 3, .int a0, .long a1, ez_fill, .int a2, .int a3, .int a4] [] (ev_hp I J R T) cz kz := by
  intro G
  rfl
set_option maxRecDepth 100000 in
theorem nt_r7 {a0 : Int32} {a1 : Int64} {a2 : Int32} {a3 : Int32} {a4 : Int32} : ∀ G : ez_F, fx_up X 2 G 91 79 [.ref 3, .int a0, .long a1, ez_fill, .int a2, .int a3, .int a4] [] (ev_hp I J R T) cz kz = G 91 82 [.ref 3, .int a0, .long a1, ez_fill, .int a2, .int a3, .int a4, .int (0 : Int32)] [] (ev_hp I J R T) cz kz := by
  intro G
  rfl
set_option maxRecDepth 100000 in
theorem nt_r8 {a0 : Int32} {a1 : Int64} {a2 : Int32} {a3 : Int32} {a4 : Int32} : ∀ G : ez_F, fx_up X 6 G 91 58 [.ref 3, .int a0, .long a1, ez_fill, .int a2, .int a3, .int a4] [] (ev_hp I J R T) cz kz = ev_C G 4 [.ref 4, .int (a2 + a4)] (ev_hp I J R T) fun r h1 c1 k1 => G 91 70 [.ref 3, .int a0, .long a1, ez_fill, .int a2, .int a3, .int a4] (r.toList ++ []) h1 (cz + c1) (kz + k1) := by
  intro G
  rfl
set_option maxRecDepth 100000 in
theorem nt_r9 {a0 : Int32} {a1 : Int64} {a2 : Int32} {a3 : Int32} {a4 : Int32} {a5 : Int64} : ∀ G : ez_F, fx_up X 3 G 91 70 [.ref 3, .int a0, .long a1, ez_fill, .int a2, .int a3, .int a4] [.long a5] (ev_hp I J R T) cz kz = bif decide (¬ (lg_cmp a5 a1) = (0 : Int32)) then G 91 79 [.ref 3, .int a0, .long a1, ez_fill, .int a2, .int a3, .int a4] [] (ev_hp I J R T) cz kz else G 91 75 [.ref 3, .int a0, .long a1, ez_fill, .int a2, .int a3, .int a4] [] (ev_hp I J R T) cz kz := by
  intro G
  rfl
set_option maxRecDepth 100000 in
theorem nt_r10 {a0 : Int32} {a1 : Int64} {a2 : Int32} {a3 : Int32} {a4 : Int32} : ∀ G : ez_F, fx_up X 3 G 91 75 [.ref 3, .int a0, .long a1, ez_fill, .int a2, .int a3, .int a4] [] (ev_hp I J R T) cz kz = G 91 82 [.ref 3, .int a0, .long a1, ez_fill, .int a2, .int a3, .int a4, .int (1 : Int32)] [] (ev_hp I J R T) cz kz := by
  intro G
  rfl
theorem nt_51 {s st he pl : Int32} { v : Int64}
    (H : ((he ≤ pl → pw N X 91 82 [.ref 3, .int s, .long v, ez_fill, .int st, .int he, .int pl, .int (0 : Int32)] [] (ev_hp I J R T) Q) ∧ (¬ (he ≤ pl) → ((¬ (lg_cmp (ev_atJ 864 (J 4) (st + pl)) v) = (0 : Int32) → pw N X 91 82 [.ref 3, .int s, .long v, ez_fill, .int st, .int he, .int pl, .int (0 : Int32)] [] (ev_hp I J R T) Q) ∧ (¬ (¬ (lg_cmp (ev_atJ 864 (J 4) (st + pl)) v) = (0 : Int32)) → pw N X 91 82 [.ref 3, .int s, .long v, ez_fill, .int st, .int he, .int pl, .int (1 : Int32)] [] (ev_hp I J R T) Q))))) : pw (N + 1) X 91 51 [.ref 3, .int s, .long v, ez_fill, .int st, .int he, .int pl] [] (ev_hp I J R T) Q := by
  refine pw_if (by decide) (fun _ _ => nt_r6) (fun w1 => ?_) (fun w1 => ?_)
  · have h1 := H.1 w1
    refine pw_p (pw_seg (by decide) (fun _ _ => nt_r7) ?_)
    exact h1
  · have h1 := H.2 w1
    refine pw_p (pw_callp (by decide) (fun _ _ => nt_r8) (pe_atJ (show cx_Ds[4]? = some (1, 864, []) from rfl) (by decide)) ?_)
    refine pw_p (pw_if (by decide) (fun _ _ => nt_r9) (fun w2 => ?_) (fun w2 => ?_))
    · have h2 := h1.1 w2
      refine pw_p (pw_seg (by decide) (fun _ _ => nt_r7) ?_)
      exact h2
    · have h2 := h1.2 w2
      refine pw_p (pw_seg (by decide) (fun _ _ => nt_r10) ?_)
      exact h2
set_option maxRecDepth 100000 in
theorem nt_r11 {a0 : Int32} {a1 : Int64} {a2 : Int32} {a3 : Int32} {a4 : Int32} {a5 : Int32} : ∀ G : ez_F, fx_up X 2 G 91 82 [.ref 3, .int a0, .long a1, ez_fill, .int a2, .int a3, .int a4, .int a5] [] (ev_hp I J R T) cz kz = bif decide (¬ a5 = (0 : Int32)) then G 91 95 [.ref 3, .int a0, .long a1, ez_fill, .int a2, .int a3, .int a4, .int a5] [] (ev_hp I J R T) cz kz else G 91 87 [.ref 3, .int a0, .long a1, ez_fill, .int a2, .int a3, .int a4, .int a5] [] (ev_hp I J R T) cz kz := by
  intro G
  rfl
set_option maxRecDepth 100000 in
theorem nt_r12 {a0 : Int32} {a1 : Int64} {a2 : Int32} {a3 : Int32} {a4 : Int32} {a5 : Int32} : ∀ G : ez_F, fx_up X 1 G 91 95 [.ref 3, .int a0, .long a1, ez_fill, .int a2, .int a3, .int a4, .int a5] [] (ev_hp I J R T) cz kz = some (none, (ev_hp I J R T), cz, kz) := by
  intro G
  rfl
set_option maxRecDepth 100000 in
theorem nt_r13 {a0 : Int32} {a1 : Int64} {a2 : Int32} {a3 : Int32} {a4 : Int32} {a5 : Int32} : ∀ G : ez_F, fx_up X 3 G 91 87 [.ref 3, .int a0, .long a1, ez_fill, .int a2, .int a3, .int a4, .int a5] [] (ev_hp I J R T) cz kz = bif decide (a3 < (288 : Int32)) then G 91 96 [.ref 3, .int a0, .long a1, ez_fill, .int a2, .int a3, .int a4, .int a5] [] (ev_hp I J R T) cz kz else G 91 95 [.ref 3, .int a0, .long a1, ez_fill, .int a2, .int a3, .int a4, .int a5] [] (ev_hp I J R T) cz kz := by
  intro G
  rfl
set_option maxRecDepth 100000 in
theorem nt_r14 {a0 : Int32} {a1 : Int64} {a2 : Int32} {a3 : Int32} {a4 : Int32} {a5 : Int32} : ∀ G : ez_F, fx_up X 2 G 91 96 [.ref 3, .int a0, .long a1, ez_fill, .int a2, .int a3, .int a4, .int a5] [] (ev_hp I J R T) cz kz = G 91 100 [.ref 3, .int a0, .long a1, ez_fill, .int a2, .int a3, .int a4, .int a5, .int a3] [] (ev_hp I J R T) cz kz := by
  intro G
  rfl
theorem nt_82 {s st he pl kn : Int32} { v : Int64}
    (H : ((¬ kn = (0 : Int32) → Q none (ev_hp I J R T)) ∧ (¬ (¬ kn = (0 : Int32)) → ((he < (288 : Int32) → pw N X 91 100 [.ref 3, .int s, .long v, ez_fill, .int st, .int he, .int pl, .int kn, .int he] [] (ev_hp I J R T) Q) ∧ (¬ (he < (288 : Int32)) → Q none (ev_hp I J R T)))))) : pw (N + 1) X 91 82 [.ref 3, .int s, .long v, ez_fill, .int st, .int he, .int pl, .int kn] [] (ev_hp I J R T) Q := by
  refine pw_if (by decide) (fun _ _ => nt_r11) (fun w1 => ?_) (fun w1 => ?_)
  · have h1 := H.1 w1
    exact pw_p (pw_ret (by decide) (fun _ _ => nt_r12) h1)
  · have h1 := H.2 w1
    refine pw_p (pw_if (by decide) (fun _ _ => nt_r13) (fun w2 => ?_) (fun w2 => ?_))
    · have h2 := h1.1 w2
      refine pw_p (pw_seg (by decide) (fun _ _ => nt_r14) ?_)
      exact h2
    · have h2 := h1.2 w2
      exact pw_p (pw_ret (by decide) (fun _ _ => nt_r12) h2)
set_option maxRecDepth 100000 in
theorem nt_r15 {a0 : Int32} {a1 : Int64} {a2 : Int32} {a3 : Int32} {a4 : Int32} {a5 : Int32} {a6 : Int32} : ∀ G : ez_F, fx_up X 3 G 91 100 [.ref 3, .int a0, .long a1, ez_fill, .int a2, .int a3, .int a4, .int a5, .int a6] [] (ev_hp I J R T) cz kz = bif decide (a6 ≤ a4) then G 91 139 [.ref 3, .int a0, .long a1, ez_fill, .int a2, .int a3, .int a4, .int a5, .int a6] [] (ev_hp I J R T) cz kz else G 91 107 [.ref 3, .int a0, .long a1, ez_fill, .int a2, .int a3, .int a4, .int a5, .int a6] [] (ev_hp I J R T) cz kz := by
  intro G
  rfl
set_option maxRecDepth 100000 in
theorem nt_r16 {a0 : Int32} {a1 : Int64} {a2 : Int32} {a3 : Int32} {a4 : Int32} {a5 : Int32} {a6 : Int32} : ∀ G : ez_F, fx_up X 7 G 91 139 [.ref 3, .int a0, .long a1, ez_fill, .int a2, .int a3, .int a4, .int a5, .int a6] [] (ev_hp I J R T) cz kz = ev_C G 39 [.ref 4, .int (a2 + a4), .long a1] (ev_hp I J R T) fun r h1 c1 k1 => G 91 152 [.ref 3, .int a0, .long a1, ez_fill, .int a2, .int a3, .int a4, .int a5, .int a6] (r.toList ++ []) h1 (cz + c1) (kz + k1) := by
  intro G
  rfl
set_option maxRecDepth 100000 in
theorem nt_r17 {a0 : Int32} {a1 : Int64} {a2 : Int32} {a3 : Int32} {a4 : Int32} {a5 : Int32} {a6 : Int32} : ∀ G : ez_F, fx_up X 7 G 91 152 [.ref 3, .int a0, .long a1, ez_fill, .int a2, .int a3, .int a4, .int a5, .int a6] [] (ev_hp I J R T) cz kz = ev_C G 38 [.ref 5, .int a0, .int (a3 + (1 : Int32))] (ev_hp I J R T) fun r h1 c1 k1 => G 91 164 [.ref 3, .int a0, .long a1, ez_fill, .int a2, .int a3, .int a4, .int a5, .int a6] (r.toList ++ []) h1 (cz + c1) (kz + k1) := by
  intro G
  rfl
set_option maxRecDepth 100000 in
theorem nt_r18 {a0 : Int32} {a1 : Int64} {a2 : Int32} {a3 : Int32} {a4 : Int32} {a5 : Int32} {a6 : Int32} : ∀ G : ez_F, fx_up X 1 G 91 164 [.ref 3, .int a0, .long a1, ez_fill, .int a2, .int a3, .int a4, .int a5, .int a6] [] (ev_hp I J R T) cz kz = some (none, (ev_hp I J R T), cz, kz) := by
  intro G
  rfl
set_option maxRecDepth 100000 in
theorem nt_r19 {a0 : Int32} {a1 : Int64} {a2 : Int32} {a3 : Int32} {a4 : Int32} {a5 : Int32} {a6 : Int32} : ∀ G : ez_F, fx_up X 12 G 91 107 [.ref 3, .int a0, .long a1, ez_fill, .int a2, .int a3, .int a4, .int a5, .int a6] [] (ev_hp I J R T) cz kz = G 91 127 [.ref 3, .int a0, .long a1, ez_fill, .int a2, .int a3, .int a4, .int a5, .int a6] [.int ((a2 + a6) - (1 : Int32)), .ref 4, .int (a2 + a6), .ref 4] (ev_hp I J R T) cz kz := by
  intro G
  rfl
set_option maxRecDepth 100000 in
theorem nt_r20 {a0 : Int32} {a1 : Int64} {a2 : Int32} {a3 : Int32} {a4 : Int32} {a5 : Int32} {a6 : Int32} {a7 : Int32} {a8 : Int32} : ∀ G : ez_F, fx_up X 1 G 91 127 [.ref 3, .int a0, .long a1, ez_fill, .int a2, .int a3, .int a4, .int a5, .int a6] [.int a7, .ref 4, .int a8, .ref 4] (ev_hp I J R T) cz kz = ev_C G 4 [.ref 4, .int a7] (ev_hp I J R T) fun r h1 c1 k1 => G 91 130 [.ref 3, .int a0, .long a1, ez_fill, .int a2, .int a3, .int a4, .int a5, .int a6] (r.toList ++ [.int a8, .ref 4]) h1 (cz + c1) (kz + k1) := by
  intro G
  rfl
set_option maxRecDepth 100000 in
theorem nt_r21 {a0 : Int32} {a1 : Int64} {a2 : Int32} {a3 : Int32} {a4 : Int32} {a5 : Int32} {a6 : Int32} {a7 : Int64} {a8 : Int32} : ∀ G : ez_F, fx_up X 1 G 91 130 [.ref 3, .int a0, .long a1, ez_fill, .int a2, .int a3, .int a4, .int a5, .int a6] [.long a7, .int a8, .ref 4] (ev_hp I J R T) cz kz = ev_C G 39 [.ref 4, .int a8, .long a7] (ev_hp I J R T) fun r h1 c1 k1 => G 91 133 [.ref 3, .int a0, .long a1, ez_fill, .int a2, .int a3, .int a4, .int a5, .int a6] (r.toList ++ []) h1 (cz + c1) (kz + k1) := by
  intro G
  rfl
set_option maxRecDepth 100000 in
theorem nt_r22 {a0 : Int32} {a1 : Int64} {a2 : Int32} {a3 : Int32} {a4 : Int32} {a5 : Int32} {a6 : Int32} : ∀ G : ez_F, fx_up X 2 G 91 133 [.ref 3, .int a0, .long a1, ez_fill, .int a2, .int a3, .int a4, .int a5, .int a6] [] (ev_hp I J R T) cz kz = G 91 100 [.ref 3, .int a0, .long a1, ez_fill, .int a2, .int a3, .int a4, .int a5, .int (a6 + (-1 : Int32))] [] (ev_hp I J R T) cz kz := by
  intro G
  rfl
theorem nt_100 {s st he pl kn i : Int32} { v : Int64}
    (H : ((i ≤ pl → Q none (ev_hp (ev_sI I 5 (ev_put 3 (I 5) s (he + (1 : Int32)))) (ev_sJ J 4 (ev_putJ 864 (J 4) (st + pl) v)) R T)) ∧ (¬ (i ≤ pl) → pw N X 91 100 [.ref 3, .int s, .long v, ez_fill, .int st, .int he, .int pl, .int kn, .int (i + (-1 : Int32))] [] (ev_hp I (ev_sJ J 4 (ev_putJ 864 (J 4) (st + i) (ev_atJ 864 (J 4) ((st + i) - (1 : Int32))))) R T) Q))) : pw (N + 1) X 91 100 [.ref 3, .int s, .long v, ez_fill, .int st, .int he, .int pl, .int kn, .int i] [] (ev_hp I J R T) Q := by
  refine pw_if (by decide) (fun _ _ => nt_r15) (fun w1 => ?_) (fun w1 => ?_)
  · have h1 := H.1 w1
    refine pw_p (pw_callp (by decide) (fun _ _ => nt_r16) (pe_putJ (show cx_Ds[4]? = some (1, 864, []) from rfl) (by decide)) ?_)
    refine pw_p (pw_callp (by decide) (fun _ _ => nt_r17) (pe_put (show cx_Ds[5]? = some (0, 3, []) from rfl) (by decide)) ?_)
    exact pw_p (pw_ret (by decide) (fun _ _ => nt_r18) h1)
  · have h1 := H.2 w1
    refine pw_p (pw_seg (by decide) (fun _ _ => nt_r19) ?_)
    refine pw_p (pw_callp (by decide) (fun _ _ => nt_r20) (pe_atJ (show cx_Ds[4]? = some (1, 864, []) from rfl) (by decide)) ?_)
    refine pw_p (pw_callp (by decide) (fun _ _ => nt_r21) (pe_putJ (show cx_Ds[4]? = some (1, 864, []) from rfl) (by decide)) ?_)
    refine pw_p (pw_seg (by decide) (fun _ _ => nt_r22) ?_)
    exact h1
end
section
variable {N : Nat} {X : ez_X} {I : Nat → Nat → Int32} {J : Nat → Nat → Int64} {R : Nat → Nat} {T : List ez_C} {v : Int64}
theorem i_288 {s : Nat} : (288 : Int32) * Int32.ofNat s = Int32.ofNat (288 * s) := io_mul 288 s
theorem io_dec {k : Nat} (h : 0 < k) : Int32.ofNat k + (-1 : Int32) = Int32.ofNat (k - 1) := by
  have e : Int32.ofNat k = Int32.ofNat (k - 1) + 1 := by
    rw [show (1 : Int32) = Int32.ofNat 1 from rfl, io_add]
    congr 1
    omega
  rw [e, Int32.add_assoc, show (1 : Int32) + (-1 : Int32) = 0 from by decide, Int32.add_zero]
theorem io_1 (k : Nat) : Int32.ofNat k + (1 : Int32) = Int32.ofNat (k + 1) := io_add k 1
theorem io_le0 {k : Nat} (h : k < 2147483648) : Int32.ofNat k ≤ (0 : Int32) ↔ k = 0 := by
  rw [show (0 : Int32) = Int32.ofNat 0 from rfl, io_le h (by omega)]
  omega
/-- the row behind a set that is noted -/
def nt_row (f : Nat → Int64) (s n : Nat) (v : Int64) (f' : Nat → Int64) (n' : Nat) : Prop := srt f' (288 * s) n' ∧ n' ≤ 288 ∧ (∀ w, inrow f' (288 * s) n' w ↔ inrow f (288 * s) n w ∨ w = v) ∧ ∀ q, q < 288 * s ∨ 288 * s + 288 ≤ q → f' q = f q
def nt_Q (I : Nat → Nat → Int32) (J : Nat → Nat → Int64) (R : Nat → Nat) (T : List ez_C) (s n : Nat) (v : Int64) : pw_Q := fun r h => r = none ∧ ∃ f' n', h = ev_hp (ev_sI I 5 (upd (I 5) s (Int32.ofNat n'))) (ev_sJ J 4 f') R T ∧ nt_row (J 4) s n v f' n'
theorem nt_shift {s n k : Nat} {kn : Int32} {f : Nat → Int64} (hs : s < 3) (hk : k ≤ n) (hn : n < 288) (hf : J 4 = f) (hI : I 5 s = Int32.ofNat n) (hsr : srt f (288 * s) n) (hi : ∀ a : Nat, k ≤ a → a < n → v.toInt < (f (288 * s + a)).toInt) (lo : k = 0 ∨ (f (288 * s + (k - 1))).toInt < v.toInt) :
    ∀ (N i : Nat), k ≤ i → i ≤ n → pw N X 91 100 [.ref 3, .int (Int32.ofNat s), .long v, ez_fill, .int (Int32.ofNat (288 * s)), .int (Int32.ofNat n), .int (Int32.ofNat k), .int kn, .int (Int32.ofNat i)] [] (ev_hp I (ev_sJ J 4 (rw_sh f (288 * s) i n)) R T) (nt_Q I J R T s n v) := by
  intro N
  induction N with
  | zero => exact fun i _ _ => pw_0
  | succ N ih =>
    intro i h1 h2
    refine nt_100 ⟨fun w => ?_, fun w => ?_⟩
    · rw [io_le (by omega) (by omega)] at w
      obtain rfl : i = k := by omega
      rw [io_add, cx_sJ_s, putJ_in (by omega) (by omega), put_in hs (by omega), io_1, fs_sJ2]
      exact ⟨rfl, _, _, rfl, srt_ins hsr hk hi lo, by omega, fun w => by rw [hf]; exact in_ins hk w, fun q hq => by rw [hf]; exact rw_ins_out f v hk (by omega)⟩
    · rw [io_le (by omega) (by omega)] at w
      rw [io_dec (by omega), io_add, show (1 : Int32) = Int32.ofNat 1 from rfl, io_sub (by omega), cx_sJ_s, putJ_in (by omega) (by omega), atJ_in (by omega) (by omega), rw_sh_1 f (288 * s) i n (by omega) h2, fs_sJ2]
      exact ih (i - 1) (by omega) (by omega)
theorem pe_note {s n : Nat} (hs : s < 3) (hI : I 5 s = Int32.ofNat n) (hn : n ≤ 288) (hsr : srt (J 4) (288 * s) n) (hb : ¬ inrow (J 4) (288 * s) n v → n < 288) : pe N X 91 [.ref 3, .int (Int32.ofNat s), .long v] (ev_hp I J R T) (nt_Q I J R T s n v) := by
  -- from the place on
  have rest : ∀ (N k : Nat), k ≤ n → (∀ a : Nat, k ≤ a → a < n → v.toInt ≤ (J 4 (288 * s + a)).toInt) → (k = 0 ∨ (J 4 (288 * s + (k - 1))).toInt < v.toInt) →
      pw N X 91 51 [.ref 3, .int (Int32.ofNat s), .long v, ez_fill, .int (Int32.ofNat (288 * s)), .int (Int32.ofNat n), .int (Int32.ofNat k)] [] (ev_hp I J R T) (nt_Q I J R T s n v) := by
    intro N k hk hi lo
    have new : ¬ inrow (J 4) (288 * s) n v → pw N X 91 82 [.ref 3, .int (Int32.ofNat s), .long v, ez_fill, .int (Int32.ofNat (288 * s)), .int (Int32.ofNat n), .int (Int32.ofNat k), .int (0 : Int32)] [] (ev_hp I J R T) (nt_Q I J R T s n v) := by
      intro hin
      have hn2 := hb hin
      refine pw_p (nt_82 ⟨fun w => absurd rfl w, fun _ => ⟨fun _ => ?_, fun w => ?_⟩⟩)
      · have h := nt_shift (X := X) (I := I) (J := J) (R := R) (T := T) (v := v) (kn := 0) hs hk hn2 rfl hI hsr (fun a h1 h2 => ?_) lo N n hk (Nat.le_refl n)
        · rw [rw_sh_0, fs_sJ_self] at h
          exact h
        · have h3 := hi a h1 h2
          have h4 : ¬ (J 4 (288 * s + a)).toInt = v.toInt := fun e => hin ⟨a, h2, Int64.toInt_inj.mp e⟩
          omega
      · rw [show (288 : Int32) = Int32.ofNat 288 from rfl, io_lt (by omega) (by omega)] at w
        omega
    refine pw_p (nt_51 ⟨fun w => ?_, fun w => ⟨fun w2 => ?_, fun w2 => ?_⟩⟩)
    · rw [io_le (by omega) (by omega)] at w
      refine new ?_
      rintro ⟨a, ha, e⟩
      have := srt_below hsr hk lo a (by omega)
      rw [e] at this
      omega
    · rw [io_le (by omega) (by omega)] at w
      rw [lg_eq, io_add, atJ_in (by omega) (by omega)] at w2
      refine new ?_
      rintro ⟨a, ha, e⟩
      by_cases h1 : a < k
      · have := srt_below hsr hk lo a h1
        rw [e] at this
        omega
      · have h2 := hi k (Nat.le_refl k) (by omega)
        by_cases h3 : a = k
        · rw [h3] at e
          exact w2 e
        · have h4 := hsr k a (by omega) ha
          rw [e] at h4
          omega
    · rw [io_le (by omega) (by omega)] at w
      have w3 := Classical.not_not.mp w2
      rw [lg_eq, io_add, atJ_in (by omega) (by omega)] at w3
      refine pw_p (nt_82 ⟨fun _ => ?_, fun w => absurd (by decide) w⟩)
      refine ⟨rfl, J 4, n, by rw [fs_sJ_self, ← hI, upd_self, sI_self], hsr, hn, fun w => ⟨Or.inl, ?_⟩, fun _ _ => rfl⟩
      rintro (h | rfl)
      · exact h
      · exact ⟨k, by omega, w3⟩
  -- to the place
  have loop : ∀ (N k : Nat), k ≤ n → (∀ a : Nat, k ≤ a → a < n → v.toInt ≤ (J 4 (288 * s + a)).toInt) →
      pw N X 91 21 [.ref 3, .int (Int32.ofNat s), .long v, ez_fill, .int (Int32.ofNat (288 * s)), .int (Int32.ofNat n), .int (Int32.ofNat k)] [] (ev_hp I J R T) (nt_Q I J R T s n v) := by
    intro N
    induction N with
    | zero => exact fun i _ _ => pw_0
    | succ N ih =>
      intro k hk hi
      refine nt_21 ⟨fun w => ?_, fun w => ⟨fun w2 => ?_, fun w2 => ?_⟩⟩
      · rw [io_le0 (by omega)] at w
        exact rest N k hk hi (Or.inl w)
      · rw [io_le0 (by omega)] at w
        rw [lg_lt, io_add, show (1 : Int32) = Int32.ofNat 1 from rfl, io_sub (by omega), atJ_in (by omega) (by omega)] at w2
        exact rest N k hk hi (Or.inr (by rw [show 288 * s + (k - 1) = 288 * s + k - 1 by omega]; exact w2))
      · rw [io_le0 (by omega)] at w
        rw [lg_lt, io_add, show (1 : Int32) = Int32.ofNat 1 from rfl, io_sub (by omega), atJ_in (by omega) (by omega)] at w2
        rw [io_dec (by omega)]
        refine ih (k - 1) (by omega) fun a h1 h2 => ?_
        by_cases h3 : a = k - 1
        · rw [h3, show 288 * s + (k - 1) = 288 * s + k - 1 by omega]
          omega
        · exact hi a (by omega) h2
  refine pe_of (pw_p (nt_0 ?_))
  rw [i_288, at_in hs (by omega), hI]
  exact loop N n (Nat.le_refl n) fun a h1 h2 => by omega
end
