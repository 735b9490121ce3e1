/-! The class builds a ship: all its spots, in order. -/
section
variable {N : Nat} {X : ez_X} {I : Nat → Nat → Int32} {J : Nat → Nat → Int64} {R : Nat → Nat} {T : List ez_C} {Q : pw_Q} {cz kz : Nat}
set_option maxRecDepth 100000 in
theorem ne_r0 {a0 : Int32} {a1 : Int32} : ∀ G : ez_F, fx_up X 2 G 92 0 [.ref 3, .int a0, .int a1] [] (ev_hp I J R T) cz kz = G 92 3 [.ref 3, .int a0, .int a1, .int (-3 : Int32)] [] (ev_hp I J R T) cz kz := by
  intro G
  rfl
theorem ne_0 {s p : Nat}
    (H : pw N X 92 3 [.ref 3, .int (Int32.ofNat s), .int (Int32.ofNat p), .int (-3 : Int32)] [] (ev_hp I J R T) Q) : pw (N + 1) X 92 0 [.ref 3, .int (Int32.ofNat s), .int (Int32.ofNat p)] [] (ev_hp I J R T) Q := by
  refine pw_seg (by decide) (fun _ _ => ne_r0) ?_
  exact H
set_option maxRecDepth 100000 in
theorem ne_r1 {a0 : Int32} {a1 : Int32} {a2 : Int32} : ∀ G : ez_F, fx_up X 4 G 92 3 [.ref 3, .int a0, .int a1, .int a2] [] (ev_hp I J R T) cz kz = G 92 11 [.ref 3, .int a0, .int a1, .int a2] [.int (I 1 4), .int a2] (ev_hp I J R T) cz kz := by
  intro G
  rfl
set_option maxRecDepth 100000 in
theorem ne_r2 {a0 : Int32} {a1 : Int32} {a2 : Int32} {a3 : Int32} {a4 : Int32} : ∀ G : ez_F, fx_up X 1 G 92 11 [.ref 3, .int a0, .int a1, .int a2] [.int a3, .int a4] (ev_hp I J R T) cz kz = bif decide (a3 ≤ a4) then G 92 69 [.ref 3, .int a0, .int a1, .int a2] [] (ev_hp I J R T) cz kz else G 92 14 [.ref 3, .int a0, .int a1, .int a2] [] (ev_hp I J R T) cz kz := by
  intro G
  rfl
set_option maxRecDepth 100000 in
theorem ne_r3 {a0 : Int32} {a1 : Int32} {a2 : Int32} : ∀ G : ez_F, fx_up X 1 G 92 69 [.ref 3, .int a0, .int a1, .int a2] [] (ev_hp I J R T) cz kz = some (none, (ev_hp I J R T), cz, kz) := by
  intro G
  rfl
set_option maxRecDepth 100000 in
theorem ne_r4 {a0 : Int32} {a1 : Int32} {a2 : Int32} : ∀ G : ez_F, fx_up X 2 G 92 14 [.ref 3, .int a0, .int a1, .int a2] [] (ev_hp I J R T) cz kz = G 92 18 [.ref 3, .int a0, .int a1, .int a2, .int (-3 : Int32)] [] (ev_hp I J R T) cz kz := by
  intro G
  rfl
theorem ne_3 {s p : Nat} {y : Int32}
    (H : (((I 1 4) ≤ y → Q none (ev_hp I J R T)) ∧ (¬ ((I 1 4) ≤ y) → pw N X 92 18 [.ref 3, .int (Int32.ofNat s), .int (Int32.ofNat p), .int y, .int (-3 : Int32)] [] (ev_hp I J R T) Q))) : pw (N + 1) X 92 3 [.ref 3, .int (Int32.ofNat s), .int (Int32.ofNat p), .int y] [] (ev_hp I J R T) Q := by
  refine pw_seg (by decide) (fun _ _ => ne_r1) ?_
  refine pw_p (pw_if (by decide) (fun _ _ => ne_r2) (fun w1 => ?_) (fun w1 => ?_))
  · have h1 := H.1 w1
    exact pw_p (pw_ret (by decide) (fun _ _ => ne_r3) h1)
  · have h1 := H.2 w1
    refine pw_p (pw_seg (by decide) (fun _ _ => ne_r4) ?_)
    exact h1
set_option maxRecDepth 100000 in
theorem ne_r5 {a0 : Int32} {a1 : Int32} {a2 : Int32} {a3 : Int32} : ∀ G : ez_F, fx_up X 4 G 92 18 [.ref 3, .int a0, .int a1, .int a2, .int a3] [] (ev_hp I J R T) cz kz = G 92 27 [.ref 3, .int a0, .int a1, .int a2, .int a3] [.int (I 1 3), .int a3] (ev_hp I J R T) cz kz := by
  intro G
  rfl
set_option maxRecDepth 100000 in
theorem ne_r6 {a0 : Int32} {a1 : Int32} {a2 : Int32} {a3 : Int32} {a4 : Int32} {a5 : Int32} : ∀ G : ez_F, fx_up X 1 G 92 27 [.ref 3, .int a0, .int a1, .int a2, .int a3] [.int a4, .int a5] (ev_hp I J R T) cz kz = bif decide (a4 ≤ a5) then G 92 63 [.ref 3, .int a0, .int a1, .int a2, .int a3] [] (ev_hp I J R T) cz kz else G 92 30 [.ref 3, .int a0, .int a1, .int a2, .int a3] [] (ev_hp I J R T) cz kz := by
  intro G
  rfl
set_option maxRecDepth 100000 in
theorem ne_r7 {a0 : Int32} {a1 : Int32} {a2 : Int32} {a3 : Int32} : ∀ G : ez_F, fx_up X 2 G 92 63 [.ref 3, .int a0, .int a1, .int a2, .int a3] [] (ev_hp I J R T) cz kz = G 92 3 [.ref 3, .int a0, .int a1, .int (a2 + (1 : Int32)), .int a3] [] (ev_hp I J R T) cz kz := by
  intro G
  rfl
set_option maxRecDepth 100000 in
theorem ne_r8 {a0 : Int32} {a1 : Int32} {a2 : Int32} {a3 : Int32} : ∀ G : ez_F, fx_up X 6 G 92 30 [.ref 3, .int a0, .int a1, .int a2, .int a3] [] (ev_hp I J R T) cz kz = ev_C G 149 [.ref 1, .int a1, .int a3, .int a2] (ev_hp I J R T) fun r h1 c1 k1 => G 92 41 [.ref 3, .int a0, .int a1, .int a2, .int a3] (r.toList ++ []) h1 (cz + c1) (kz + k1) := by
  intro G
  rfl
set_option maxRecDepth 100000 in
theorem ne_r9 {a0 : Int32} {a1 : Int32} {a2 : Int32} {a3 : Int32} {a4 : Int64} : ∀ G : ez_F, fx_up X 5 G 92 41 [.ref 3, .int a0, .int a1, .int a2, .int a3] [.long a4] (ev_hp I J R T) cz kz = bif decide ((lg_cmp a4 (0 : Int64)) = (0 : Int32)) then G 92 57 [.ref 3, .int a0, .int a1, .int a2, .int a3, .long a4, ez_fill] [] (ev_hp I J R T) cz kz else G 92 50 [.ref 3, .int a0, .int a1, .int a2, .int a3, .long a4, ez_fill] [] (ev_hp I J R T) cz kz := by
  intro G
  rfl
set_option maxRecDepth 100000 in
theorem ne_r10 {a0 : Int32} {a1 : Int32} {a2 : Int32} {a3 : Int32} {a4 : Int64} : ∀ G : ez_F, fx_up X 2 G 92 57 [.ref 3, .int a0, .int a1, .int a2, .int a3, .long a4, ez_fill] [] (ev_hp I J R T) cz kz = G 92 18 [.ref 3, .int a0, .int a1, .int a2, .int (a3 + (1 : Int32)), .long a4, ez_fill] [] (ev_hp I J R T) cz kz := by
  intro G
  rfl
set_option maxRecDepth 100000 in
theorem ne_r11 {a0 : Int32} {a1 : Int32} {a2 : Int32} {a3 : Int32} {a4 : Int64} : ∀ G : ez_F, fx_up X 4 G 92 50 [.ref 3, .int a0, .int a1, .int a2, .int a3, .long a4, ez_fill] [] (ev_hp I J R T) cz kz = ev_C G 91 [.ref 3, .int a0, .long a4] (ev_hp I J R T) fun r h1 c1 k1 => G 92 57 [.ref 3, .int a0, .int a1, .int a2, .int a3, .long a4, ez_fill] (r.toList ++ []) h1 (cz + c1) (kz + k1) := by
  intro G
  rfl
theorem ne_18 {s p : Nat} {y x : Int32}
    (H : (((I 1 3) ≤ x → pw N X 92 3 [.ref 3, .int (Int32.ofNat s), .int (Int32.ofNat p), .int (y + (1 : Int32))] [] (ev_hp I J R T) Q) ∧ (¬ ((I 1 3) ≤ x) → (((lg_cmp (pd_F (I 1 3) (I 1 4) (I 1 5) (Int32.ofNat p) x y 16 0 0) (0 : Int64)) = (0 : Int32) → pw N X 92 18 [.ref 3, .int (Int32.ofNat s), .int (Int32.ofNat p), .int y, .int (x + (1 : Int32))] [] (ev_hp I J R T) Q) ∧ (¬ ((lg_cmp (pd_F (I 1 3) (I 1 4) (I 1 5) (Int32.ofNat p) x y 16 0 0) (0 : Int64)) = (0 : Int32)) → (∃ Q1 : pw_Q, pe N X 91 [.ref 3, .int (Int32.ofNat s), .long (pd_F (I 1 3) (I 1 4) (I 1 5) (Int32.ofNat p) x y 16 0 0)] (ev_hp I J R T) Q1 ∧ ∀ (r : Option Value) (h1 : ez_H), Q1 r h1 → pw N X 92 57 [.ref 3, .int (Int32.ofNat s), .int (Int32.ofNat p), .int y, .int x, .long (pd_F (I 1 3) (I 1 4) (I 1 5) (Int32.ofNat p) x y 16 0 0), ez_fill] (r.toList ++ []) h1 Q)))))) : pw (N + 1) X 92 18 [.ref 3, .int (Int32.ofNat s), .int (Int32.ofNat p), .int y, .int x] [] (ev_hp I J R T) Q := by
  refine pw_seg (by decide) (fun _ _ => ne_r5) ?_
  refine pw_p (pw_if (by decide) (fun _ _ => ne_r6) (fun w1 => ?_) (fun w1 => ?_))
  · have h1 := H.1 w1
    refine pw_p (pw_seg (by decide) (fun _ _ => ne_r7) ?_)
    refine pw_cutl (by rfl) ?_
    exact h1
  · have h1 := H.2 w1
    refine pw_p (pw_callp (by decide) (fun _ _ => ne_r8) (pe_is (ex_placed _ _ _ _ _ _ _ _)) ?_)
    refine pw_p (pw_if (by decide) (fun _ _ => ne_r9) (fun w2 => ?_) (fun w2 => ?_))
    · have h2 := h1.1 w2
      refine pw_p (pw_seg (by decide) (fun _ _ => ne_r10) ?_)
      refine pw_cutl (by rfl) ?_
      exact h2
    · have h2 := h1.2 w2
      obtain ⟨Q1, hc, hk⟩ := h2
      exact pw_p (pw_call (by decide) (fun _ _ => ne_r11) hc hk)
theorem ne_57 {s p : Nat} {y x : Int32} {v : Int64}
    (H : pw N X 92 18 [.ref 3, .int (Int32.ofNat s), .int (Int32.ofNat p), .int y, .int (x + (1 : Int32))] [] (ev_hp I J R T) Q) : pw (N + 1) X 92 57 [.ref 3, .int (Int32.ofNat s), .int (Int32.ofNat p), .int y, .int x, .long v, ez_fill] [] (ev_hp I J R T) Q := by
  refine pw_seg (by decide) (fun _ _ => ne_r10) ?_
  refine pw_cutl (by rfl) ?_
  exact H
end
section
variable {N : Nat} {X : ez_X} {I : Nat → Nat → Int32} {J : Nat → Nat → Int64} {R : Nat → Nat} {T : List ez_C} {Q : pw_Q} {cz kz : Nat}
set_option maxRecDepth 100000 in
theorem bd_r0 {a0 : Int32} {a1 : Int32} : ∀ G : ez_F, fx_up X 2 G 85 0 [.ref 3, .int a0, .int a1] [] (ev_hp I J R T) cz kz = G 85 4 [.ref 3, .int a0, .int a1] [.int (I 3 3)] (ev_hp I J R T) cz kz := by
  intro G
  rfl
set_option maxRecDepth 100000 in
theorem bd_r1 {a0 : Int32} {a1 : Int32} {a2 : Int32} : ∀ G : ez_F, fx_up X 6 G 85 4 [.ref 3, .int a0, .int a1] [.int a2] (ev_hp I J R T) cz kz = ev_C G 38 [.ref 5, .int a2, .int (0 : Int32)] (ev_hp I J R T) fun r h1 c1 k1 => G 85 14 [.ref 3, .int a0, .int a1, .int a2] (r.toList ++ []) h1 (cz + c1) (kz + k1) := by
  intro G
  rfl
set_option maxRecDepth 100000 in
theorem bd_r2 {a0 : Int32} {a1 : Int32} {a2 : Int32} : ∀ G : ez_F, fx_up X 4 G 85 14 [.ref 3, .int a0, .int a1, .int a2] [] (ev_hp I J R T) cz kz = G 85 20 [.ref 3, .int a0, .int a1, .int a2, .int a0, .int (0 : Int32)] [] (ev_hp I J R T) cz kz := by
  intro G
  rfl
theorem bd_0 {p t : Nat}
    (H : pw N X 85 20 [.ref 3, .int (Int32.ofNat p), .int (Int32.ofNat t), .int (I 3 3), .int (Int32.ofNat p), .int (0 : Int32)] [] (ev_hp (ev_sI I 5 (ev_put 3 (I 5) (I 3 3) (0 : Int32))) J R T) Q) : pw (N + 1) X 85 0 [.ref 3, .int (Int32.ofNat p), .int (Int32.ofNat t)] [] (ev_hp I J R T) Q := by
  refine pw_seg (by decide) (fun _ _ => bd_r0) ?_
  refine pw_p (pw_callp (by decide) (fun _ _ => bd_r1) (pe_put (show cx_Ds[5]? = some (0, 3, []) from rfl) (by decide)) ?_)
  refine pw_p (pw_seg (by decide) (fun _ _ => bd_r2) ?_)
  exact H
set_option maxRecDepth 100000 in
theorem bd_r3 {a0 : Int32} {a1 : Int32} {a2 : Int32} {a3 : Int32} {a4 : Int32} : ∀ G : ez_F, fx_up X 4 G 85 20 [.ref 3, .int a0, .int a1, .int a2, .int a3, .int a4] [] (ev_hp I J R T) cz kz = bif decide (¬ a1 = (2 : Int32)) then G 85 31 [.ref 3, .int a0, .int a1, .int a2, .int a3, .int a4] [.int a4] (ev_hp I J R T) cz kz else G 85 27 [.ref 3, .int a0, .int a1, .int a2, .int a3, .int a4] [.int a4] (ev_hp I J R T) cz kz := by
  intro G
  rfl
set_option maxRecDepth 100000 in
theorem bd_r4 {a0 : Int32} {a1 : Int32} {a2 : Int32} {a3 : Int32} {a4 : Int32} {a5 : Int32} : ∀ G : ez_F, fx_up X 2 G 85 31 [.ref 3, .int a0, .int a1, .int a2, .int a3, .int a4] [.int a5] (ev_hp I J R T) cz kz = bif decide ((1 : Int32) ≤ a5) then G 85 85 [.ref 3, .int a0, .int a1, .int a2, .int a3, .int a4] [] (ev_hp I J R T) cz kz else G 85 35 [.ref 3, .int a0, .int a1, .int a2, .int a3, .int a4] [] (ev_hp I J R T) cz kz := by
  intro G
  rfl
set_option maxRecDepth 100000 in
theorem bd_r5 {a0 : Int32} {a1 : Int32} {a2 : Int32} {a3 : Int32} {a4 : Int32} : ∀ G : ez_F, fx_up X 2 G 85 35 [.ref 3, .int a0, .int a1, .int a2, .int a3, .int a4] [] (ev_hp I J R T) cz kz = G 85 38 [.ref 3, .int a0, .int a1, .int a2, .int a3, .int a4, .int (0 : Int32)] [] (ev_hp I J R T) cz kz := by
  intro G
  rfl
set_option maxRecDepth 100000 in
theorem bd_r6 {a0 : Int32} {a1 : Int32} {a2 : Int32} {a3 : Int32} {a4 : Int32} {a5 : Int32} : ∀ G : ez_F, fx_up X 3 G 85 27 [.ref 3, .int a0, .int a1, .int a2, .int a3, .int a4] [.int a5] (ev_hp I J R T) cz kz = bif decide ((2 : Int32) ≤ a5) then G 85 85 [.ref 3, .int a0, .int a1, .int a2, .int a3, .int a4] [] (ev_hp I J R T) cz kz else G 85 35 [.ref 3, .int a0, .int a1, .int a2, .int a3, .int a4] [] (ev_hp I J R T) cz kz := by
  intro G
  rfl
theorem bd_20 {p t s w : Nat} {e : Int32}
    (H : ((¬ (Int32.ofNat t) = (2 : Int32) → (((1 : Int32) ≤ e → pw N X 85 85 [.ref 3, .int (Int32.ofNat p), .int (Int32.ofNat t), .int (Int32.ofNat s), .int (Int32.ofNat w), .int e] [] (ev_hp I J R T) Q) ∧ (¬ ((1 : Int32) ≤ e) → pw N X 85 38 [.ref 3, .int (Int32.ofNat p), .int (Int32.ofNat t), .int (Int32.ofNat s), .int (Int32.ofNat w), .int e, .int (0 : Int32)] [] (ev_hp I J R T) Q))) ∧ (¬ (¬ (Int32.ofNat t) = (2 : Int32)) → (((2 : Int32) ≤ e → pw N X 85 85 [.ref 3, .int (Int32.ofNat p), .int (Int32.ofNat t), .int (Int32.ofNat s), .int (Int32.ofNat w), .int e] [] (ev_hp I J R T) Q) ∧ (¬ ((2 : Int32) ≤ e) → pw N X 85 38 [.ref 3, .int (Int32.ofNat p), .int (Int32.ofNat t), .int (Int32.ofNat s), .int (Int32.ofNat w), .int e, .int (0 : Int32)] [] (ev_hp I J R T) Q))))) : pw (N + 1) X 85 20 [.ref 3, .int (Int32.ofNat p), .int (Int32.ofNat t), .int (Int32.ofNat s), .int (Int32.ofNat w), .int e] [] (ev_hp I J R T) Q := by
  refine pw_if (by decide) (fun _ _ => bd_r3) (fun w1 => ?_) (fun w1 => ?_)
  · have h1 := H.1 w1
    refine pw_p (pw_if (by decide) (fun _ _ => bd_r4) (fun w2 => ?_) (fun w2 => ?_))
    · have h2 := h1.1 w2
      exact h2
    · have h2 := h1.2 w2
      refine pw_p (pw_seg (by decide) (fun _ _ => bd_r5) ?_)
      exact h2
  · have h1 := H.2 w1
    refine pw_p (pw_if (by decide) (fun _ _ => bd_r6) (fun w2 => ?_) (fun w2 => ?_))
    · have h2 := h1.1 w2
      exact h2
    · have h2 := h1.2 w2
      refine pw_p (pw_seg (by decide) (fun _ _ => bd_r5) ?_)
      exact h2
set_option maxRecDepth 100000 in
theorem bd_r7 {a0 : Int32} {a1 : Int32} {a2 : Int32} {a3 : Int32} {a4 : Int32} {a5 : Int32} : ∀ G : ez_F, fx_up X 3 G 85 38 [.ref 3, .int a0, .int a1, .int a2, .int a3, .int a4, .int a5] [] (ev_hp I J R T) cz kz = bif decide (¬ a1 = (0 : Int32)) then G 85 48 [.ref 3, .int a0, .int a1, .int a2, .int a3, .int a4, .int a5] [.int a5] (ev_hp I J R T) cz kz else G 85 44 [.ref 3, .int a0, .int a1, .int a2, .int a3, .int a4, .int a5] [.int a5] (ev_hp I J R T) cz kz := by
  intro G
  rfl
set_option maxRecDepth 100000 in
theorem bd_r8 {a0 : Int32} {a1 : Int32} {a2 : Int32} {a3 : Int32} {a4 : Int32} {a5 : Int32} {a6 : Int32} : ∀ G : ez_F, fx_up X 2 G 85 48 [.ref 3, .int a0, .int a1, .int a2, .int a3, .int a4, .int a5] [.int a6] (ev_hp I J R T) cz kz = bif decide ((4 : Int32) ≤ a6) then G 85 72 [.ref 3, .int a0, .int a1, .int a2, .int a3, .int a4, .int a5] [] (ev_hp I J R T) cz kz else G 85 52 [.ref 3, .int a0, .int a1, .int a2, .int a3, .int a4, .int a5] [] (ev_hp I J R T) cz kz := by
  intro G
  rfl
set_option maxRecDepth 100000 in
theorem bd_r9 {a0 : Int32} {a1 : Int32} {a2 : Int32} {a3 : Int32} {a4 : Int32} {a5 : Int32} : ∀ G : ez_F, fx_up X 4 G 85 52 [.ref 3, .int a0, .int a1, .int a2, .int a3, .int a4, .int a5] [] (ev_hp I J R T) cz kz = ev_C G 92 [.ref 3, .int a2, .int a3] (ev_hp I J R T) fun r h1 c1 k1 => G 85 59 [.ref 3, .int a0, .int a1, .int a2, .int a3, .int a4, .int a5] (r.toList ++ []) h1 (cz + c1) (kz + k1) := by
  intro G
  rfl
set_option maxRecDepth 100000 in
theorem bd_r10 {a0 : Int32} {a1 : Int32} {a2 : Int32} {a3 : Int32} {a4 : Int32} {a5 : Int32} {a6 : Int32} : ∀ G : ez_F, fx_up X 3 G 85 44 [.ref 3, .int a0, .int a1, .int a2, .int a3, .int a4, .int a5] [.int a6] (ev_hp I J R T) cz kz = bif decide ((1 : Int32) ≤ a6) then G 85 72 [.ref 3, .int a0, .int a1, .int a2, .int a3, .int a4, .int a5] [] (ev_hp I J R T) cz kz else G 85 52 [.ref 3, .int a0, .int a1, .int a2, .int a3, .int a4, .int a5] [] (ev_hp I J R T) cz kz := by
  intro G
  rfl
theorem bd_38 {p t s w q : Nat} {e : Int32}
    (H : ((¬ (Int32.ofNat t) = (0 : Int32) → (((4 : Int32) ≤ (Int32.ofNat q) → pw N X 85 72 [.ref 3, .int (Int32.ofNat p), .int (Int32.ofNat t), .int (Int32.ofNat s), .int (Int32.ofNat w), .int e, .int (Int32.ofNat q)] [] (ev_hp I J R T) Q) ∧ (¬ ((4 : Int32) ≤ (Int32.ofNat q)) → (∃ Q1 : pw_Q, pe N X 92 [.ref 3, .int (Int32.ofNat s), .int (Int32.ofNat w)] (ev_hp I J R T) Q1 ∧ ∀ (r : Option Value) (h1 : ez_H), Q1 r h1 → pw N X 85 59 [.ref 3, .int (Int32.ofNat p), .int (Int32.ofNat t), .int (Int32.ofNat s), .int (Int32.ofNat w), .int e, .int (Int32.ofNat q)] (r.toList ++ []) h1 Q)))) ∧ (¬ (¬ (Int32.ofNat t) = (0 : Int32)) → (((1 : Int32) ≤ (Int32.ofNat q) → pw N X 85 72 [.ref 3, .int (Int32.ofNat p), .int (Int32.ofNat t), .int (Int32.ofNat s), .int (Int32.ofNat w), .int e, .int (Int32.ofNat q)] [] (ev_hp I J R T) Q) ∧ (¬ ((1 : Int32) ≤ (Int32.ofNat q)) → (∃ Q1 : pw_Q, pe N X 92 [.ref 3, .int (Int32.ofNat s), .int (Int32.ofNat w)] (ev_hp I J R T) Q1 ∧ ∀ (r : Option Value) (h1 : ez_H), Q1 r h1 → pw N X 85 59 [.ref 3, .int (Int32.ofNat p), .int (Int32.ofNat t), .int (Int32.ofNat s), .int (Int32.ofNat w), .int e, .int (Int32.ofNat q)] (r.toList ++ []) h1 Q)))))) : pw (N + 1) X 85 38 [.ref 3, .int (Int32.ofNat p), .int (Int32.ofNat t), .int (Int32.ofNat s), .int (Int32.ofNat w), .int e, .int (Int32.ofNat q)] [] (ev_hp I J R T) Q := by
  refine pw_if (by decide) (fun _ _ => bd_r7) (fun w1 => ?_) (fun w1 => ?_)
  · have h1 := H.1 w1
    refine pw_p (pw_if (by decide) (fun _ _ => bd_r8) (fun w2 => ?_) (fun w2 => ?_))
    · have h2 := h1.1 w2
      exact h2
    · have h2 := h1.2 w2
      obtain ⟨Q1, hc, hk⟩ := h2
      exact pw_p (pw_call (by decide) (fun _ _ => bd_r9) hc hk)
  · have h1 := H.2 w1
    refine pw_p (pw_if (by decide) (fun _ _ => bd_r10) (fun w2 => ?_) (fun w2 => ?_))
    · have h2 := h1.1 w2
      exact h2
    · have h2 := h1.2 w2
      obtain ⟨Q1, hc, hk⟩ := h2
      exact pw_p (pw_call (by decide) (fun _ _ => bd_r9) hc hk)
set_option maxRecDepth 100000 in
theorem bd_r11 {a0 : Int32} {a1 : Int32} {a2 : Int32} {a3 : Int32} {a4 : Int32} {a5 : Int32} : ∀ G : ez_F, fx_up X 2 G 85 59 [.ref 3, .int a0, .int a1, .int a2, .int a3, .int a4, .int a5] [] (ev_hp I J R T) cz kz = ev_C G 93 [.int a3] (ev_hp I J R T) fun r h1 c1 k1 => G 85 64 [.ref 3, .int a0, .int a1, .int a2, .int a3, .int a4, .int a5] (r.toList ++ []) h1 (cz + c1) (kz + k1) := by
  intro G
  rfl
theorem bd_59 {p t s w q : Nat} {e : Int32}
    (H : (∃ Q1 : pw_Q, pe N X 93 [.int (Int32.ofNat w)] (ev_hp I J R T) Q1 ∧ ∀ (r : Option Value) (h1 : ez_H), Q1 r h1 → pw N X 85 64 [.ref 3, .int (Int32.ofNat p), .int (Int32.ofNat t), .int (Int32.ofNat s), .int (Int32.ofNat w), .int e, .int (Int32.ofNat q)] (r.toList ++ []) h1 Q)) : pw (N + 1) X 85 59 [.ref 3, .int (Int32.ofNat p), .int (Int32.ofNat t), .int (Int32.ofNat s), .int (Int32.ofNat w), .int e, .int (Int32.ofNat q)] [] (ev_hp I J R T) Q := by
  obtain ⟨Q1, hc, hk⟩ := H
  exact pw_call (by decide) (fun _ _ => bd_r11) hc hk
set_option maxRecDepth 100000 in
theorem bd_r12 {a0 : Int32} {a1 : Int32} {a2 : Int32} {a3 : Int32} {a4 : Int32} {a5 : Int32} {a6 : Int32} : ∀ G : ez_F, fx_up X 3 G 85 64 [.ref 3, .int a0, .int a1, .int a2, .int a3, .int a4, .int a5] [.int a6] (ev_hp I J R T) cz kz = G 85 38 [.ref 3, .int a0, .int a1, .int a2, .int a6, .int a4, .int (a5 + (1 : Int32))] [] (ev_hp I J R T) cz kz := by
  intro G
  rfl
theorem bd_64 {p t s w q : Nat} {e x : Int32}
    (H : pw N X 85 38 [.ref 3, .int (Int32.ofNat p), .int (Int32.ofNat t), .int (Int32.ofNat s), .int x, .int e, .int ((Int32.ofNat q) + (1 : Int32))] [] (ev_hp I J R T) Q) : pw (N + 1) X 85 64 [.ref 3, .int (Int32.ofNat p), .int (Int32.ofNat t), .int (Int32.ofNat s), .int (Int32.ofNat w), .int e, .int (Int32.ofNat q)] [.int x] (ev_hp I J R T) Q := by
  refine pw_seg (by decide) (fun _ _ => bd_r12) ?_
  exact H
set_option maxRecDepth 100000 in
theorem bd_r13 {a0 : Int32} {a1 : Int32} {a2 : Int32} {a3 : Int32} {a4 : Int32} {a5 : Int32} : ∀ G : ez_F, fx_up X 2 G 85 72 [.ref 3, .int a0, .int a1, .int a2, .int a3, .int a4, .int a5] [] (ev_hp I J R T) cz kz = ev_C G 90 [.int a3] (ev_hp I J R T) fun r h1 c1 k1 => G 85 77 [.ref 3, .int a0, .int a1, .int a2, .int a3, .int a4, .int a5] (r.toList ++ []) h1 (cz + c1) (kz + k1) := by
  intro G
  rfl
theorem bd_72 {p t s w q : Nat} {e : Int32}
    (H : (∃ Q1 : pw_Q, pe N X 90 [.int (Int32.ofNat w)] (ev_hp I J R T) Q1 ∧ ∀ (r : Option Value) (h1 : ez_H), Q1 r h1 → pw N X 85 77 [.ref 3, .int (Int32.ofNat p), .int (Int32.ofNat t), .int (Int32.ofNat s), .int (Int32.ofNat w), .int e, .int (Int32.ofNat q)] (r.toList ++ []) h1 Q)) : pw (N + 1) X 85 72 [.ref 3, .int (Int32.ofNat p), .int (Int32.ofNat t), .int (Int32.ofNat s), .int (Int32.ofNat w), .int e, .int (Int32.ofNat q)] [] (ev_hp I J R T) Q := by
  obtain ⟨Q1, hc, hk⟩ := H
  exact pw_call (by decide) (fun _ _ => bd_r13) hc hk
set_option maxRecDepth 100000 in
theorem bd_r14 {a0 : Int32} {a1 : Int32} {a2 : Int32} {a3 : Int32} {a4 : Int32} {a5 : Int32} {a6 : Int32} : ∀ G : ez_F, fx_up X 3 G 85 77 [.ref 3, .int a0, .int a1, .int a2, .int a3, .int a4, .int a5] [.int a6] (ev_hp I J R T) cz kz = G 85 20 [.ref 3, .int a0, .int a1, .int a2, .int a6, .int (a4 + (1 : Int32)), .int a5] [] (ev_hp I J R T) cz kz := by
  intro G
  rfl
theorem bd_77 {p t s w q : Nat} {e x : Int32}
    (H : pw N X 85 20 [.ref 3, .int (Int32.ofNat p), .int (Int32.ofNat t), .int (Int32.ofNat s), .int x, .int (e + (1 : Int32))] [] (ev_hp I J R T) Q) : pw (N + 1) X 85 77 [.ref 3, .int (Int32.ofNat p), .int (Int32.ofNat t), .int (Int32.ofNat s), .int (Int32.ofNat w), .int e, .int (Int32.ofNat q)] [.int x] (ev_hp I J R T) Q := by
  refine pw_seg (by decide) (fun _ _ => bd_r14) ?_
  refine pw_cutl (by rfl) ?_
  exact H
set_option maxRecDepth 100000 in
theorem bd_r15 {a0 : Int32} {a1 : Int32} {a2 : Int32} {a3 : Int32} {a4 : Int32} : ∀ G : ez_F, fx_up X 5 G 85 85 [.ref 3, .int a0, .int a1, .int a2, .int a3, .int a4] [] (ev_hp I J R T) cz kz = G 85 92 [.ref 3, .int a0, .int a1, .int a2, .int a3, .int a4] [] (ev_hp (ev_sI I 3 (upd (I 3) 3 (a2 + (1 : Int32)))) J R T) cz kz := by
  intro G
  rfl
set_option maxRecDepth 100000 in
theorem bd_r16 {a0 : Int32} {a1 : Int32} {a2 : Int32} {a3 : Int32} {a4 : Int32} : ∀ G : ez_F, fx_up X 2 G 85 92 [.ref 3, .int a0, .int a1, .int a2, .int a3, .int a4] [] (ev_hp I J R T) cz kz = some (some (.int a2), (ev_hp I J R T), cz, kz) := by
  intro G
  rfl
theorem bd_85 {p t s : Nat} {w e : Int32}
    (H : Q (some (.int (Int32.ofNat s))) (ev_hp (ev_sI I 3 (upd (I 3) 3 ((Int32.ofNat s) + (1 : Int32)))) J R T)) : pw (N + 1) X 85 85 [.ref 3, .int (Int32.ofNat p), .int (Int32.ofNat t), .int (Int32.ofNat s), .int w, .int e] [] (ev_hp I J R T) Q := by
  refine pw_seg (by decide) (fun _ _ => bd_r15) ?_
  exact pw_p (pw_ret (by decide) (fun _ _ => bd_r16) H)
end
/-- a ship's row holds just these -/
def fl (I : Nat → Nat → Int32) (J : Nat → Nat → Int64) (s : Nat) (A : Int64 → Prop) (I' : Nat → Nat → Int32) (J' : Nat → Nat → Int64) : Prop := ∃ n f, I' = ev_sI I 5 (upd (I 5) s (Int32.ofNat n)) ∧ J' = ev_sJ J 4 f ∧ srt f (288 * s) n ∧ n ≤ 288 ∧ (∀ w, inrow f (288 * s) n w ↔ A w) ∧ ∀ q, q < 288 * s ∨ 288 * s + 288 ≤ q → f q = J 4 q
theorem i_inc {x : Int32} (h : x.toInt < 1000) : (x + (1 : Int32)).toInt = x.toInt + 1 := by
  have := Int32.le_toInt x
  rw [Int32.toInt_add, show (1 : Int32).toInt = 1 from by decide, cx_bm32]
  simp only [cx_i32]
  omega
section
variable {N : Nat} {X : ez_X} {I I' : Nat → Nat → Int32} {J J' : Nat → Nat → Int64} {R : Nat → Nat} {T : List ez_C} {A A' : Int64 → Prop} {s : Nat}
theorem fl_congr (h : fl I J s A I' J') (e : ∀ u, A u ↔ A' u) : fl I J s A' I' J' := by
  obtain ⟨n, f, h1, h2, h3, h4, h5, h6⟩ := h
  exact ⟨n, f, h1, h2, h3, h4, fun w => (h5 w).trans (e w), h6⟩
theorem fl_I (h : fl I J s A I' J') {a : Nat} (ha : a ≠ 5) : I' a = I a := by
  obtain ⟨n, f, h1, -⟩ := h
  rw [h1, cx_sI_n _ _ ha]
theorem fl_note {v : Int64} (hs : s < 3) (h : fl I J s A I' J') (hb : ∀ (f : Nat → Int64) (n : Nat), srt f (288 * s) n → (∀ w, inrow f (288 * s) n w ↔ A w) → ¬ A v → n < 288) :
    pe N X 91 [.ref 3, .int (Int32.ofNat s), .long v] (ev_hp I' J' R T) (fun r h => r = none ∧ ∃ I2 J2, h = ev_hp I2 J2 R T ∧ fl I J s (fun u => A u ∨ u = v) I2 J2) := by
  obtain ⟨n, f, h1, h2, h3, h4, h5, h6⟩ := h
  have e5 : I' 5 = upd (I 5) s (Int32.ofNat n) := by rw [h1, cx_sI_s]
  have e4 : J' 4 = f := by rw [h2, cx_sJ_s]
  refine pe_mono (pe_note (n := n) hs (by rw [e5, upd_s]) h4 (by rw [e4]; exact h3) fun hn => ?_) ?_
  · rw [e4] at hn
    exact hb f n h3 h5 fun z => hn ((h5 v).mpr z)
  · rintro r h ⟨rfl, f', n', rfl, g1, g2, g3, g4⟩
    refine ⟨rfl, _, _, rfl, n', f', ?_, ?_, g1, g2, fun w => ?_, fun q hq => ?_⟩
    · rw [e5, h1, sI2, upd_2]
    · rw [h2, fs_sJ2]
    · rw [g3 w, e4, h5 w]
    · rw [g4 q hq, e4, h6 q hq]
theorem ne_loop {p K sh : Nat} (hs : s < 3) (hwr : I 1 5 = 0 ∨ I 1 5 = 1) (hW : 2 ≤ (I 1 3).toInt ∧ (I 1 3).toInt ≤ 6) (hH : 2 ≤ (I 1 4).toInt ∧ (I 1 4).toInt ≤ 6) (hp : p < 65536) (hK : K ≤ 8)
    (hAM : ∀ u, A u → sp_M (I 1 3) (I 1 4) (I 1 5) sh K u) (hNM : ∀ u, sp_N (I 1 3) (I 1 4) (I 1 5) p u → sp_M (I 1 3) (I 1 4) (I 1 5) sh K u) {Q : pw_Q} (cont : ∀ I2 J2, fl I J s (fun u => A u ∨ sp_N (I 1 3) (I 1 4) (I 1 5) p u) I2 J2 → Q none (ev_hp I2 J2 R T)) :
    ∀ (N : Nat), (∀ (y : Int32) I2 J2, -3 ≤ y.toInt → y.toInt ≤ (I 1 4).toInt → fl I J s (ne_A (I 1 3) (I 1 4) (I 1 5) p A y.toInt (-3)) I2 J2 → pw N X 92 3 [.ref 3, .int (Int32.ofNat s), .int (Int32.ofNat p), .int y] [] (ev_hp I2 J2 R T) Q) ∧
      (∀ (y x : Int32) I2 J2, -3 ≤ y.toInt → y.toInt < (I 1 4).toInt → -3 ≤ x.toInt → x.toInt ≤ (I 1 3).toInt → fl I J s (ne_A (I 1 3) (I 1 4) (I 1 5) p A y.toInt x.toInt) I2 J2 → pw N X 92 18 [.ref 3, .int (Int32.ofNat s), .int (Int32.ofNat p), .int y, .int x] [] (ev_hp I2 J2 R T) Q) := by
  have e3 : (-3 : Int32).toInt = -3 := by decide
  have allM : ∀ (y x : Int) u, ne_A (I 1 3) (I 1 4) (I 1 5) p A y x u → y ≤ (I 1 4).toInt → (y = (I 1 4).toInt → x ≤ -3) → sp_M (I 1 3) (I 1 4) (I 1 5) sh K u := by
    rintro y x u (h | ⟨h1, dx, dy, h2, h3, h4, h5⟩) hy hx
    · exact hAM u h
    · obtain ⟨m, hm, e1, e2⟩ := sp_no (x := dx) (y := dy) (by omega) (by omega)
      exact hNM u ⟨h1, m, hm, by rw [h2]; unfold sp_u; rw [e1, e2]⟩
  intro N
  induction N with
  | zero => exact ⟨fun _ _ _ _ _ _ => pw_0, fun _ _ _ _ _ _ _ _ _ => pw_0⟩
  | succ N ih =>
    refine ⟨fun y I2 J2 hy0 hy1 hfl => ?_, fun y x I2 J2 hy0 hy1 hx0 hx1 hfl => ?_⟩
    · have eI := fl_I hfl (a := 1) (by decide)
      refine ne_3 ⟨fun w => ?_, fun w => ?_⟩
      · rw [eI, Int32.le_iff_toInt_le] at w
        exact cont I2 J2 (fl_congr hfl (ne_A9 hwr hW hH (by omega)))
      · rw [eI, Int32.le_iff_toInt_le] at w
        exact ih.2 y (-3) I2 J2 hy0 (by omega) (by omega) (by omega) (by rw [e3]; exact hfl)
    · have eI := fl_I hfl (a := 1) (by decide)
      have next : ∀ I3 J3, fl I J s (ne_A (I 1 3) (I 1 4) (I 1 5) p A y.toInt (x.toInt + 1)) I3 J3 → x.toInt < (I 1 3).toInt → pw N X 92 18 [.ref 3, .int (Int32.ofNat s), .int (Int32.ofNat p), .int y, .int (x + (1 : Int32))] [] (ev_hp I3 J3 R T) Q := by
        intro I3 J3 h3 hlt
        have ex := i_inc (x := x) (by omega)
        exact ih.2 y (x + 1) I3 J3 hy0 hy1 (by omega) (by omega) (by rw [ex]; exact h3)
      refine ne_18 ⟨fun w => ?_, fun w => ⟨fun w2 => ?_, fun w2 => ?_⟩⟩
      · rw [eI, Int32.le_iff_toInt_le] at w
        have ey := i_inc (x := y) (by omega)
        exact ih.1 (y + 1) I2 J2 (by omega) (by omega) (by rw [ey]; exact fl_congr hfl (ne_A2 y.toInt x.toInt w))
      · rw [eI, Int32.le_iff_toInt_le] at w
        rw [lg_eq, eI, pd_is hwr hW hH (by omega) (by omega) hp] at w2
        refine next I2 J2 (fl_congr hfl fun u => ?_) (by omega)
        rw [ne_A1 (by omega) hy0 u]
        constructor
        · exact Or.inl
        · rintro (h | ⟨h1, h2⟩)
          · exact h
          · exact absurd (h2.trans w2) h1
      · rw [eI, Int32.le_iff_toInt_le] at w
        rw [lg_eq] at w2
        rw [eI, pd_is hwr hW hH (by omega) (by omega) hp] at w2 ⊢
        refine ⟨_, fl_note hs hfl (fun f n h1 h2 h3 => ?_), ?_⟩
        · refine sp_room hwr hW hH hK h1 (fun u hu => allM _ _ u ((h2 u).mp hu) (by omega) (by omega)) (hNM _ ?_) (fun z => h3 ((h2 _).mp z))
          obtain ⟨m, hm, e1, e2⟩ := sp_no (x := x) (y := y) (by omega) (by omega)
          exact ⟨w2, m, hm, by unfold sp_u; rw [e1, e2]⟩
        · rintro r h1 ⟨rfl, I3, J3, rfl, h3⟩
          refine pw_p (ne_57 (next I3 J3 (fl_congr h3 fun u => ?_) (by omega)))
          rw [ne_A1 (by omega) hy0 u]
          constructor
          · rintro (h | h)
            · exact Or.inl h
            · exact Or.inr ⟨by rw [h]; exact w2, h⟩
          · rintro (h | h)
            · exact Or.inl h
            · exact Or.inr h.2
theorem pe_ne {p K sh : Nat} (hs : s < 3) (hwr : I 1 5 = 0 ∨ I 1 5 = 1) (hW : 2 ≤ (I 1 3).toInt ∧ (I 1 3).toInt ≤ 6) (hH : 2 ≤ (I 1 4).toInt ∧ (I 1 4).toInt ≤ 6) (hp : p < 65536) (hK : K ≤ 8)
    (hAM : ∀ u, A u → sp_M (I 1 3) (I 1 4) (I 1 5) sh K u) (hNM : ∀ u, sp_N (I 1 3) (I 1 4) (I 1 5) p u → sp_M (I 1 3) (I 1 4) (I 1 5) sh K u) (h : fl I J s A I' J') :
    pe N X 92 [.ref 3, .int (Int32.ofNat s), .int (Int32.ofNat p)] (ev_hp I' J' R T) (fun r h => r = none ∧ ∃ I2 J2, h = ev_hp I2 J2 R T ∧ fl I J s (fun u => A u ∨ sp_N (I 1 3) (I 1 4) (I 1 5) p u) I2 J2) := by
  have e3 : (-3 : Int32).toInt = -3 := by decide
  refine pe_of (pw_p (ne_0 ?_))
  refine (ne_loop hs hwr hW hH hp hK hAM hNM (fun I2 J2 h2 => ⟨rfl, I2, J2, rfl, h2⟩) N).1 (-3) I' J' (by omega) (by omega) (fl_congr h fun u => ?_)
  rw [e3]
  exact (ne_A0 u).symm
end
/-! a ship is built -/
def bd_Q (I : Nat → Nat → Int32) (J : Nat → Nat → Int64) (R : Nat → Nat) (T : List ez_C) (ns sh K : Nat) : pw_Q := fun r h => r = some (.int (Int32.ofNat ns)) ∧ ∃ I2 J2, h = ev_hp (ev_sI I2 3 (upd (I2 3) 3 (Int32.ofNat (ns + 1)))) J2 R T ∧ fl I J ns (sp_M (I 1 3) (I 1 4) (I 1 5) sh K) I2 J2
section
variable {X : ez_X} {I : Nat → Nat → Int32} {J : Nat → Nat → Int64} {R : Nat → Nat} {T : List ez_C} {s sh tn p : Nat} {e : Int32} {Q : pw_Q}
/-- one side: its quarters -/
theorem bd_side (hs : s < 3) (hwr : I 1 5 = 0 ∨ I 1 5 = 1) (hW : 2 ≤ (I 1 3).toInt ∧ (I 1 3).toInt ≤ 6) (hH : 2 ≤ (I 1 4).toInt ∧ (I 1 4).toInt ≤ 6) (hp : sh < 65536) {base lim : Nat} (hlim : lim = if tn = 0 then 1 else 4) (htn : tn < 3) (hb : base = 0 ∨ base = 4) (N : Nat)
    (cont : ∀ (w : Nat) I2 J2, w < 65536 → (lim = 4 → w = pm sg (pm (rt (base + 3)) sh 16) 16) → fl I J s (sp_M (I 1 3) (I 1 4) (I 1 5) sh (base + lim)) I2 J2 → pw N X 85 72 [.ref 3, .int (Int32.ofNat p), .int (Int32.ofNat tn), .int (Int32.ofNat s), .int (Int32.ofNat w), .int e, .int (Int32.ofNat lim)] [] (ev_hp I2 J2 R T) Q) :
    ∀ (D q w : Nat) I2 J2, q + D = lim → w < 65536 → (q < 4 → w = pm (rt (base + q)) sh 16) → (q = 4 → w = pm sg (pm (rt (base + 3)) sh 16) 16) → fl I J s (sp_M (I 1 3) (I 1 4) (I 1 5) sh (base + q)) I2 J2 →
      pw N X 85 38 [.ref 3, .int (Int32.ofNat p), .int (Int32.ofNat tn), .int (Int32.ofNat s), .int (Int32.ofNat w), .int e, .int (Int32.ofNat q)] [] (ev_hp I2 J2 R T) Q := by
  have hl4 : lim ≤ 4 := by rw [hlim]; split <;> omega
  have t0 : (Int32.ofNat tn = (0 : Int32)) ↔ tn = 0 := by
    rw [show (0 : Int32) = Int32.ofNat 0 from rfl, io_eq (by omega) (by omega)]
  intro D
  induction D with
  | zero =>
    intro q w I2 J2 hq hw h1 h2 hfl
    obtain rfl : q = lim := by omega
    have fin := cont w I2 J2 hw (fun h => h2 h) hfl
    refine pw_p (bd_38 ⟨fun z => ⟨fun _ => fin, fun z2 => ?_⟩, fun z => ⟨fun _ => fin, fun z2 => ?_⟩⟩)
    · rw [t0] at z
      rw [if_neg z] at hlim
      rw [show (4 : Int32) = Int32.ofNat 4 from rfl, io_le (by omega) (by omega)] at z2
      omega
    · rw [t0, Classical.not_not] at z
      rw [if_pos z] at hlim
      rw [show (1 : Int32) = Int32.ofNat 1 from rfl, io_le (by omega) (by omega)] at z2
      omega
  | succ D ih =>
    intro q w I2 J2 hq hw h1 h2 hfl
    have hq4 : q < 4 := by omega
    have ew := h1 hq4
    have h8 : base + q < 8 := by omega
    have go : ∃ Q1 : pw_Q, pe N X 92 [.ref 3, .int (Int32.ofNat s), .int (Int32.ofNat w)] (ev_hp I2 J2 R T) Q1 ∧ ∀ (r : Option Value) (h1 : ez_H), Q1 r h1 → pw N X 85 59 [.ref 3, .int (Int32.ofNat p), .int (Int32.ofNat tn), .int (Int32.ofNat s), .int (Int32.ofNat w), .int e, .int (Int32.ofNat q)] (r.toList ++ []) h1 Q := by
      refine ⟨_, pe_ne (K := base + q + 1) (sh := sh) hs hwr hW hH hw (by omega) (fun u hu => sp_Ms (by omega) hu) (fun u hu => ⟨base + q, by omega, by rw [← ew]; exact hu⟩) hfl, ?_⟩
      rintro r h ⟨rfl, I3, J3, rfl, h3⟩
      refine pw_p (bd_59 ⟨_, pe_is (ex_qt X I3 J3 R T hw), ?_⟩)
      rintro r h ⟨rfl, rfl⟩
      refine pw_p (bd_64 ?_)
      rw [io_1]
      refine ih (q + 1) _ I3 J3 (by omega) (pm_lt sg_lt w (by omega)) (fun h4 => ?_) (fun h4 => ?_) (fl_congr h3 fun u => ?_)
      · rw [ew, tn_q sh h8 (by omega) (by omega)]
        rfl
      · obtain rfl : q = 3 := by omega
        rw [ew]
      · rw [show base + (q + 1) = base + q + 1 by omega, sp_M1, ew]
    refine pw_p (bd_38 ⟨fun z => ⟨fun z2 => ?_, fun _ => go⟩, fun z => ⟨fun z2 => ?_, fun _ => go⟩⟩)
    · rw [show (4 : Int32) = Int32.ofNat 4 from rfl, io_le (by omega) (by omega)] at z2
      omega
    · rw [t0, Classical.not_not] at z
      rw [if_pos z] at hlim
      rw [show (1 : Int32) = Int32.ofNat 1 from rfl, io_le (by omega) (by omega)] at z2
      omega
theorem pe_build {N : Nat} (hs : s < 3) (h33 : I 3 3 = Int32.ofNat s) (hwr : I 1 5 = 0 ∨ I 1 5 = 1) (hW : 2 ≤ (I 1 3).toInt ∧ (I 1 3).toInt ≤ 6) (hH : 2 ≤ (I 1 4).toInt ∧ (I 1 4).toInt ≤ 6) (hp : sh < 65536) (htn : tn < 3) :
    pe N X 85 [.ref 3, .int (Int32.ofNat sh), .int (Int32.ofNat tn)] (ev_hp I J R T) (bd_Q I J R T s sh (sp_k tn)) := by
  have t2 : (Int32.ofNat tn = (2 : Int32)) ↔ tn = 2 := by
    rw [show (2 : Int32) = Int32.ofNat 2 from rfl, io_eq (by omega) (by omega)]
  have hlim : (if tn = 0 then 1 else 4) = if tn = 0 then 1 else 4 := rfl
  have fin : ∀ (w : Nat) (e : Int32) I2 J2, fl I J s (sp_M (I 1 3) (I 1 4) (I 1 5) sh (sp_k tn)) I2 J2 → pw N X 85 85 [.ref 3, .int (Int32.ofNat sh), .int (Int32.ofNat tn), .int (Int32.ofNat s), .int (Int32.ofNat w), .int e] [] (ev_hp I2 J2 R T) (bd_Q I J R T s sh (sp_k tn)) := by
    intro w e I2 J2 h
    refine pw_p (bd_85 ?_)
    rw [io_1]
    exact ⟨rfl, I2, J2, rfl, h⟩
  -- behind the second side, and behind the first
  have second : ∀ (w : Nat) I2 J2, w < 65536 → w = pm (rt 4) sh 16 → tn = 2 → fl I J s (sp_M (I 1 3) (I 1 4) (I 1 5) sh 4) I2 J2 → pw N X 85 20 [.ref 3, .int (Int32.ofNat sh), .int (Int32.ofNat tn), .int (Int32.ofNat s), .int (Int32.ofNat w), .int (1 : Int32)] [] (ev_hp I2 J2 R T) (bd_Q I J R T s sh (sp_k tn)) := by
    intro w I2 J2 hw ew h2 hfl
    refine pw_p (bd_20 ⟨fun z => absurd (t2.mpr h2) z, fun _ => ⟨fun z => absurd z (by decide), fun _ => ?_⟩⟩)
    refine bd_side (base := 4) hs hwr hW hH hp hlim htn (Or.inr rfl) N (fun w2 I3 J3 hw2 _ h3 => ?_) _ 0 w I2 J2 (Nat.zero_add _) hw (fun _ => ew) (fun h => by omega) hfl
    refine pw_p (bd_72 ⟨_, pe_is (ex_mi X I3 J3 R T hw2), ?_⟩)
    rintro r h ⟨rfl, rfl⟩
    refine pw_p (bd_77 ?_)
    refine pw_p (bd_20 ⟨fun z => absurd (t2.mpr h2) z, fun _ => ⟨fun _ => fin _ _ I3 J3 ?_, fun z => absurd (by decide) z⟩⟩)
    rw [show sp_k tn = 4 + (if tn = 0 then 1 else 4) by rw [h2]; rfl]
    exact h3
  refine pe_of (pw_p (bd_0 ?_))
  rw [h33, put_in hs (by omega)]
  have hfl0 : fl I J s (sp_M (I 1 3) (I 1 4) (I 1 5) sh 0) (ev_sI I 5 (upd (I 5) s (0 : Int32))) J := ⟨0, J 4, rfl, (fs_sJ_self J 4).symm, fun a b _ h => by omega, by omega, fun w => ⟨fun ⟨a, h, _⟩ => by omega, fun h => absurd h (sp_M0 w)⟩, fun _ _ => rfl⟩
  have first : pw N X 85 38 [.ref 3, .int (Int32.ofNat sh), .int (Int32.ofNat tn), .int (Int32.ofNat s), .int (Int32.ofNat sh), .int (0 : Int32), .int (0 : Int32)] [] (ev_hp (ev_sI I 5 (upd (I 5) s (0 : Int32))) J R T) (bd_Q I J R T s sh (sp_k tn)) := by
    refine bd_side (base := 0) hs hwr hW hH hp hlim htn (Or.inl rfl) N (fun w2 I3 J3 hw2 hw4 h3 => ?_) _ 0 sh _ J (Nat.zero_add _) hp (fun _ => (tn_0 hp).symm) (fun h => by omega) hfl0
    refine pw_p (bd_72 ⟨_, pe_is (ex_mi X I3 J3 R T hw2), ?_⟩)
    rintro r h ⟨rfl, rfl⟩
    refine pw_p (bd_77 ?_)
    by_cases h2 : tn = 2
    · have e4 : (if tn = 0 then 1 else 4) = 4 := by rw [if_neg (by omega)]
      rw [e4] at h3
      refine second _ I3 J3 (pm_lt ta_lt w2 (by omega)) ?_ h2 h3
      rw [hw4 e4]
      exact tn_m sh
    · refine pw_p (bd_20 ⟨fun _ => ⟨fun _ => fin _ _ I3 J3 ?_, fun z => absurd (by decide) z⟩, fun z => absurd (t2.mp (Classical.not_not.mp z)) h2⟩)
      rw [Nat.zero_add] at h3
      rw [show sp_k tn = (if tn = 0 then 1 else 4) by unfold sp_k; by_cases h0 : tn = 0 <;> simp [h0]; omega]
      exact h3
  refine pw_p (bd_20 ⟨fun _ => ⟨fun z => absurd z (by decide), fun _ => first⟩, fun _ => ⟨fun z => absurd z (by decide), fun _ => first⟩⟩)
end
