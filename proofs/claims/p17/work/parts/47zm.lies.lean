/-! Where ships lie by a laying, both sides. -/
section
variable {N : Nat} {X : ez_X} {I : Nat → Nat → Int32} {J : Nat → Nat → Int64} {R : Nat → Nat} {T : List ez_C} {Q : pw_Q} {cz kz : Nat}
set_option maxRecDepth 100000 in
theorem lq_r0 {a0 : Int32} {a1 : Int32} : ∀ G : ez_F, fx_up X 6 G 87 0 [.ref 3, .int a0, .int a1] [] (ev_hp I J R T) cz kz = ev_C G 45 [.int a0, .int a1] (ev_hp I J R T) fun r h1 c1 k1 => G 87 10 [.ref 3, .int a0, .int a1] (r.toList ++ [.int ((288 : Int32) * a1)]) h1 (cz + c1) (kz + k1) := by
  intro G
  rfl
set_option maxRecDepth 100000 in
theorem lq_r1 {a0 : Int32} {a1 : Int32} {a2 : Int32} {a3 : Int32} : ∀ G : ez_F, fx_up X 5 G 87 10 [.ref 3, .int a0, .int a1] [.int a2, .int a3] (ev_hp I J R T) cz kz = G 87 17 [.ref 3, .int a0, .int a1, .int (a3 + a2)] [.int (I 3 3), .int a1] (ev_hp I J R T) cz kz := by
  intro G
  rfl
set_option maxRecDepth 100000 in
theorem lq_r2 {a0 : Int32} {a1 : Int32} {a2 : Int32} {a3 : Int32} {a4 : Int32} : ∀ G : ez_F, fx_up X 1 G 87 17 [.ref 3, .int a0, .int a1, .int a2] [.int a3, .int a4] (ev_hp I J R T) cz kz = bif decide (a3 ≤ a4) then G 87 42 [.ref 3, .int a0, .int a1, .int a2] [] (ev_hp I J R T) cz kz else G 87 20 [.ref 3, .int a0, .int a1, .int a2] [] (ev_hp I J R T) cz kz := by
  intro G
  rfl
set_option maxRecDepth 100000 in
theorem lq_r3 {a0 : Int32} {a1 : Int32} {a2 : Int32} : ∀ G : ez_F, fx_up X 2 G 87 42 [.ref 3, .int a0, .int a1, .int a2] [] (ev_hp I J R T) cz kz = some (some (.long (0 : Int64)), (ev_hp I J R T), cz, kz) := by
  intro G
  rfl
set_option maxRecDepth 100000 in
theorem lq_r4 {a0 : Int32} {a1 : Int32} {a2 : Int32} : ∀ G : ez_F, fx_up X 2 G 87 20 [.ref 3, .int a0, .int a1, .int a2] [] (ev_hp I J R T) cz kz = bif decide (a2 < (0 : Int32)) then G 87 42 [.ref 3, .int a0, .int a1, .int a2] [] (ev_hp I J R T) cz kz else G 87 24 [.ref 3, .int a0, .int a1, .int a2] [] (ev_hp I J R T) cz kz := by
  intro G
  rfl
set_option maxRecDepth 100000 in
theorem lq_r5 {a0 : Int32} {a1 : Int32} {a2 : Int32} : ∀ G : ez_F, fx_up X 3 G 87 24 [.ref 3, .int a0, .int a1, .int a2] [] (ev_hp I J R T) cz kz = G 87 29 [.ref 3, .int a0, .int a1, .int a2] [.ref 4, .int a2] (ev_hp I J R T) cz kz := by
  intro G
  rfl
set_option maxRecDepth 100000 in
theorem lq_r6 {a0 : Int32} {a1 : Int32} {a2 : Int32} {a3 : Int32} {a4 : Int32} : ∀ G : ez_F, fx_up X 1 G 87 30 [.ref 3, .int a0, .int a1, .int a2] [.int a3, .int a4] (ev_hp I J R T) cz kz = bif decide (a3 ≤ a4) then G 87 42 [.ref 3, .int a0, .int a1, .int a2] [] (ev_hp I J R T) cz kz else G 87 33 [.ref 3, .int a0, .int a1, .int a2] [] (ev_hp I J R T) cz kz := by
  intro G
  rfl
set_option maxRecDepth 100000 in
theorem lq_r7 {a0 : Int32} {a1 : Int32} {a2 : Int32} : ∀ G : ez_F, fx_up X 3 G 87 33 [.ref 3, .int a0, .int a1, .int a2] [] (ev_hp I J R T) cz kz = G 87 38 [.ref 3, .int a0, .int a1, .int a2] [.int a2, .ref 4] (ev_hp I J R T) cz kz := by
  intro G
  rfl
set_option maxRecDepth 100000 in
theorem lq_r8 {a0 : Int32} {a1 : Int32} {a2 : Int32} {a3 : Int64} : ∀ G : ez_F, fx_up X 2 G 87 39 [.ref 3, .int a0, .int a1, .int a2] [.long a3] (ev_hp I J R T) cz kz = some (some (.long a3), (ev_hp I J R T), cz, kz) := by
  intro G
  rfl
theorem lq_0 {x y : Int32}
    (H : (((I 3 3) ≤ y → Q (some (.long (0 : Int64))) (ev_hp I J R T)) ∧ (¬ ((I 3 3) ≤ y) → (((((288 : Int32) * y) + ((x >>> (((9 : Int32) * ((2 : Int32) - y)) &&& (31 : Int32))) &&& (511 : Int32))) < (0 : Int32) → Q (some (.long (0 : Int64))) (ev_hp I J R T)) ∧ (¬ ((((288 : Int32) * y) + ((x >>> (((9 : Int32) * ((2 : Int32) - y)) &&& (31 : Int32))) &&& (511 : Int32))) < (0 : Int32)) → (((Int32.ofNat 864) ≤ (((288 : Int32) * y) + ((x >>> (((9 : Int32) * ((2 : Int32) - y)) &&& (31 : Int32))) &&& (511 : Int32))) → Q (some (.long (0 : Int64))) (ev_hp I J R T)) ∧ (¬ ((Int32.ofNat 864) ≤ (((288 : Int32) * y) + ((x >>> (((9 : Int32) * ((2 : Int32) - y)) &&& (31 : Int32))) &&& (511 : Int32)))) → (ev_ix (((288 : Int32) * y) + ((x >>> (((9 : Int32) * ((2 : Int32) - y)) &&& (31 : Int32))) &&& (511 : Int32))) 864 → Q (some (.long (J 4 (((288 : Int32) * y) + ((x >>> (((9 : Int32) * ((2 : Int32) - y)) &&& (31 : Int32))) &&& (511 : Int32))).toNatClampNeg))) (ev_hp I J R T))))))))) : pw (N + 1) X 87 0 [.ref 3, .int x, .int y] [] (ev_hp I J R T) Q := by
  refine pw_callp (by decide) (fun _ _ => lq_r0) (pe_spotIn) ?_
  refine pw_p (pw_seg (by decide) (fun _ _ => lq_r1) ?_)
  refine pw_p (pw_if (by decide) (fun _ _ => lq_r2) (fun w1 => ?_) (fun w1 => ?_))
  · have h1 := H.1 w1
    exact pw_p (pw_ret (by decide) (fun _ _ => lq_r3) h1)
  · have h1 := H.2 w1
    refine pw_p (pw_if (by decide) (fun _ _ => lq_r4) (fun w2 => ?_) (fun w2 => ?_))
    · have h2 := h1.1 w2
      exact pw_p (pw_ret (by decide) (fun _ _ => lq_r3) h2)
    · have h2 := h1.2 w2
      refine pw_p (pw_seg (by decide) (fun _ _ => lq_r5) ?_)
      refine pw_p (pw_alenJ (by rfl) (cx_getJ (show cx_Ds[4]? = some (1, 864, []) from rfl)) ?_)
      refine pw_p (pw_if (by decide) (fun _ _ => lq_r6) (fun w3 => ?_) (fun w3 => ?_))
      · have h3 := h2.1 w3
        exact pw_p (pw_ret (by decide) (fun _ _ => lq_r3) h3)
      · have h3 := h2.2 w3
        refine pw_p (pw_seg (by decide) (fun _ _ => lq_r7) ?_)
        refine pw_p (pw_lald (by rfl) (cx_getJ (show cx_Ds[4]? = some (1, 864, []) from rfl)) (fun w4 => ?_))
        have h4 := h3 w4
        exact pw_p (pw_ret (by decide) (fun _ _ => lq_r8) h4)
set_option maxRecDepth 100000 in
theorem lq_r9 {a0 : Int32} : ∀ G : ez_F, fx_up X 2 G 137 0 [.ref 6, .int a0] [] (ev_hp I J R T) cz kz = G 137 4 [.ref 6, .int a0] [.ref (R 0)] (ev_hp I J R T) cz kz := by
  intro G
  rfl
set_option maxRecDepth 100000 in
theorem lq_r10 {a0 : Int32} {a1 : Nat} : ∀ G : ez_F, fx_up X 2 G 137 4 [.ref 6, .int a0] [.ref a1] (ev_hp I J R T) cz kz = ev_C G 3 [.ref a1, .int a0] (ev_hp I J R T) fun r h1 c1 k1 => G 137 8 [.ref 6, .int a0] (r.toList ++ []) h1 (cz + c1) (kz + k1) := by
  intro G
  rfl
theorem lo_0 {x : Int32}
    (H : (∃ Q1 : pw_Q, pe N X 3 [.ref (R 0), .int x] (ev_hp I J R T) Q1 ∧ ∀ (r : Option Value) (h1 : ez_H), Q1 r h1 → pw N X 137 8 [.ref 6, .int x] (r.toList ++ []) h1 Q)) : pw (N + 1) X 137 0 [.ref 6, .int x] [] (ev_hp I J R T) Q := by
  refine pw_seg (by decide) (fun _ _ => lq_r9) ?_
  obtain ⟨Q1, hc, hk⟩ := H
  exact pw_p (pw_call (by decide) (fun _ _ => lq_r10) hc hk)
set_option maxRecDepth 100000 in
theorem lq_r11 {a0 : Int32} {a1 : Int32} : ∀ G : ez_F, fx_up X 6 G 137 8 [.ref 6, .int a0] [.int a1] (ev_hp I J R T) cz kz = ev_C G 87 [.ref 3, .int a1, .int (0 : Int32)] (ev_hp I J R T) fun r h1 c1 k1 => G 137 18 [.ref 6, .int a0, .int a1] (r.toList ++ []) h1 (cz + c1) (kz + k1) := by
  intro G
  rfl
theorem lo_8 {x v : Int32}
    (H : (∃ Q1 : pw_Q, pe N X 87 [.ref 3, .int v, .int (0 : Int32)] (ev_hp I J R T) Q1 ∧ ∀ (r : Option Value) (h1 : ez_H), Q1 r h1 → pw N X 137 18 [.ref 6, .int x, .int v] (r.toList ++ []) h1 Q)) : pw (N + 1) X 137 8 [.ref 6, .int x] [.int v] (ev_hp I J R T) Q := by
  obtain ⟨Q1, hc, hk⟩ := H
  exact pw_call (by decide) (fun _ _ => lq_r11) hc hk
set_option maxRecDepth 100000 in
theorem lq_r12 {a0 : Int32} : ∀ G : ez_F, fx_up X 4 G 180 0 [.ref 35, .int a0] [] (ev_hp I J R T) cz kz = G 180 5 [.ref 35, .int a0, .long (0 : Int64), ez_fill, .int (0 : Int32)] [] (ev_hp I J R T) cz kz := by
  intro G
  rfl
theorem mo_0 {x : Int32}
    (H : pw N X 180 5 [.ref 35, .int x, .long (0 : Int64), ez_fill, .int (0 : Int32)] [] (ev_hp I J R T) Q) : pw (N + 1) X 180 0 [.ref 35, .int x] [] (ev_hp I J R T) Q := by
  refine pw_seg (by decide) (fun _ _ => lq_r12) ?_
  exact H
set_option maxRecDepth 100000 in
theorem lq_r13 {a0 : Int32} {a1 : Int32} {a2 : Int64} : ∀ G : ez_F, fx_up X 5 G 137 18 [.ref 6, .int a0, .int a1] [.long a2] (ev_hp I J R T) cz kz = ev_C G 87 [.ref 3, .int a1, .int (1 : Int32)] (ev_hp I J R T) fun r h1 c1 k1 => G 137 27 [.ref 6, .int a0, .int a1] (r.toList ++ [.long a2]) h1 (cz + c1) (kz + k1) := by
  intro G
  rfl
theorem lo_18 {x v : Int32} {u : Int64}
    (H : (∃ Q1 : pw_Q, pe N X 87 [.ref 3, .int v, .int (1 : Int32)] (ev_hp I J R T) Q1 ∧ ∀ (r : Option Value) (h1 : ez_H), Q1 r h1 → pw N X 137 27 [.ref 6, .int x, .int v] (r.toList ++ [.long u]) h1 Q)) : pw (N + 1) X 137 18 [.ref 6, .int x, .int v] [.long u] (ev_hp I J R T) Q := by
  obtain ⟨Q1, hc, hk⟩ := H
  exact pw_call (by decide) (fun _ _ => lq_r13) hc hk
set_option maxRecDepth 100000 in
theorem lq_r14 {a0 : Int32} {a1 : Int32} {a2 : Int64} {a3 : Int64} : ∀ G : ez_F, fx_up X 6 G 137 27 [.ref 6, .int a0, .int a1] [.long a2, .long a3] (ev_hp I J R T) cz kz = ev_C G 87 [.ref 3, .int a1, .int (2 : Int32)] (ev_hp I J R T) fun r h1 c1 k1 => G 137 37 [.ref 6, .int a0, .int a1] (r.toList ++ [.long (a3 ||| a2)]) h1 (cz + c1) (kz + k1) := by
  intro G
  rfl
theorem lo_27 {x v : Int32} {u w : Int64}
    (H : (∃ Q1 : pw_Q, pe N X 87 [.ref 3, .int v, .int (2 : Int32)] (ev_hp I J R T) Q1 ∧ ∀ (r : Option Value) (h1 : ez_H), Q1 r h1 → pw N X 137 37 [.ref 6, .int x, .int v] (r.toList ++ [.long (u ||| w)]) h1 Q)) : pw (N + 1) X 137 27 [.ref 6, .int x, .int v] [.long w, .long u] (ev_hp I J R T) Q := by
  obtain ⟨Q1, hc, hk⟩ := H
  exact pw_call (by decide) (fun _ _ => lq_r14) hc hk
set_option maxRecDepth 100000 in
theorem lq_r15 {a0 : Int32} {a1 : Int32} {a2 : Int64} {a3 : Int64} : ∀ G : ez_F, fx_up X 2 G 137 37 [.ref 6, .int a0, .int a1] [.long a2, .long a3] (ev_hp I J R T) cz kz = some (some (.long (a3 ||| a2)), (ev_hp I J R T), cz, kz) := by
  intro G
  rfl
theorem lo_37 {x v : Int32} {u w : Int64}
    (H : Q (some (.long (u ||| w))) (ev_hp I J R T)) : pw (N + 1) X 137 37 [.ref 6, .int x, .int v] [.long w, .long u] (ev_hp I J R T) Q := by
  exact pw_ret (by decide) (fun _ _ => lq_r15) H
set_option maxRecDepth 100000 in
theorem lq_r16 {a0 : Int32} {a1 : Int64} {a2 : Int32} : ∀ G : ez_F, fx_up X 3 G 180 5 [.ref 35, .int a0, .long a1, ez_fill, .int a2] [] (ev_hp I J R T) cz kz = G 180 11 [.ref 35, .int a0, .long a1, ez_fill, .int a2] [.int (I 35 3), .int a2] (ev_hp I J R T) cz kz := by
  intro G
  rfl
set_option maxRecDepth 100000 in
theorem lq_r17 {a0 : Int32} {a1 : Int64} {a2 : Int32} {a3 : Int32} {a4 : Int32} : ∀ G : ez_F, fx_up X 1 G 180 11 [.ref 35, .int a0, .long a1, ez_fill, .int a2] [.int a3, .int a4] (ev_hp I J R T) cz kz = bif decide (a3 ≤ a4) then G 180 46 [.ref 35, .int a0, .long a1, ez_fill, .int a2] [] (ev_hp I J R T) cz kz else G 180 14 [.ref 35, .int a0, .long a1, ez_fill, .int a2] [] (ev_hp I J R T) cz kz := by
  intro G
  rfl
set_option maxRecDepth 100000 in
theorem lq_r18 {a0 : Int32} {a1 : Int64} {a2 : Int32} : ∀ G : ez_F, fx_up X 2 G 180 46 [.ref 35, .int a0, .long a1, ez_fill, .int a2] [] (ev_hp I J R T) cz kz = some (some (.long a1), (ev_hp I J R T), cz, kz) := by
  intro G
  rfl
set_option maxRecDepth 100000 in
theorem lq_r19 {a0 : Int32} {a1 : Int64} {a2 : Int32} : ∀ G : ez_F, fx_up X 12 G 180 14 [.ref 35, .int a0, .long a1, ez_fill, .int a2] [] (ev_hp I J R T) cz kz = G 180 34 [.ref 35, .int a0, .long a1, ez_fill, .int a2] [.int a2, .int ((3 : Int32) * a0), .ref 41, .int ((300 : Int32) * a2), .ref 39, .long a1] (ev_hp I J R T) cz kz := by
  intro G
  rfl
set_option maxRecDepth 100000 in
theorem lq_r20 {a0 : Int32} {a1 : Int64} {a2 : Int32} {a3 : Int32} {a4 : Int32} {a5 : Int32} {a6 : Int64} : ∀ G : ez_F, fx_up X 1 G 180 34 [.ref 35, .int a0, .long a1, ez_fill, .int a2] [.int a3, .int a4, .ref 41, .int a5, .ref 39, .long a6] (ev_hp I J R T) cz kz = G 180 35 [.ref 35, .int a0, .long a1, ez_fill, .int a2] [.int (a4 + a3), .ref 41, .int a5, .ref 39, .long a6] (ev_hp I J R T) cz kz := by
  intro G
  rfl
set_option maxRecDepth 100000 in
theorem lq_r21 {a0 : Int32} {a1 : Int64} {a2 : Int32} {a3 : Int32} {a4 : Int32} {a5 : Int64} : ∀ G : ez_F, fx_up X 1 G 180 36 [.ref 35, .int a0, .long a1, ez_fill, .int a2] [.int a3, .int a4, .ref 39, .long a5] (ev_hp I J R T) cz kz = G 180 37 [.ref 35, .int a0, .long a1, ez_fill, .int a2] [.int (a4 + a3), .ref 39, .long a5] (ev_hp I J R T) cz kz := by
  intro G
  rfl
set_option maxRecDepth 100000 in
theorem lq_r22 {a0 : Int32} {a1 : Int64} {a2 : Int32} {a3 : Int64} {a4 : Int64} : ∀ G : ez_F, fx_up X 4 G 180 38 [.ref 35, .int a0, .long a1, ez_fill, .int a2] [.long a3, .long a4] (ev_hp I J R T) cz kz = G 180 5 [.ref 35, .int a0, .long (a4 ||| a3), ez_fill, .int (a2 + (1 : Int32))] [] (ev_hp I J R T) cz kz := by
  intro G
  rfl
theorem mo_5 {x y : Int32} {u : Int64}
    (H : (((I 35 3) ≤ y → Q (some (.long u)) (ev_hp I J R T)) ∧ (¬ ((I 35 3) ≤ y) → (ev_ix (((3 : Int32) * x) + y) 30003 → (ev_ix (((300 : Int32) * y) + (I 41 (((3 : Int32) * x) + y).toNatClampNeg)) 900 → pw N X 180 5 [.ref 35, .int x, .long (u ||| (J 39 (((300 : Int32) * y) + (I 41 (((3 : Int32) * x) + y).toNatClampNeg)).toNatClampNeg)), ez_fill, .int (y + (1 : Int32))] [] (ev_hp I J R T) Q))))) : pw (N + 1) X 180 5 [.ref 35, .int x, .long u, ez_fill, .int y] [] (ev_hp I J R T) Q := by
  refine pw_seg (by decide) (fun _ _ => lq_r16) ?_
  refine pw_p (pw_if (by decide) (fun _ _ => lq_r17) (fun w1 => ?_) (fun w1 => ?_))
  · have h1 := H.1 w1
    exact pw_p (pw_ret (by decide) (fun _ _ => lq_r18) h1)
  · have h1 := H.2 w1
    refine pw_p (pw_seg (by decide) (fun _ _ => lq_r19) ?_)
    refine pw_p (pw_seg (by decide) (fun _ _ => lq_r20) ?_)
    refine pw_p (pw_iald (by rfl) (cx_getI (show cx_Ds[41]? = some (0, 30003, []) from rfl)) (fun w2 => ?_))
    have h2 := h1 w2
    refine pw_p (pw_seg (by decide) (fun _ _ => lq_r21) ?_)
    refine pw_p (pw_lald (by rfl) (cx_getJ (show cx_Ds[39]? = some (1, 900, []) from rfl)) (fun w2 => ?_))
    have h2 := h2 w2
    refine pw_p (pw_seg (by decide) (fun _ _ => lq_r22) ?_)
    exact h2
end
section
variable {N : Nat} {X : ez_X} {I : Nat → Nat → Int32} {J : Nat → Nat → Int64} {R : Nat → Nat} {T : List ez_C} {x y : Int32} {t : ly_t}
def ly_s (I : Nat → Nat → Int32) (J : Nat → Nat → Int64) (t : ly_t) (s : Nat) : Int64 := if s < (I 3 3).toInt.toNat then J 4 (288 * s + ly_at t s) else 0
def ly_w (I : Nat → Nat → Int32) (J : Nat → Nat → Int64) (t : ly_t) : Int64 := (ly_s I J t 0 ||| ly_s I J t 1) ||| ly_s I J t 2
theorem ly_at_lt {s m : Nat} (h1 : t.1 < m) (h2 : t.2.1 < m) (h3 : t.2.2 < m) : ly_at t s < m := by
  unfold ly_at
  split
  · exact h1
  · split
    · exact h2
    · exact h3
theorem pe_cellsIn {s : Nat} (hy : y = Int32.ofNat s) (hns : 0 ≤ (I 3 3).toInt ∧ (I 3 3).toInt ≤ 3) (b0 : t.1 < 512) (b1 : t.2.1 < 512) (b2 : t.2.2 < 512) (hs : s < 3) (hin : s < (I 3 3).toInt.toNat → ly_at t s < 288) : pe N X 87 [.ref 3, .int (ly_c t), .int y] (ev_hp I J R T) (fun r h => r = some (.long (ly_s I J t s)) ∧ h = ev_hp I J R T) := by
  subst hy
  have hl := ly_at_lt (s := s) b0 b1 b2
  have e3 := io_nat hns.1
  refine pe_of (pw_p (lq_0 ?_))
  rw [ly_spot b0 b1 b2 hs, show (288 : Int32) = Int32.ofNat 288 from rfl, io_mul, io_add]
  refine ⟨fun h => ?_, fun h => ⟨fun h2 => ?_, fun h2 => ⟨fun h3 => ?_, fun h3 _ => ?_⟩⟩⟩
  · rw [e3, io_le (by omega) (by omega)] at h
    refine ⟨?_, rfl⟩
    unfold ly_s
    rw [if_neg (by omega)]
  · rw [show (0 : Int32) = Int32.ofNat 0 from rfl, io_lt (by omega) (by omega)] at h2
    omega
  · rw [e3, io_le (by omega) (by omega)] at h
    rw [io_le (by omega) (by omega)] at h3
    have := hin (by omega)
    omega
  · rw [e3, io_le (by omega) (by omega)] at h
    refine ⟨?_, rfl⟩
    unfold ly_s
    rw [if_pos (by omega), io_cl (by omega)]
/-- where ships lie, by the class -/
theorem pe_cellsOf {n : Nat} {f : Nat → Int32} (h : rowT (R 0) T n f) (hn : n ≤ 10000) (hf : ev_at n f x = ly_c t) (hns : 0 ≤ (I 3 3).toInt ∧ (I 3 3).toInt ≤ 3) (b0 : t.1 < 512) (b1 : t.2.1 < 512) (b2 : t.2.2 < 512) (hin : ∀ s, s < (I 3 3).toInt.toNat → ly_at t s < 288) : pe N X 137 [.ref 6, .int x] (ev_hp I J R T) (fun r h => r = some (.long (ly_w I J t)) ∧ h = ev_hp I J R T) := by
  refine pe_of (pw_p (lo_0 ⟨_, pe_atR h (by omega), ?_⟩))
  rintro r h ⟨rfl, rfl⟩
  rw [hf]
  refine pw_p (lo_8 ⟨_, pe_cellsIn (s := 0) rfl hns b0 b1 b2 (by decide) (hin 0), ?_⟩)
  rintro r h ⟨rfl, rfl⟩
  refine pw_p (lo_18 ⟨_, pe_cellsIn (s := 1) rfl hns b0 b1 b2 (by decide) (hin 1), ?_⟩)
  rintro r h ⟨rfl, rfl⟩
  refine pw_p (lo_27 ⟨_, pe_cellsIn (s := 2) rfl hns b0 b1 b2 (by decide) (hin 2), ?_⟩)
  rintro r h ⟨rfl, rfl⟩
  exact pw_p (lo_37 ⟨rfl, rfl⟩)
def or_n (e : Nat → Int64) : Nat → Int64
  | 0 => 0
  | s + 1 => or_n e s ||| e s
/-- where ships lie, by the reference -/
theorem pe_mcells {ns k : Nat} {e : Nat → Int64} (hx : x = Int32.ofNat k) (hk : k < 10000) (h3 : I 35 3 = Int32.ofNat ns) (hn : ns ≤ 3) (hw : ∀ s, s < ns → I 41 (3 * k + s) = Int32.ofNat (ly_at t s)) (hl : ∀ s, s < ns → ly_at t s < 288) (he : ∀ s, s < ns → J 39 (300 * s + ly_at t s) = e s) : pe N X 180 [.ref 35, .int x] (ev_hp I J R T) (fun r h => r = some (.long (or_n e ns)) ∧ h = ev_hp I J R T) := by
  subst hx
  have loop : ∀ (r s : Nat), s + r = ns → ∀ N, pw N X 180 5 [.ref 35, .int (Int32.ofNat k), .long (or_n e s), ez_fill, .int (Int32.ofNat s)] [] (ev_hp I J R T) (fun r h => r = some (.long (or_n e ns)) ∧ h = ev_hp I J R T) := by
    intro r
    induction r with
    | zero =>
      intro s hs N
      obtain rfl : s = ns := by omega
      refine pw_p (mo_5 ⟨fun _ => ⟨rfl, rfl⟩, fun h => ?_⟩)
      rw [h3, io_le (by omega) (by omega)] at h
      omega
    | succ r ih =>
      intro s hs N
      refine pw_p (mo_5 ⟨fun h => ?_, fun _ => ?_⟩)
      · rw [h3, io_le (by omega) (by omega)] at h
        omega
      · have e1 : ((3 : Int32) * Int32.ofNat k + Int32.ofNat s).toNatClampNeg = 3 * k + s := by
          rw [show (3 : Int32) = Int32.ofNat 3 from rfl, io_mul, io_add, io_cl (by omega)]
        have hl2 := hl s (by omega)
        have e2 : ((300 : Int32) * Int32.ofNat s + Int32.ofNat (ly_at t s)).toNatClampNeg = 300 * s + ly_at t s := by
          rw [show (300 : Int32) = Int32.ofNat 300 from rfl, io_mul, io_add, io_cl (by omega)]
        intro _
        rw [e1, hw s (by omega)]
        intro _
        rw [e2, he s (by omega), io_1]
        exact ih (s + 1) (by omega) _
  exact pe_of (pw_p (mo_0 (loop ns 0 (by omega) _)))
theorem ly_w_or (hns : (I 3 3).toInt.toNat ≤ 3) : ly_w I J t = or_n (fun s => J 4 (288 * s + ly_at t s)) (I 3 3).toInt.toNat := by
  unfold ly_w ly_s
  generalize (I 3 3).toInt.toNat = ns at hns
  rcases (show ns = 0 ∨ ns = 1 ∨ ns = 2 ∨ ns = 3 by omega) with rfl | rfl | rfl | rfl
  all_goals simp [or_n]
end
