/-! A laying is gone through the calls, by the reference. -/
section
variable {N : Nat} {X : ez_X} {I : Nat → Nat → Int32} {J : Nat → Nat → Int64} {R : Nat → Nat} {T : List ez_C} {Q : pw_Q} {cz kz : Nat}
set_option maxRecDepth 100000 in
theorem mg_r0 {a0 : Int32} : ∀ G : ez_F, fx_up X 2 G 221 0 [.ref 35, .int a0] [] (ev_hp I J R T) cz kz = G 221 2 [.ref 35, .int a0, .int (0 : Int32)] [] (ev_hp I J R T) cz kz := by
  intro G
  rfl
theorem sa_0 {x : Int32}
    (H : pw N X 221 2 [.ref 35, .int x, .int (0 : Int32)] [] (ev_hp I J R T) Q) : pw (N + 1) X 221 0 [.ref 35, .int x] [] (ev_hp I J R T) Q := by
  refine pw_seg (by decide) (fun _ _ => mg_r0) ?_
  exact H
set_option maxRecDepth 100000 in
theorem mg_r1 {a0 : Int32} {a1 : Int32} : ∀ G : ez_F, fx_up X 3 G 221 2 [.ref 35, .int a0, .int a1] [] (ev_hp I J R T) cz kz = G 221 7 [.ref 35, .int a0, .int a1] [.int (I 35 3), .int a1] (ev_hp I J R T) cz kz := by
  intro G
  rfl
set_option maxRecDepth 100000 in
theorem mg_r2 {a0 : Int32} {a1 : Int32} {a2 : Int32} {a3 : Int32} : ∀ G : ez_F, fx_up X 1 G 221 7 [.ref 35, .int a0, .int a1] [.int a2, .int a3] (ev_hp I J R T) cz kz = bif decide (a2 ≤ a3) then G 221 31 [.ref 35, .int a0, .int a1] [] (ev_hp I J R T) cz kz else G 221 10 [.ref 35, .int a0, .int a1] [] (ev_hp I J R T) cz kz := by
  intro G
  rfl
set_option maxRecDepth 100000 in
theorem mg_r3 {a0 : Int32} {a1 : Int32} : ∀ G : ez_F, fx_up X 2 G 221 31 [.ref 35, .int a0, .int a1] [] (ev_hp I J R T) cz kz = some (some (.int (-1 : Int32)), (ev_hp I J R T), cz, kz) := by
  intro G
  rfl
set_option maxRecDepth 100000 in
theorem mg_r4 {a0 : Int32} {a1 : Int32} : ∀ G : ez_F, fx_up X 3 G 221 10 [.ref 35, .int a0, .int a1] [] (ev_hp I J R T) cz kz = G 221 15 [.ref 35, .int a0, .int a1] [.int a1, .ref 45] (ev_hp I J R T) cz kz := by
  intro G
  rfl
set_option maxRecDepth 100000 in
theorem mg_r5 {a0 : Int32} {a1 : Int32} {a2 : Int64} : ∀ G : ez_F, fx_up X 2 G 221 16 [.ref 35, .int a0, .int a1] [.long a2] (ev_hp I J R T) cz kz = ev_C G 197 [.long a2, .int a0] (ev_hp I J R T) fun r h1 c1 k1 => G 221 20 [.ref 35, .int a0, .int a1] (r.toList ++ []) h1 (cz + c1) (kz + k1) := by
  intro G
  rfl
set_option maxRecDepth 100000 in
theorem mg_r6 {a0 : Int32} {a1 : Int32} {a2 : Int32} : ∀ G : ez_F, fx_up X 1 G 221 20 [.ref 35, .int a0, .int a1] [.int a2] (ev_hp I J R T) cz kz = bif decide (a2 = (0 : Int32)) then G 221 25 [.ref 35, .int a0, .int a1] [] (ev_hp I J R T) cz kz else G 221 23 [.ref 35, .int a0, .int a1] [] (ev_hp I J R T) cz kz := by
  intro G
  rfl
set_option maxRecDepth 100000 in
theorem mg_r7 {a0 : Int32} {a1 : Int32} : ∀ G : ez_F, fx_up X 2 G 221 25 [.ref 35, .int a0, .int a1] [] (ev_hp I J R T) cz kz = G 221 2 [.ref 35, .int a0, .int (a1 + (1 : Int32))] [] (ev_hp I J R T) cz kz := by
  intro G
  rfl
set_option maxRecDepth 100000 in
theorem mg_r8 {a0 : Int32} {a1 : Int32} : ∀ G : ez_F, fx_up X 2 G 221 23 [.ref 35, .int a0, .int a1] [] (ev_hp I J R T) cz kz = some (some (.int a1), (ev_hp I J R T), cz, kz) := by
  intro G
  rfl
theorem sa_2 {x s : Int32}
    (H : (((I 35 3) ≤ s → Q (some (.int (-1 : Int32))) (ev_hp I J R T)) ∧ (¬ ((I 35 3) ≤ s) → (ev_ix s 3 → (((ev_has (J 45 s.toNatClampNeg) x) = (0 : Int32) → pw N X 221 2 [.ref 35, .int x, .int (s + (1 : Int32))] [] (ev_hp I J R T) Q) ∧ (¬ ((ev_has (J 45 s.toNatClampNeg) x) = (0 : Int32)) → Q (some (.int s)) (ev_hp I J R T))))))) : pw (N + 1) X 221 2 [.ref 35, .int x, .int s] [] (ev_hp I J R T) Q := by
  refine pw_seg (by decide) (fun _ _ => mg_r1) ?_
  refine pw_p (pw_if (by decide) (fun _ _ => mg_r2) (fun w1 => ?_) (fun w1 => ?_))
  · have h1 := H.1 w1
    exact pw_p (pw_ret (by decide) (fun _ _ => mg_r3) h1)
  · have h1 := H.2 w1
    refine pw_p (pw_seg (by decide) (fun _ _ => mg_r4) ?_)
    refine pw_p (pw_lald (by rfl) (cx_getJ (show cx_Ds[45]? = some (1, 3, []) from rfl)) (fun w2 => ?_))
    have h2 := h1 w2
    refine pw_p (pw_callp (by decide) (fun _ _ => mg_r5) (pe_is (em_has _ _ _ _)) ?_)
    refine pw_p (pw_if (by decide) (fun _ _ => mg_r6) (fun w2 => ?_) (fun w2 => ?_))
    · have h2 := h2.1 w2
      refine pw_p (pw_seg (by decide) (fun _ _ => mg_r7) ?_)
      exact h2
    · have h2 := h2.2 w2
      exact pw_p (pw_ret (by decide) (fun _ _ => mg_r8) h2)
set_option maxRecDepth 100000 in
theorem mg_r9 {a0 : Int32} : ∀ G : ez_F, fx_up X 3 G 176 0 [.ref 35, .int a0] [] (ev_hp I J R T) cz kz = ev_C G 221 [.ref 35, .int a0] (ev_hp I J R T) fun r h1 c1 k1 => G 176 5 [.ref 35, .int a0] (r.toList ++ []) h1 (cz + c1) (kz + k1) := by
  intro G
  rfl
theorem ce_0 {x : Int32}
    (H : (∃ Q1 : pw_Q, pe N X 221 [.ref 35, .int x] (ev_hp I J R T) Q1 ∧ ∀ (r : Option Value) (h1 : ez_H), Q1 r h1 → pw N X 176 5 [.ref 35, .int x] (r.toList ++ []) h1 Q)) : pw (N + 1) X 176 0 [.ref 35, .int x] [] (ev_hp I J R T) Q := by
  obtain ⟨Q1, hc, hk⟩ := H
  exact pw_call (by decide) (fun _ _ => mg_r9) hc hk
set_option maxRecDepth 100000 in
theorem mg_r10 {a0 : Int32} {a1 : Int32} : ∀ G : ez_F, fx_up X 4 G 176 5 [.ref 35, .int a0] [.int a1] (ev_hp I J R T) cz kz = bif decide (¬ a1 = (-1 : Int32)) then G 176 13 [.ref 35, .int a0, .int a1] [] (ev_hp I J R T) cz kz else G 176 11 [.ref 35, .int a0, .int a1] [] (ev_hp I J R T) cz kz := by
  intro G
  rfl
set_option maxRecDepth 100000 in
theorem mg_r11 {a0 : Int32} {a1 : Int32} : ∀ G : ez_F, fx_up X 3 G 176 13 [.ref 35, .int a0, .int a1] [] (ev_hp I J R T) cz kz = G 176 18 [.ref 35, .int a0, .int a1] [.int a1, .ref 46] (ev_hp I J R T) cz kz := by
  intro G
  rfl
set_option maxRecDepth 100000 in
theorem mg_r12 {a0 : Int32} {a1 : Int32} {a2 : Int64} : ∀ G : ez_F, fx_up X 2 G 176 19 [.ref 35, .int a0, .int a1] [.long a2] (ev_hp I J R T) cz kz = ev_C G 197 [.long a2, .int a0] (ev_hp I J R T) fun r h1 c1 k1 => G 176 23 [.ref 35, .int a0, .int a1] (r.toList ++ []) h1 (cz + c1) (kz + k1) := by
  intro G
  rfl
set_option maxRecDepth 100000 in
theorem mg_r13 {a0 : Int32} {a1 : Int32} {a2 : Int32} : ∀ G : ez_F, fx_up X 1 G 176 23 [.ref 35, .int a0, .int a1] [.int a2] (ev_hp I J R T) cz kz = bif decide (¬ a2 = (0 : Int32)) then G 176 30 [.ref 35, .int a0, .int a1] [] (ev_hp I J R T) cz kz else G 176 26 [.ref 35, .int a0, .int a1] [] (ev_hp I J R T) cz kz := by
  intro G
  rfl
set_option maxRecDepth 100000 in
theorem mg_r14 {a0 : Int32} {a1 : Int32} : ∀ G : ez_F, fx_up X 8 G 176 30 [.ref 35, .int a0, .int a1] [] (ev_hp I J R T) cz kz = G 176 42 [.ref 35, .int a0, .int a1, .int (0 : Int32)] [.int a1, .ref 46, .int a1, .ref 46] (ev_hp I J R T) cz kz := by
  intro G
  rfl
set_option maxRecDepth 100000 in
theorem mg_r15 {a0 : Int32} {a1 : Int32} {a2 : Int32} {a3 : Int64} {a4 : Int32} : ∀ G : ez_F, fx_up X 4 G 176 43 [.ref 35, .int a0, .int a1, .int a2] [.long a3, .int a4, .ref 46] (ev_hp I J R T) cz kz = G 176 47 [.ref 35, .int a0, .int a1, .int a2] [.long (a3 ||| ((1 : Int64) <<< (a0.toInt64 &&& (63 : Int64)))), .int a4, .ref 46] (ev_hp I J R T) cz kz := by
  intro G
  rfl
set_option maxRecDepth 100000 in
theorem mg_r16 {a0 : Int32} {a1 : Int32} {a2 : Int32} : ∀ G : ez_F, fx_up X 2 G 176 48 [.ref 35, .int a0, .int a1, .int a2] [] (ev_hp I J R T) cz kz = G 176 52 [.ref 35, .int a0, .int a1, .int a2] [.int (I 35 7)] (ev_hp I J R T) cz kz := by
  intro G
  rfl
set_option maxRecDepth 100000 in
theorem mg_r17 {a0 : Int32} {a1 : Int32} {a2 : Int32} {a3 : Int32} : ∀ G : ez_F, fx_up X 2 G 176 52 [.ref 35, .int a0, .int a1, .int a2] [.int a3] (ev_hp I J R T) cz kz = bif decide (¬ a3 = (1 : Int32)) then G 176 80 [.ref 35, .int a0, .int a1, .int a2] [] (ev_hp I J R T) cz kz else G 176 56 [.ref 35, .int a0, .int a1, .int a2] [] (ev_hp I J R T) cz kz := by
  intro G
  rfl
set_option maxRecDepth 100000 in
theorem mg_r18 {a0 : Int32} {a1 : Int32} {a2 : Int32} : ∀ G : ez_F, fx_up X 2 G 176 80 [.ref 35, .int a0, .int a1, .int a2] [] (ev_hp I J R T) cz kz = some (some (.int (1 : Int32)), (ev_hp I J R T), cz, kz) := by
  intro G
  rfl
set_option maxRecDepth 100000 in
theorem mg_r19 {a0 : Int32} {a1 : Int32} {a2 : Int32} : ∀ G : ez_F, fx_up X 2 G 176 56 [.ref 35, .int a0, .int a1, .int a2] [] (ev_hp I J R T) cz kz = bif decide (a2 = (0 : Int32)) then G 176 80 [.ref 35, .int a0, .int a1, .int a2] [] (ev_hp I J R T) cz kz else G 176 60 [.ref 35, .int a0, .int a1, .int a2] [] (ev_hp I J R T) cz kz := by
  intro G
  rfl
set_option maxRecDepth 100000 in
theorem mg_r20 {a0 : Int32} {a1 : Int32} : ∀ G : ez_F, fx_up X 9 G 176 26 [.ref 35, .int a0, .int a1] [] (ev_hp I J R T) cz kz = G 176 42 [.ref 35, .int a0, .int a1, .int (1 : Int32)] [.int a1, .ref 46, .int a1, .ref 46] (ev_hp I J R T) cz kz := by
  intro G
  rfl
set_option maxRecDepth 100000 in
theorem mg_r21 {a0 : Int32} {a1 : Int32} {a2 : Int32} : ∀ G : ez_F, fx_up X 3 G 176 60 [.ref 35, .int a0, .int a1, .int a2] [] (ev_hp I J R T) cz kz = G 176 65 [.ref 35, .int a0, .int a1, .int a2] [.int a1, .ref 46] (ev_hp I J R T) cz kz := by
  intro G
  rfl
set_option maxRecDepth 100000 in
theorem mg_r22 {a0 : Int32} {a1 : Int32} {a2 : Int32} {a3 : Int64} : ∀ G : ez_F, fx_up X 3 G 176 66 [.ref 35, .int a0, .int a1, .int a2] [.long a3] (ev_hp I J R T) cz kz = G 176 71 [.ref 35, .int a0, .int a1, .int a2] [.int a1, .ref 45, .long a3] (ev_hp I J R T) cz kz := by
  intro G
  rfl
set_option maxRecDepth 100000 in
theorem mg_r23 {a0 : Int32} {a1 : Int32} {a2 : Int32} {a3 : Int64} {a4 : Int64} : ∀ G : ez_F, fx_up X 2 G 176 72 [.ref 35, .int a0, .int a1, .int a2] [.long a3, .long a4] (ev_hp I J R T) cz kz = bif decide (¬ (lg_cmp a4 a3) = (0 : Int32)) then G 176 80 [.ref 35, .int a0, .int a1, .int a2] [] (ev_hp I J R T) cz kz else G 176 76 [.ref 35, .int a0, .int a1, .int a2] [] (ev_hp I J R T) cz kz := by
  intro G
  rfl
set_option maxRecDepth 100000 in
theorem mg_r24 {a0 : Int32} {a1 : Int32} {a2 : Int32} : ∀ G : ez_F, fx_up X 3 G 176 76 [.ref 35, .int a0, .int a1, .int a2] [] (ev_hp I J R T) cz kz = some (some (.int (2 : Int32)), (ev_hp I J R T), cz, kz) := by
  intro G
  rfl
set_option maxRecDepth 100000 in
theorem mg_r25 {a0 : Int32} {a1 : Int32} : ∀ G : ez_F, fx_up X 2 G 176 11 [.ref 35, .int a0, .int a1] [] (ev_hp I J R T) cz kz = some (some (.int (0 : Int32)), (ev_hp I J R T), cz, kz) := by
  intro G
  rfl
theorem ce_5 {x s : Int32}
    (H : ((¬ s = (-1 : Int32) → (ev_ix s 3 → ((¬ (ev_has (J 46 s.toNatClampNeg) x) = (0 : Int32) → (ev_ix s 3 → (ev_ix s 3 → ((¬ (I 35 7) = (1 : Int32) → Q (some (.int (1 : Int32))) (ev_hp I (ev_sJ J 46 (vp_updL (J 46) s.toNatClampNeg ((J 46 s.toNatClampNeg) ||| ((1 : Int64) <<< (x.toInt64 &&& (63 : Int64)))))) R T)) ∧ (¬ (¬ (I 35 7) = (1 : Int32)) → Q (some (.int (1 : Int32))) (ev_hp I (ev_sJ J 46 (vp_updL (J 46) s.toNatClampNeg ((J 46 s.toNatClampNeg) ||| ((1 : Int64) <<< (x.toInt64 &&& (63 : Int64)))))) R T)))))) ∧ (¬ (¬ (ev_has (J 46 s.toNatClampNeg) x) = (0 : Int32)) → (ev_ix s 3 → (ev_ix s 3 → ((¬ (I 35 7) = (1 : Int32) → Q (some (.int (1 : Int32))) (ev_hp I (ev_sJ J 46 (vp_updL (J 46) s.toNatClampNeg ((J 46 s.toNatClampNeg) ||| ((1 : Int64) <<< (x.toInt64 &&& (63 : Int64)))))) R T)) ∧ (¬ (¬ (I 35 7) = (1 : Int32)) → (ev_ix s 3 → (ev_ix s 3 → ((¬ (lg_cmp ((vp_updL (J 46) s.toNatClampNeg ((J 46 s.toNatClampNeg) ||| ((1 : Int64) <<< (x.toInt64 &&& (63 : Int64))))) s.toNatClampNeg) (J 45 s.toNatClampNeg)) = (0 : Int32) → Q (some (.int (1 : Int32))) (ev_hp I (ev_sJ J 46 (vp_updL (J 46) s.toNatClampNeg ((J 46 s.toNatClampNeg) ||| ((1 : Int64) <<< (x.toInt64 &&& (63 : Int64)))))) R T)) ∧ (¬ (¬ (lg_cmp ((vp_updL (J 46) s.toNatClampNeg ((J 46 s.toNatClampNeg) ||| ((1 : Int64) <<< (x.toInt64 &&& (63 : Int64))))) s.toNatClampNeg) (J 45 s.toNatClampNeg)) = (0 : Int32)) → Q (some (.int (2 : Int32))) (ev_hp I (ev_sJ J 46 (vp_updL (J 46) s.toNatClampNeg ((J 46 s.toNatClampNeg) ||| ((1 : Int64) <<< (x.toInt64 &&& (63 : Int64)))))) R T))))))))))))) ∧ (¬ (¬ s = (-1 : Int32)) → Q (some (.int (0 : Int32))) (ev_hp I J R T)))) : pw (N + 1) X 176 5 [.ref 35, .int x] [.int s] (ev_hp I J R T) Q := by
  refine pw_if (by decide) (fun _ _ => mg_r10) (fun w1 => ?_) (fun w1 => ?_)
  · have h1 := H.1 w1
    refine pw_p (pw_seg (by decide) (fun _ _ => mg_r11) ?_)
    refine pw_p (pw_lald (by rfl) (cx_getJ (show cx_Ds[46]? = some (1, 3, []) from rfl)) (fun w2 => ?_))
    have h2 := h1 w2
    refine pw_p (pw_callp (by decide) (fun _ _ => mg_r12) (pe_is (em_has _ _ _ _)) ?_)
    refine pw_p (pw_if (by decide) (fun _ _ => mg_r13) (fun w2 => ?_) (fun w2 => ?_))
    · have h2 := h2.1 w2
      refine pw_p (pw_seg (by decide) (fun _ _ => mg_r14) ?_)
      refine pw_p (pw_lald (by rfl) (cx_getJ (show cx_Ds[46]? = some (1, 3, []) from rfl)) (fun w3 => ?_))
      have h3 := h2 w3
      refine pw_p (pw_seg (by decide) (fun _ _ => mg_r15) ?_)
      refine pw_p (pw_last (by rfl) (cx_getJ (show cx_Ds[46]? = some (1, 3, []) from rfl)) (cx_setJ (show cx_Ds[46]? = some (1, 3, []) from rfl) _) (fun w3 => ?_))
      have h3 := h3 w3
      refine pw_p (pw_seg (by decide) (fun _ _ => mg_r16) ?_)
      refine pw_p (pw_if (by decide) (fun _ _ => mg_r17) (fun w3 => ?_) (fun w3 => ?_))
      · have h3 := h3.1 w3
        exact pw_p (pw_ret (by decide) (fun _ _ => mg_r18) h3)
      · have h3 := h3.2 w3
        refine pw_p (pw_if (by decide) (fun _ _ => mg_r19) (fun w4 => ?_) (fun w4 => ?_))
        rotate_left
        · exact absurd (by decide) w4
        exact pw_p (pw_ret (by decide) (fun _ _ => mg_r18) h3)
    · have h2 := h2.2 w2
      refine pw_p (pw_seg (by decide) (fun _ _ => mg_r20) ?_)
      refine pw_p (pw_lald (by rfl) (cx_getJ (show cx_Ds[46]? = some (1, 3, []) from rfl)) (fun w3 => ?_))
      have h3 := h2 w3
      refine pw_p (pw_seg (by decide) (fun _ _ => mg_r15) ?_)
      refine pw_p (pw_last (by rfl) (cx_getJ (show cx_Ds[46]? = some (1, 3, []) from rfl)) (cx_setJ (show cx_Ds[46]? = some (1, 3, []) from rfl) _) (fun w3 => ?_))
      have h3 := h3 w3
      refine pw_p (pw_seg (by decide) (fun _ _ => mg_r16) ?_)
      refine pw_p (pw_if (by decide) (fun _ _ => mg_r17) (fun w3 => ?_) (fun w3 => ?_))
      · have h3 := h3.1 w3
        exact pw_p (pw_ret (by decide) (fun _ _ => mg_r18) h3)
      · have h3 := h3.2 w3
        refine pw_p (pw_if (by decide) (fun _ _ => mg_r19) (fun w4 => ?_) (fun w4 => ?_))
        · exact absurd w4 (by decide)
        refine pw_p (pw_seg (by decide) (fun _ _ => mg_r21) ?_)
        refine pw_p (pw_lald (by rfl) (cx_getJ (show cx_Ds[46]? = some (1, 3, []) from rfl)) (fun w4 => ?_))
        have h4 := h3 w4
        refine pw_p (pw_seg (by decide) (fun _ _ => mg_r22) ?_)
        refine pw_p (pw_lald (by rfl) (cx_getJ (show cx_Ds[45]? = some (1, 3, []) from rfl)) (fun w4 => ?_))
        have h4 := h4 w4
        refine pw_p (pw_if (by decide) (fun _ _ => mg_r23) (fun w4 => ?_) (fun w4 => ?_))
        · have h4 := h4.1 w4
          exact pw_p (pw_ret (by decide) (fun _ _ => mg_r18) h4)
        · have h4 := h4.2 w4
          exact pw_p (pw_ret (by decide) (fun _ _ => mg_r24) h4)
  · have h1 := H.2 w1
    exact pw_p (pw_ret (by decide) (fun _ _ => mg_r25) h1)
set_option maxRecDepth 100000 in
theorem mg_r26 {a0 : Int64} : ∀ G : ez_F, fx_up X 3 G 187 0 [.ref 35, .long a0, ez_fill] [] (ev_hp I J R T) cz kz = ev_C G 179 [.ref 35] (ev_hp I J R T) fun r h1 c1 k1 => G 187 5 [.ref 35, .long a0, ez_fill] (r.toList ++ [.long (1 : Int64)]) h1 (cz + c1) (kz + k1) := by
  intro G
  rfl
set_option maxRecDepth 100000 in
theorem mg_r27 {a0 : Int64} {a1 : Int32} {a2 : Int64} : ∀ G : ez_F, fx_up X 8 G 187 5 [.ref 35, .long a0, ez_fill] [.int a1, .long a2] (ev_hp I J R T) cz kz = G 187 15 [.ref 35, .long a0, ez_fill, .long ((a2 <<< (a1.toInt64 &&& (63 : Int64))) - (1 : Int64)), ez_fill, .long (0 : Int64), ez_fill, .int (0 : Int32)] [] (ev_hp I J R T) cz kz := by
  intro G
  rfl
theorem dr_0 {z : Int64}
    (H : pw N X 187 15 [.ref 35, .long z, ez_fill, .long (((1 : Int64) <<< (((I 35 0) * (I 35 1)).toInt64 &&& (63 : Int64))) - (1 : Int64)), ez_fill, .long (0 : Int64), ez_fill, .int (0 : Int32)] [] (ev_hp I J R T) Q) : pw (N + 1) X 187 0 [.ref 35, .long z, ez_fill] [] (ev_hp I J R T) Q := by
  refine pw_callp (by decide) (fun _ _ => mg_r26) (pe_mcount) ?_
  refine pw_p (pw_seg (by decide) (fun _ _ => mg_r27) ?_)
  exact H
set_option maxRecDepth 100000 in
theorem mg_r28 {a0 : Int64} {a1 : Int64} {a2 : Int64} {a3 : Int32} : ∀ G : ez_F, fx_up X 3 G 187 15 [.ref 35, .long a0, ez_fill, .long a1, ez_fill, .long a2, ez_fill, .int a3] [] (ev_hp I J R T) cz kz = G 187 21 [.ref 35, .long a0, ez_fill, .long a1, ez_fill, .long a2, ez_fill, .int a3] [.int (I 35 1), .int a3] (ev_hp I J R T) cz kz := by
  intro G
  rfl
set_option maxRecDepth 100000 in
theorem mg_r29 {a0 : Int64} {a1 : Int64} {a2 : Int64} {a3 : Int32} {a4 : Int32} {a5 : Int32} : ∀ G : ez_F, fx_up X 1 G 187 21 [.ref 35, .long a0, ez_fill, .long a1, ez_fill, .long a2, ez_fill, .int a3] [.int a4, .int a5] (ev_hp I J R T) cz kz = bif decide (a4 ≤ a5) then G 187 44 [.ref 35, .long a0, ez_fill, .long a1, ez_fill, .long a2, ez_fill, .int a3] [] (ev_hp I J R T) cz kz else G 187 24 [.ref 35, .long a0, ez_fill, .long a1, ez_fill, .long a2, ez_fill, .int a3] [] (ev_hp I J R T) cz kz := by
  intro G
  rfl
set_option maxRecDepth 100000 in
theorem mg_r30 {a0 : Int64} {a1 : Int64} {a2 : Int64} {a3 : Int32} : ∀ G : ez_F, fx_up X 4 G 187 24 [.ref 35, .long a0, ez_fill, .long a1, ez_fill, .long a2, ez_fill, .int a3] [] (ev_hp I J R T) cz kz = G 187 31 [.ref 35, .long a0, ez_fill, .long a1, ez_fill, .long a2, ez_fill, .int a3] [.int (I 35 0), .long (1 : Int64), .long a2] (ev_hp I J R T) cz kz := by
  intro G
  rfl
set_option maxRecDepth 100000 in
theorem mg_r31 {a0 : Int64} {a1 : Int64} {a2 : Int64} {a3 : Int32} {a4 : Int32} {a5 : Int64} {a6 : Int64} : ∀ G : ez_F, fx_up X 7 G 187 31 [.ref 35, .long a0, ez_fill, .long a1, ez_fill, .long a2, ez_fill, .int a3] [.int a4, .long a5, .long a6] (ev_hp I J R T) cz kz = G 187 15 [.ref 35, .long a0, ez_fill, .long a1, ez_fill, .long (a6 ||| (a5 <<< ((a4 * a3).toInt64 &&& (63 : Int64)))), ez_fill, .int (a3 + (1 : Int32))] [] (ev_hp I J R T) cz kz := by
  intro G
  rfl
theorem dr_15 {z a f : Int64} {y : Int32}
    (H : (((I 35 1) ≤ y → pw N X 187 44 [.ref 35, .long z, ez_fill, .long a, ez_fill, .long f, ez_fill, .int y] [] (ev_hp I J R T) Q) ∧ (¬ ((I 35 1) ≤ y) → pw N X 187 15 [.ref 35, .long z, ez_fill, .long a, ez_fill, .long (f ||| ((1 : Int64) <<< (((I 35 0) * y).toInt64 &&& (63 : Int64)))), ez_fill, .int (y + (1 : Int32))] [] (ev_hp I J R T) Q))) : pw (N + 1) X 187 15 [.ref 35, .long z, ez_fill, .long a, ez_fill, .long f, ez_fill, .int y] [] (ev_hp I J R T) Q := by
  refine pw_seg (by decide) (fun _ _ => mg_r28) ?_
  refine pw_p (pw_if (by decide) (fun _ _ => mg_r29) (fun w1 => ?_) (fun w1 => ?_))
  · have h1 := H.1 w1
    exact h1
  · have h1 := H.2 w1
    refine pw_p (pw_seg (by decide) (fun _ _ => mg_r30) ?_)
    refine pw_p (pw_seg (by decide) (fun _ _ => mg_r31) ?_)
    exact h1
set_option maxRecDepth 100000 in
theorem mg_r32 {a0 : Int64} {a1 : Int64} {a2 : Int64} {a3 : Int32} : ∀ G : ez_F, fx_up X 3 G 187 44 [.ref 35, .long a0, ez_fill, .long a1, ez_fill, .long a2, ez_fill, .int a3] [] (ev_hp I J R T) cz kz = G 187 50 [.ref 35, .long a0, ez_fill, .long a1, ez_fill, .long a2, ez_fill, .int a3] [.int (I 35 0), .long a2] (ev_hp I J R T) cz kz := by
  intro G
  rfl
set_option maxRecDepth 100000 in
theorem mg_r33 {a0 : Int64} {a1 : Int64} {a2 : Int64} {a3 : Int32} {a4 : Int32} {a5 : Int64} : ∀ G : ez_F, fx_up X 8 G 187 50 [.ref 35, .long a0, ez_fill, .long a1, ez_fill, .long a2, ez_fill, .int a3] [.int a4, .long a5] (ev_hp I J R T) cz kz = G 187 62 [.ref 35, .long a0, ez_fill, .long a1, ez_fill, .long a2, ez_fill, .long (a5 <<< ((a4 - (1 : Int32)).toInt64 &&& (63 : Int64))), ez_fill, .long a0, ez_fill] [.int (I 35 9)] (ev_hp I J R T) cz kz := by
  intro G
  rfl
set_option maxRecDepth 100000 in
theorem mg_r34 {a0 : Int64} {a1 : Int64} {a2 : Int64} {a3 : Int64} {a4 : Int64} {a5 : Int32} : ∀ G : ez_F, fx_up X 2 G 187 62 [.ref 35, .long a0, ez_fill, .long a1, ez_fill, .long a2, ez_fill, .long a3, ez_fill, .long a4, ez_fill] [.int a5] (ev_hp I J R T) cz kz = bif decide (¬ a5 = (1 : Int32)) then G 187 92 [.ref 35, .long a0, ez_fill, .long a1, ez_fill, .long a2, ez_fill, .long a3, ez_fill, .long a4, ez_fill] [] (ev_hp I J R T) cz kz else G 187 66 [.ref 35, .long a0, ez_fill, .long a1, ez_fill, .long a2, ez_fill, .long a3, ez_fill, .long a4, ez_fill] [] (ev_hp I J R T) cz kz := by
  intro G
  rfl
set_option maxRecDepth 100000 in
theorem mg_r35 {a0 : Int64} {a1 : Int64} {a2 : Int64} {a3 : Int64} {a4 : Int64} : ∀ G : ez_F, fx_up X 12 G 187 66 [.ref 35, .long a0, ez_fill, .long a1, ez_fill, .long a2, ez_fill, .long a3, ez_fill, .long a4, ez_fill] [] (ev_hp I J R T) cz kz = G 187 86 [.ref 35, .long a0, ez_fill, .long a1, ez_fill, .long a2, ez_fill, .long a3, ez_fill, .long a4, ez_fill] [.int (I 35 0), .long (a4 &&& a3), .long ((a4 &&& (a3 ^^^ (18446744073709551615 : Int64))) <<< ((1 : Int32).toInt64 &&& (63 : Int64)))] (ev_hp I J R T) cz kz := by
  intro G
  rfl
set_option maxRecDepth 100000 in
theorem mg_r36 {a0 : Int64} {a1 : Int64} {a2 : Int64} {a3 : Int64} {a4 : Int64} {a5 : Int32} {a6 : Int64} {a7 : Int64} : ∀ G : ez_F, fx_up X 5 G 187 86 [.ref 35, .long a0, ez_fill, .long a1, ez_fill, .long a2, ez_fill, .long a3, ez_fill, .long a4, ez_fill] [.int a5, .long a6, .long a7] (ev_hp I J R T) cz kz = G 187 92 [.ref 35, .long a0, ez_fill, .long a1, ez_fill, .long a2, ez_fill, .long a3, ez_fill, .long (a7 ||| (a6 >>> ((a5 - (1 : Int32)).toInt64 &&& (63 : Int64)))), ez_fill] [] (ev_hp I J R T) cz kz := by
  intro G
  rfl
theorem dr_44 {z a f : Int64} {y : Int32}
    (H : ((¬ (I 35 9) = (1 : Int32) → pw N X 187 92 [.ref 35, .long z, ez_fill, .long a, ez_fill, .long f, ez_fill, .long (f <<< (((I 35 0) - (1 : Int32)).toInt64 &&& (63 : Int64))), ez_fill, .long z, ez_fill] [] (ev_hp I J R T) Q) ∧ (¬ (¬ (I 35 9) = (1 : Int32)) → pw N X 187 92 [.ref 35, .long z, ez_fill, .long a, ez_fill, .long f, ez_fill, .long (f <<< (((I 35 0) - (1 : Int32)).toInt64 &&& (63 : Int64))), ez_fill, .long (((z &&& ((f <<< (((I 35 0) - (1 : Int32)).toInt64 &&& (63 : Int64))) ^^^ (18446744073709551615 : Int64))) <<< ((1 : Int32).toInt64 &&& (63 : Int64))) ||| ((z &&& (f <<< (((I 35 0) - (1 : Int32)).toInt64 &&& (63 : Int64)))) >>> (((I 35 0) - (1 : Int32)).toInt64 &&& (63 : Int64)))), ez_fill] [] (ev_hp I J R T) Q))) : pw (N + 1) X 187 44 [.ref 35, .long z, ez_fill, .long a, ez_fill, .long f, ez_fill, .int y] [] (ev_hp I J R T) Q := by
  refine pw_seg (by decide) (fun _ _ => mg_r32) ?_
  refine pw_p (pw_seg (by decide) (fun _ _ => mg_r33) ?_)
  refine pw_p (pw_if (by decide) (fun _ _ => mg_r34) (fun w1 => ?_) (fun w1 => ?_))
  · have h1 := H.1 w1
    exact h1
  · have h1 := H.2 w1
    refine pw_p (pw_seg (by decide) (fun _ _ => mg_r35) ?_)
    refine pw_p (pw_seg (by decide) (fun _ _ => mg_r36) ?_)
    exact h1
set_option maxRecDepth 100000 in
theorem mg_r37 {a0 : Int64} {a1 : Int64} {a2 : Int64} {a3 : Int64} {a4 : Int64} : ∀ G : ez_F, fx_up X 2 G 187 92 [.ref 35, .long a0, ez_fill, .long a1, ez_fill, .long a2, ez_fill, .long a3, ez_fill, .long a4, ez_fill] [] (ev_hp I J R T) cz kz = G 187 96 [.ref 35, .long a0, ez_fill, .long a1, ez_fill, .long a2, ez_fill, .long a3, ez_fill, .long a4, ez_fill] [.int (I 35 9)] (ev_hp I J R T) cz kz := by
  intro G
  rfl
set_option maxRecDepth 100000 in
theorem mg_r38 {a0 : Int64} {a1 : Int64} {a2 : Int64} {a3 : Int64} {a4 : Int64} {a5 : Int32} : ∀ G : ez_F, fx_up X 2 G 187 96 [.ref 35, .long a0, ez_fill, .long a1, ez_fill, .long a2, ez_fill, .long a3, ez_fill, .long a4, ez_fill] [.int a5] (ev_hp I J R T) cz kz = bif decide (¬ a5 = (-1 : Int32)) then G 187 126 [.ref 35, .long a0, ez_fill, .long a1, ez_fill, .long a2, ez_fill, .long a3, ez_fill, .long a4, ez_fill] [] (ev_hp I J R T) cz kz else G 187 100 [.ref 35, .long a0, ez_fill, .long a1, ez_fill, .long a2, ez_fill, .long a3, ez_fill, .long a4, ez_fill] [] (ev_hp I J R T) cz kz := by
  intro G
  rfl
set_option maxRecDepth 100000 in
theorem mg_r39 {a0 : Int64} {a1 : Int64} {a2 : Int64} {a3 : Int64} {a4 : Int64} : ∀ G : ez_F, fx_up X 12 G 187 100 [.ref 35, .long a0, ez_fill, .long a1, ez_fill, .long a2, ez_fill, .long a3, ez_fill, .long a4, ez_fill] [] (ev_hp I J R T) cz kz = G 187 120 [.ref 35, .long a0, ez_fill, .long a1, ez_fill, .long a2, ez_fill, .long a3, ez_fill, .long a4, ez_fill] [.int (I 35 0), .long (a4 &&& a2), .long ((a4 &&& (a2 ^^^ (18446744073709551615 : Int64))) >>> ((1 : Int32).toInt64 &&& (63 : Int64)))] (ev_hp I J R T) cz kz := by
  intro G
  rfl
set_option maxRecDepth 100000 in
theorem mg_r40 {a0 : Int64} {a1 : Int64} {a2 : Int64} {a3 : Int64} {a4 : Int64} {a5 : Int32} {a6 : Int64} {a7 : Int64} : ∀ G : ez_F, fx_up X 5 G 187 120 [.ref 35, .long a0, ez_fill, .long a1, ez_fill, .long a2, ez_fill, .long a3, ez_fill, .long a4, ez_fill] [.int a5, .long a6, .long a7] (ev_hp I J R T) cz kz = G 187 126 [.ref 35, .long a0, ez_fill, .long a1, ez_fill, .long a2, ez_fill, .long a3, ez_fill, .long (a7 ||| (a6 <<< ((a5 - (1 : Int32)).toInt64 &&& (63 : Int64)))), ez_fill] [] (ev_hp I J R T) cz kz := by
  intro G
  rfl
theorem dr_92 {z a f l v : Int64}
    (H : ((¬ (I 35 9) = (-1 : Int32) → pw N X 187 126 [.ref 35, .long z, ez_fill, .long a, ez_fill, .long f, ez_fill, .long l, ez_fill, .long v, ez_fill] [] (ev_hp I J R T) Q) ∧ (¬ (¬ (I 35 9) = (-1 : Int32)) → pw N X 187 126 [.ref 35, .long z, ez_fill, .long a, ez_fill, .long f, ez_fill, .long l, ez_fill, .long (((v &&& (f ^^^ (18446744073709551615 : Int64))) >>> ((1 : Int32).toInt64 &&& (63 : Int64))) ||| ((v &&& f) <<< (((I 35 0) - (1 : Int32)).toInt64 &&& (63 : Int64)))), ez_fill] [] (ev_hp I J R T) Q))) : pw (N + 1) X 187 92 [.ref 35, .long z, ez_fill, .long a, ez_fill, .long f, ez_fill, .long l, ez_fill, .long v, ez_fill] [] (ev_hp I J R T) Q := by
  refine pw_seg (by decide) (fun _ _ => mg_r37) ?_
  refine pw_p (pw_if (by decide) (fun _ _ => mg_r38) (fun w1 => ?_) (fun w1 => ?_))
  · have h1 := H.1 w1
    exact h1
  · have h1 := H.2 w1
    refine pw_p (pw_seg (by decide) (fun _ _ => mg_r39) ?_)
    refine pw_p (pw_seg (by decide) (fun _ _ => mg_r40) ?_)
    exact h1
set_option maxRecDepth 100000 in
theorem mg_r41 {a0 : Int64} {a1 : Int64} {a2 : Int64} {a3 : Int64} {a4 : Int64} : ∀ G : ez_F, fx_up X 2 G 187 126 [.ref 35, .long a0, ez_fill, .long a1, ez_fill, .long a2, ez_fill, .long a3, ez_fill, .long a4, ez_fill] [] (ev_hp I J R T) cz kz = G 187 130 [.ref 35, .long a0, ez_fill, .long a1, ez_fill, .long a2, ez_fill, .long a3, ez_fill, .long a4, ez_fill] [.int (I 35 10)] (ev_hp I J R T) cz kz := by
  intro G
  rfl
set_option maxRecDepth 100000 in
theorem mg_r42 {a0 : Int64} {a1 : Int64} {a2 : Int64} {a3 : Int64} {a4 : Int64} {a5 : Int32} : ∀ G : ez_F, fx_up X 2 G 187 130 [.ref 35, .long a0, ez_fill, .long a1, ez_fill, .long a2, ez_fill, .long a3, ez_fill, .long a4, ez_fill] [.int a5] (ev_hp I J R T) cz kz = bif decide (¬ a5 = (1 : Int32)) then G 187 160 [.ref 35, .long a0, ez_fill, .long a1, ez_fill, .long a2, ez_fill, .long a3, ez_fill, .long a4, ez_fill] [] (ev_hp I J R T) cz kz else G 187 134 [.ref 35, .long a0, ez_fill, .long a1, ez_fill, .long a2, ez_fill, .long a3, ez_fill, .long a4, ez_fill] [] (ev_hp I J R T) cz kz := by
  intro G
  rfl
set_option maxRecDepth 100000 in
theorem mg_r43 {a0 : Int64} {a1 : Int64} {a2 : Int64} {a3 : Int64} {a4 : Int64} : ∀ G : ez_F, fx_up X 3 G 187 134 [.ref 35, .long a0, ez_fill, .long a1, ez_fill, .long a2, ez_fill, .long a3, ez_fill, .long a4, ez_fill] [] (ev_hp I J R T) cz kz = G 187 140 [.ref 35, .long a0, ez_fill, .long a1, ez_fill, .long a2, ez_fill, .long a3, ez_fill, .long a4, ez_fill] [.int (I 35 0), .long a4] (ev_hp I J R T) cz kz := by
  intro G
  rfl
set_option maxRecDepth 100000 in
theorem mg_r44 {a0 : Int64} {a1 : Int64} {a2 : Int64} {a3 : Int64} {a4 : Int64} {a5 : Int32} {a6 : Int64} : ∀ G : ez_F, fx_up X 6 G 187 140 [.ref 35, .long a0, ez_fill, .long a1, ez_fill, .long a2, ez_fill, .long a3, ez_fill, .long a4, ez_fill] [.int a5, .long a6] (ev_hp I J R T) cz kz = G 187 149 [.ref 35, .long a0, ez_fill, .long a1, ez_fill, .long a2, ez_fill, .long a3, ez_fill, .long a4, ez_fill] [.int (I 35 0), .long a4, .long ((a6 <<< (a5.toInt64 &&& (63 : Int64))) &&& a1)] (ev_hp I J R T) cz kz := by
  intro G
  rfl
set_option maxRecDepth 100000 in
theorem mg_r45 {a0 : Int64} {a1 : Int64} {a2 : Int64} {a3 : Int64} {a4 : Int64} {a5 : Int32} {a6 : Int64} {a7 : Int64} : ∀ G : ez_F, fx_up X 2 G 187 149 [.ref 35, .long a0, ez_fill, .long a1, ez_fill, .long a2, ez_fill, .long a3, ez_fill, .long a4, ez_fill] [.int a5, .long a6, .long a7] (ev_hp I J R T) cz kz = G 187 153 [.ref 35, .long a0, ez_fill, .long a1, ez_fill, .long a2, ez_fill, .long a3, ez_fill, .long a4, ez_fill] [.int (I 35 1), .int a5, .long a6, .long a7] (ev_hp I J R T) cz kz := by
  intro G
  rfl
set_option maxRecDepth 100000 in
theorem mg_r46 {a0 : Int64} {a1 : Int64} {a2 : Int64} {a3 : Int64} {a4 : Int64} {a5 : Int32} {a6 : Int32} {a7 : Int64} {a8 : Int64} : ∀ G : ez_F, fx_up X 6 G 187 153 [.ref 35, .long a0, ez_fill, .long a1, ez_fill, .long a2, ez_fill, .long a3, ez_fill, .long a4, ez_fill] [.int a5, .int a6, .long a7, .long a8] (ev_hp I J R T) cz kz = G 187 160 [.ref 35, .long a0, ez_fill, .long a1, ez_fill, .long a2, ez_fill, .long a3, ez_fill, .long (a8 ||| (a7 >>> ((a6 * (a5 - (1 : Int32))).toInt64 &&& (63 : Int64)))), ez_fill] [] (ev_hp I J R T) cz kz := by
  intro G
  rfl
theorem dr_126 {z a f l v : Int64}
    (H : ((¬ (I 35 10) = (1 : Int32) → pw N X 187 160 [.ref 35, .long z, ez_fill, .long a, ez_fill, .long f, ez_fill, .long l, ez_fill, .long v, ez_fill] [] (ev_hp I J R T) Q) ∧ (¬ (¬ (I 35 10) = (1 : Int32)) → pw N X 187 160 [.ref 35, .long z, ez_fill, .long a, ez_fill, .long f, ez_fill, .long l, ez_fill, .long (((v <<< ((I 35 0).toInt64 &&& (63 : Int64))) &&& a) ||| (v >>> (((I 35 0) * ((I 35 1) - (1 : Int32))).toInt64 &&& (63 : Int64)))), ez_fill] [] (ev_hp I J R T) Q))) : pw (N + 1) X 187 126 [.ref 35, .long z, ez_fill, .long a, ez_fill, .long f, ez_fill, .long l, ez_fill, .long v, ez_fill] [] (ev_hp I J R T) Q := by
  refine pw_seg (by decide) (fun _ _ => mg_r41) ?_
  refine pw_p (pw_if (by decide) (fun _ _ => mg_r42) (fun w1 => ?_) (fun w1 => ?_))
  · have h1 := H.1 w1
    exact h1
  · have h1 := H.2 w1
    refine pw_p (pw_seg (by decide) (fun _ _ => mg_r43) ?_)
    refine pw_p (pw_seg (by decide) (fun _ _ => mg_r44) ?_)
    refine pw_p (pw_seg (by decide) (fun _ _ => mg_r45) ?_)
    refine pw_p (pw_seg (by decide) (fun _ _ => mg_r46) ?_)
    exact h1
set_option maxRecDepth 100000 in
theorem mg_r47 {a0 : Int64} {a1 : Int64} {a2 : Int64} {a3 : Int64} {a4 : Int64} : ∀ G : ez_F, fx_up X 2 G 187 160 [.ref 35, .long a0, ez_fill, .long a1, ez_fill, .long a2, ez_fill, .long a3, ez_fill, .long a4, ez_fill] [] (ev_hp I J R T) cz kz = G 187 164 [.ref 35, .long a0, ez_fill, .long a1, ez_fill, .long a2, ez_fill, .long a3, ez_fill, .long a4, ez_fill] [.int (I 35 10)] (ev_hp I J R T) cz kz := by
  intro G
  rfl
set_option maxRecDepth 100000 in
theorem mg_r48 {a0 : Int64} {a1 : Int64} {a2 : Int64} {a3 : Int64} {a4 : Int64} {a5 : Int32} : ∀ G : ez_F, fx_up X 2 G 187 164 [.ref 35, .long a0, ez_fill, .long a1, ez_fill, .long a2, ez_fill, .long a3, ez_fill, .long a4, ez_fill] [.int a5] (ev_hp I J R T) cz kz = bif decide (¬ a5 = (-1 : Int32)) then G 187 194 [.ref 35, .long a0, ez_fill, .long a1, ez_fill, .long a2, ez_fill, .long a3, ez_fill, .long a4, ez_fill] [] (ev_hp I J R T) cz kz else G 187 168 [.ref 35, .long a0, ez_fill, .long a1, ez_fill, .long a2, ez_fill, .long a3, ez_fill, .long a4, ez_fill] [] (ev_hp I J R T) cz kz := by
  intro G
  rfl
set_option maxRecDepth 100000 in
theorem mg_r49 {a0 : Int64} {a1 : Int64} {a2 : Int64} {a3 : Int64} {a4 : Int64} : ∀ G : ez_F, fx_up X 2 G 187 194 [.ref 35, .long a0, ez_fill, .long a1, ez_fill, .long a2, ez_fill, .long a3, ez_fill, .long a4, ez_fill] [] (ev_hp I J R T) cz kz = some (some (.long a4), (ev_hp I J R T), cz, kz) := by
  intro G
  rfl
set_option maxRecDepth 100000 in
theorem mg_r50 {a0 : Int64} {a1 : Int64} {a2 : Int64} {a3 : Int64} {a4 : Int64} : ∀ G : ez_F, fx_up X 3 G 187 168 [.ref 35, .long a0, ez_fill, .long a1, ez_fill, .long a2, ez_fill, .long a3, ez_fill, .long a4, ez_fill] [] (ev_hp I J R T) cz kz = G 187 174 [.ref 35, .long a0, ez_fill, .long a1, ez_fill, .long a2, ez_fill, .long a3, ez_fill, .long a4, ez_fill] [.int (I 35 0), .long a4] (ev_hp I J R T) cz kz := by
  intro G
  rfl
set_option maxRecDepth 100000 in
theorem mg_r51 {a0 : Int64} {a1 : Int64} {a2 : Int64} {a3 : Int64} {a4 : Int64} {a5 : Int32} {a6 : Int64} : ∀ G : ez_F, fx_up X 4 G 187 174 [.ref 35, .long a0, ez_fill, .long a1, ez_fill, .long a2, ez_fill, .long a3, ez_fill, .long a4, ez_fill] [.int a5, .long a6] (ev_hp I J R T) cz kz = G 187 181 [.ref 35, .long a0, ez_fill, .long a1, ez_fill, .long a2, ez_fill, .long a3, ez_fill, .long a4, ez_fill] [.int (I 35 0), .long a4, .long (a6 >>> (a5.toInt64 &&& (63 : Int64)))] (ev_hp I J R T) cz kz := by
  intro G
  rfl
set_option maxRecDepth 100000 in
theorem mg_r52 {a0 : Int64} {a1 : Int64} {a2 : Int64} {a3 : Int64} {a4 : Int64} {a5 : Int32} {a6 : Int64} {a7 : Int64} : ∀ G : ez_F, fx_up X 2 G 187 181 [.ref 35, .long a0, ez_fill, .long a1, ez_fill, .long a2, ez_fill, .long a3, ez_fill, .long a4, ez_fill] [.int a5, .long a6, .long a7] (ev_hp I J R T) cz kz = G 187 185 [.ref 35, .long a0, ez_fill, .long a1, ez_fill, .long a2, ez_fill, .long a3, ez_fill, .long a4, ez_fill] [.int (I 35 1), .int a5, .long a6, .long a7] (ev_hp I J R T) cz kz := by
  intro G
  rfl
set_option maxRecDepth 100000 in
theorem mg_r53 {a0 : Int64} {a1 : Int64} {a2 : Int64} {a3 : Int64} {a4 : Int64} {a5 : Int32} {a6 : Int32} {a7 : Int64} {a8 : Int64} : ∀ G : ez_F, fx_up X 10 G 187 185 [.ref 35, .long a0, ez_fill, .long a1, ez_fill, .long a2, ez_fill, .long a3, ez_fill, .long a4, ez_fill] [.int a5, .int a6, .long a7, .long a8] (ev_hp I J R T) cz kz = some (some (.long (a8 ||| ((a7 <<< ((a6 * (a5 - (1 : Int32))).toInt64 &&& (63 : Int64))) &&& a1))), (ev_hp I J R T), cz, kz) := by
  intro G
  rfl
theorem dr_160 {z a f l v : Int64}
    (H : ((¬ (I 35 10) = (-1 : Int32) → Q (some (.long v)) (ev_hp I J R T)) ∧ (¬ (¬ (I 35 10) = (-1 : Int32)) → Q (some (.long ((v >>> ((I 35 0).toInt64 &&& (63 : Int64))) ||| ((v <<< (((I 35 0) * ((I 35 1) - (1 : Int32))).toInt64 &&& (63 : Int64))) &&& a)))) (ev_hp I J R T)))) : pw (N + 1) X 187 160 [.ref 35, .long z, ez_fill, .long a, ez_fill, .long f, ez_fill, .long l, ez_fill, .long v, ez_fill] [] (ev_hp I J R T) Q := by
  refine pw_seg (by decide) (fun _ _ => mg_r47) ?_
  refine pw_p (pw_if (by decide) (fun _ _ => mg_r48) (fun w1 => ?_) (fun w1 => ?_))
  · have h1 := H.1 w1
    exact pw_p (pw_ret (by decide) (fun _ _ => mg_r49) h1)
  · have h1 := H.2 w1
    refine pw_p (pw_seg (by decide) (fun _ _ => mg_r50) ?_)
    refine pw_p (pw_seg (by decide) (fun _ _ => mg_r51) ?_)
    refine pw_p (pw_seg (by decide) (fun _ _ => mg_r52) ?_)
    exact pw_p (pw_ret (by decide) (fun _ _ => mg_r53) h1)
set_option maxRecDepth 100000 in
theorem mg_r54  : ∀ G : ez_F, fx_up X 2 G 186 0 [.ref 35] [] (ev_hp I J R T) cz kz = G 186 4 [.ref 35] [.int (I 35 9)] (ev_hp I J R T) cz kz := by
  intro G
  rfl
set_option maxRecDepth 100000 in
theorem mg_r55 {a0 : Int32} : ∀ G : ez_F, fx_up X 1 G 186 4 [.ref 35] [.int a0] (ev_hp I J R T) cz kz = bif decide (¬ a0 = (0 : Int32)) then G 186 15 [.ref 35] [] (ev_hp I J R T) cz kz else G 186 7 [.ref 35] [] (ev_hp I J R T) cz kz := by
  intro G
  rfl
set_option maxRecDepth 100000 in
theorem mg_r56  : ∀ G : ez_F, fx_up X 6 G 186 15 [.ref 35] [] (ev_hp I J R T) cz kz = G 186 22 [.ref 35, .long (0 : Int64), ez_fill, .int (1 : Int32), .int (0 : Int32)] [] (ev_hp I J R T) cz kz := by
  intro G
  rfl
set_option maxRecDepth 100000 in
theorem mg_r57  : ∀ G : ez_F, fx_up X 2 G 186 7 [.ref 35] [] (ev_hp I J R T) cz kz = G 186 11 [.ref 35] [.int (I 35 10)] (ev_hp I J R T) cz kz := by
  intro G
  rfl
set_option maxRecDepth 100000 in
theorem mg_r58 {a0 : Int32} : ∀ G : ez_F, fx_up X 1 G 186 11 [.ref 35] [.int a0] (ev_hp I J R T) cz kz = bif decide (¬ a0 = (0 : Int32)) then G 186 15 [.ref 35] [] (ev_hp I J R T) cz kz else G 186 14 [.ref 35] [] (ev_hp I J R T) cz kz := by
  intro G
  rfl
set_option maxRecDepth 100000 in
theorem mg_r59  : ∀ G : ez_F, fx_up X 1 G 186 14 [.ref 35] [] (ev_hp I J R T) cz kz = some (none, (ev_hp I J R T), cz, kz) := by
  intro G
  rfl
theorem da_0 
    (H : ((¬ (I 35 9) = (0 : Int32) → pw N X 186 22 [.ref 35, .long (0 : Int64), ez_fill, .int (1 : Int32), .int (0 : Int32)] [] (ev_hp I J R T) Q) ∧ (¬ (¬ (I 35 9) = (0 : Int32)) → ((¬ (I 35 10) = (0 : Int32) → pw N X 186 22 [.ref 35, .long (0 : Int64), ez_fill, .int (1 : Int32), .int (0 : Int32)] [] (ev_hp I J R T) Q) ∧ (¬ (¬ (I 35 10) = (0 : Int32)) → Q none (ev_hp I J R T)))))) : pw (N + 1) X 186 0 [.ref 35] [] (ev_hp I J R T) Q := by
  refine pw_seg (by decide) (fun _ _ => mg_r54) ?_
  refine pw_p (pw_if (by decide) (fun _ _ => mg_r55) (fun w1 => ?_) (fun w1 => ?_))
  · have h1 := H.1 w1
    refine pw_p (pw_seg (by decide) (fun _ _ => mg_r56) ?_)
    exact h1
  · have h1 := H.2 w1
    refine pw_p (pw_seg (by decide) (fun _ _ => mg_r57) ?_)
    refine pw_p (pw_if (by decide) (fun _ _ => mg_r58) (fun w2 => ?_) (fun w2 => ?_))
    · have h2 := h1.1 w2
      refine pw_p (pw_seg (by decide) (fun _ _ => mg_r56) ?_)
      exact h2
    · have h2 := h1.2 w2
      exact pw_p (pw_ret (by decide) (fun _ _ => mg_r59) h2)
set_option maxRecDepth 100000 in
theorem mg_r60 {a0 : Int64} {a1 : Int32} {a2 : Int32} : ∀ G : ez_F, fx_up X 3 G 186 22 [.ref 35, .long a0, ez_fill, .int a1, .int a2] [] (ev_hp I J R T) cz kz = G 186 28 [.ref 35, .long a0, ez_fill, .int a1, .int a2] [.int (I 35 3), .int a2] (ev_hp I J R T) cz kz := by
  intro G
  rfl
set_option maxRecDepth 100000 in
theorem mg_r61 {a0 : Int64} {a1 : Int32} {a2 : Int32} {a3 : Int32} {a4 : Int32} : ∀ G : ez_F, fx_up X 1 G 186 28 [.ref 35, .long a0, ez_fill, .int a1, .int a2] [.int a3, .int a4] (ev_hp I J R T) cz kz = bif decide (a3 ≤ a4) then G 186 111 [.ref 35, .long a0, ez_fill, .int a1, .int a2] [] (ev_hp I J R T) cz kz else G 186 31 [.ref 35, .long a0, ez_fill, .int a1, .int a2] [] (ev_hp I J R T) cz kz := by
  intro G
  rfl
set_option maxRecDepth 100000 in
theorem mg_r62 {a0 : Int64} {a1 : Int32} {a2 : Int32} : ∀ G : ez_F, fx_up X 6 G 186 31 [.ref 35, .long a0, ez_fill, .int a1, .int a2] [] (ev_hp I J R T) cz kz = G 186 43 [.ref 35, .long a0, ez_fill, .int a1, .int a2] [.int a2, .ref 46, .int a2, .ref 47] (ev_hp I J R T) cz kz := by
  intro G
  rfl
set_option maxRecDepth 100000 in
theorem mg_r63 {a0 : Int64} {a1 : Int32} {a2 : Int32} {a3 : Int64} {a4 : Int32} : ∀ G : ez_F, fx_up X 3 G 186 44 [.ref 35, .long a0, ez_fill, .int a1, .int a2] [.long a3, .int a4, .ref 47] (ev_hp I J R T) cz kz = bif decide (¬ (lg_cmp a3 (0 : Int64)) = (0 : Int32)) then G 186 63 [.ref 35, .long a0, ez_fill, .int a1, .int a2] [.int a4, .ref 47] (ev_hp I J R T) cz kz else G 186 49 [.ref 35, .long a0, ez_fill, .int a1, .int a2] [.int a4, .ref 47] (ev_hp I J R T) cz kz := by
  intro G
  rfl
set_option maxRecDepth 100000 in
theorem mg_r64 {a0 : Int64} {a1 : Int32} {a2 : Int32} {a3 : Int32} : ∀ G : ez_F, fx_up X 3 G 186 63 [.ref 35, .long a0, ez_fill, .int a1, .int a2] [.int a3, .ref 47] (ev_hp I J R T) cz kz = G 186 69 [.ref 35, .long a0, ez_fill, .int a1, .int a2] [.int a2, .ref 45, .int a3, .ref 47] (ev_hp I J R T) cz kz := by
  intro G
  rfl
set_option maxRecDepth 100000 in
theorem mg_r65 {a0 : Int64} {a1 : Int32} {a2 : Int32} {a3 : Int32} : ∀ G : ez_F, fx_up X 4 G 186 49 [.ref 35, .long a0, ez_fill, .int a1, .int a2] [.int a3, .ref 47] (ev_hp I J R T) cz kz = G 186 56 [.ref 35, .long a0, ez_fill, .int a1, .int a2] [.int a2, .ref 45, .ref 35, .int a3, .ref 47] (ev_hp I J R T) cz kz := by
  intro G
  rfl
set_option maxRecDepth 100000 in
theorem mg_r66 {a0 : Int64} {a1 : Int32} {a2 : Int32} {a3 : Int64} {a4 : Int32} : ∀ G : ez_F, fx_up X 1 G 186 57 [.ref 35, .long a0, ez_fill, .int a1, .int a2] [.long a3, .ref 35, .int a4, .ref 47] (ev_hp I J R T) cz kz = ev_C G 187 [.ref 35, .long a3] (ev_hp I J R T) fun r h1 c1 k1 => G 186 60 [.ref 35, .long a0, ez_fill, .int a1, .int a2] (r.toList ++ [.int a4, .ref 47]) h1 (cz + c1) (kz + k1) := by
  intro G
  rfl
theorem da_22 {u : Int64} {b s : Int32}
    (H : (((I 35 3) ≤ s → pw N X 186 111 [.ref 35, .long u, ez_fill, .int b, .int s] [] (ev_hp I J R T) Q) ∧ (¬ ((I 35 3) ≤ s) → (ev_ix s 3 → ((¬ (lg_cmp (J 46 s.toNatClampNeg) (0 : Int64)) = (0 : Int32) → (ev_ix s 3 → pw N X 186 70 [.ref 35, .long u, ez_fill, .int b, .int s] [.long (J 45 s.toNatClampNeg), .int s, .ref 47] (ev_hp I J R T) Q)) ∧ (¬ (¬ (lg_cmp (J 46 s.toNatClampNeg) (0 : Int64)) = (0 : Int32)) → (ev_ix s 3 → (∃ Q1 : pw_Q, pe N X 187 [.ref 35, .long (J 45 s.toNatClampNeg)] (ev_hp I J R T) Q1 ∧ ∀ (r : Option Value) (h1 : ez_H), Q1 r h1 → pw N X 186 60 [.ref 35, .long u, ez_fill, .int b, .int s] (r.toList ++ [.int s, .ref 47]) h1 Q)))))))) : pw (N + 1) X 186 22 [.ref 35, .long u, ez_fill, .int b, .int s] [] (ev_hp I J R T) Q := by
  refine pw_seg (by decide) (fun _ _ => mg_r60) ?_
  refine pw_p (pw_if (by decide) (fun _ _ => mg_r61) (fun w1 => ?_) (fun w1 => ?_))
  · have h1 := H.1 w1
    exact h1
  · have h1 := H.2 w1
    refine pw_p (pw_seg (by decide) (fun _ _ => mg_r62) ?_)
    refine pw_p (pw_lald (by rfl) (cx_getJ (show cx_Ds[46]? = some (1, 3, []) from rfl)) (fun w2 => ?_))
    have h2 := h1 w2
    refine pw_p (pw_if (by decide) (fun _ _ => mg_r63) (fun w2 => ?_) (fun w2 => ?_))
    · have h2 := h2.1 w2
      refine pw_p (pw_seg (by decide) (fun _ _ => mg_r64) ?_)
      refine pw_p (pw_lald (by rfl) (cx_getJ (show cx_Ds[45]? = some (1, 3, []) from rfl)) (fun w3 => ?_))
      have h3 := h2 w3
      exact h3
    · have h2 := h2.2 w2
      refine pw_p (pw_seg (by decide) (fun _ _ => mg_r65) ?_)
      refine pw_p (pw_lald (by rfl) (cx_getJ (show cx_Ds[45]? = some (1, 3, []) from rfl)) (fun w3 => ?_))
      have h3 := h2 w3
      obtain ⟨Q1, hc, hk⟩ := h3
      exact pw_p (pw_call (by decide) (fun _ _ => mg_r66) hc hk)
set_option maxRecDepth 100000 in
theorem mg_r67 {a0 : Int64} {a1 : Int32} {a2 : Int32} {a3 : Int64} {a4 : Int32} : ∀ G : ez_F, fx_up X 1 G 186 60 [.ref 35, .long a0, ez_fill, .int a1, .int a2] [.long a3, .int a4, .ref 47] (ev_hp I J R T) cz kz = G 186 70 [.ref 35, .long a0, ez_fill, .int a1, .int a2] [.long a3, .int a4, .ref 47] (ev_hp I J R T) cz kz := by
  intro G
  rfl
theorem da_60 {u v : Int64} {b s : Int32}
    (H : pw N X 186 70 [.ref 35, .long u, ez_fill, .int b, .int s] [.long v, .int s, .ref 47] (ev_hp I J R T) Q) : pw (N + 1) X 186 60 [.ref 35, .long u, ez_fill, .int b, .int s] [.long v, .int s, .ref 47] (ev_hp I J R T) Q := by
  refine pw_seg (by decide) (fun _ _ => mg_r67) ?_
  exact H
set_option maxRecDepth 100000 in
theorem mg_r68 {a0 : Int64} {a1 : Int32} {a2 : Int32} : ∀ G : ez_F, fx_up X 2 G 186 71 [.ref 35, .long a0, ez_fill, .int a1, .int a2] [] (ev_hp I J R T) cz kz = bif decide (a1 = (0 : Int32)) then G 186 93 [.ref 35, .long a0, ez_fill, .int a1, .int a2] [] (ev_hp I J R T) cz kz else G 186 75 [.ref 35, .long a0, ez_fill, .int a1, .int a2] [] (ev_hp I J R T) cz kz := by
  intro G
  rfl
set_option maxRecDepth 100000 in
theorem mg_r69 {a0 : Int64} {a1 : Int32} {a2 : Int32} : ∀ G : ez_F, fx_up X 6 G 186 93 [.ref 35, .long a0, ez_fill, .int a1, .int a2] [] (ev_hp I J R T) cz kz = G 186 102 [.ref 35, .long a0, ez_fill, .int (0 : Int32), .int a2] [.int a2, .ref 47, .long a0] (ev_hp I J R T) cz kz := by
  intro G
  rfl
set_option maxRecDepth 100000 in
theorem mg_r70 {a0 : Int64} {a1 : Int32} {a2 : Int32} {a3 : Int64} {a4 : Int64} : ∀ G : ez_F, fx_up X 4 G 186 103 [.ref 35, .long a0, ez_fill, .int a1, .int a2] [.long a3, .long a4] (ev_hp I J R T) cz kz = G 186 22 [.ref 35, .long (a4 ||| a3), ez_fill, .int a1, .int (a2 + (1 : Int32))] [] (ev_hp I J R T) cz kz := by
  intro G
  rfl
set_option maxRecDepth 100000 in
theorem mg_r71 {a0 : Int64} {a1 : Int32} {a2 : Int32} : ∀ G : ez_F, fx_up X 4 G 186 75 [.ref 35, .long a0, ez_fill, .int a1, .int a2] [] (ev_hp I J R T) cz kz = G 186 82 [.ref 35, .long a0, ez_fill, .int a1, .int a2] [.int a2, .ref 47, .long a0] (ev_hp I J R T) cz kz := by
  intro G
  rfl
set_option maxRecDepth 100000 in
theorem mg_r72 {a0 : Int64} {a1 : Int32} {a2 : Int32} {a3 : Int64} {a4 : Int64} : ∀ G : ez_F, fx_up X 4 G 186 83 [.ref 35, .long a0, ez_fill, .int a1, .int a2] [.long a3, .long a4] (ev_hp I J R T) cz kz = bif decide (¬ (lg_cmp (a4 &&& a3) (0 : Int64)) = (0 : Int32)) then G 186 93 [.ref 35, .long a0, ez_fill, .int a1, .int a2] [] (ev_hp I J R T) cz kz else G 186 89 [.ref 35, .long a0, ez_fill, .int a1, .int a2] [] (ev_hp I J R T) cz kz := by
  intro G
  rfl
set_option maxRecDepth 100000 in
theorem mg_r73 {a0 : Int64} {a1 : Int32} {a2 : Int32} : ∀ G : ez_F, fx_up X 7 G 186 89 [.ref 35, .long a0, ez_fill, .int a1, .int a2] [] (ev_hp I J R T) cz kz = G 186 102 [.ref 35, .long a0, ez_fill, .int (1 : Int32), .int a2] [.int a2, .ref 47, .long a0] (ev_hp I J R T) cz kz := by
  intro G
  rfl
theorem da_70 {u v : Int64} {b s : Int32}
    (H : (ev_ix s 3 → ((b = (0 : Int32) → (ev_ix s 3 → pw N X 186 22 [.ref 35, .long (u ||| ((vp_updL (J 47) s.toNatClampNeg v) s.toNatClampNeg)), ez_fill, .int (0 : Int32), .int (s + (1 : Int32))] [] (ev_hp I (ev_sJ J 47 (vp_updL (J 47) s.toNatClampNeg v)) R T) Q)) ∧ (¬ (b = (0 : Int32)) → (ev_ix s 3 → ((¬ (lg_cmp (u &&& ((vp_updL (J 47) s.toNatClampNeg v) s.toNatClampNeg)) (0 : Int64)) = (0 : Int32) → (ev_ix s 3 → pw N X 186 22 [.ref 35, .long (u ||| ((vp_updL (J 47) s.toNatClampNeg v) s.toNatClampNeg)), ez_fill, .int (0 : Int32), .int (s + (1 : Int32))] [] (ev_hp I (ev_sJ J 47 (vp_updL (J 47) s.toNatClampNeg v)) R T) Q)) ∧ (¬ (¬ (lg_cmp (u &&& ((vp_updL (J 47) s.toNatClampNeg v) s.toNatClampNeg)) (0 : Int64)) = (0 : Int32)) → (ev_ix s 3 → pw N X 186 22 [.ref 35, .long (u ||| ((vp_updL (J 47) s.toNatClampNeg v) s.toNatClampNeg)), ez_fill, .int (1 : Int32), .int (s + (1 : Int32))] [] (ev_hp I (ev_sJ J 47 (vp_updL (J 47) s.toNatClampNeg v)) R T) Q)))))))) : pw (N + 1) X 186 70 [.ref 35, .long u, ez_fill, .int b, .int s] [.long v, .int s, .ref 47] (ev_hp I J R T) Q := by
  refine pw_last (by rfl) (cx_getJ (show cx_Ds[47]? = some (1, 3, []) from rfl)) (cx_setJ (show cx_Ds[47]? = some (1, 3, []) from rfl) _) (fun w1 => ?_)
  have h1 := H w1
  refine pw_p (pw_if (by decide) (fun _ _ => mg_r68) (fun w1 => ?_) (fun w1 => ?_))
  · have h1 := h1.1 w1
    refine pw_p (pw_seg (by decide) (fun _ _ => mg_r69) ?_)
    refine pw_p (pw_lald (by rfl) (cx_getJ (show cx_Ds[47]? = some (1, 3, []) from rfl)) (fun w2 => ?_))
    have h2 := h1 w2
    refine pw_p (pw_seg (by decide) (fun _ _ => mg_r70) ?_)
    exact h2
  · have h1 := h1.2 w1
    refine pw_p (pw_seg (by decide) (fun _ _ => mg_r71) ?_)
    refine pw_p (pw_lald (by rfl) (cx_getJ (show cx_Ds[47]? = some (1, 3, []) from rfl)) (fun w2 => ?_))
    have h2 := h1 w2
    refine pw_p (pw_if (by decide) (fun _ _ => mg_r72) (fun w2 => ?_) (fun w2 => ?_))
    · have h2 := h2.1 w2
      refine pw_p (pw_seg (by decide) (fun _ _ => mg_r69) ?_)
      refine pw_p (pw_lald (by rfl) (cx_getJ (show cx_Ds[47]? = some (1, 3, []) from rfl)) (fun w3 => ?_))
      have h3 := h2 w3
      refine pw_p (pw_seg (by decide) (fun _ _ => mg_r70) ?_)
      exact h3
    · have h2 := h2.2 w2
      refine pw_p (pw_seg (by decide) (fun _ _ => mg_r73) ?_)
      refine pw_p (pw_lald (by rfl) (cx_getJ (show cx_Ds[47]? = some (1, 3, []) from rfl)) (fun w3 => ?_))
      have h3 := h2 w3
      refine pw_p (pw_seg (by decide) (fun _ _ => mg_r70) ?_)
      exact h3
set_option maxRecDepth 100000 in
theorem mg_r74 {a0 : Int64} {a1 : Int32} {a2 : Int32} : ∀ G : ez_F, fx_up X 2 G 186 111 [.ref 35, .long a0, ez_fill, .int a1, .int a2] [] (ev_hp I J R T) cz kz = G 186 114 [.ref 35, .long a0, ez_fill, .int a1, .int (0 : Int32)] [] (ev_hp I J R T) cz kz := by
  intro G
  rfl
theorem da_111 {u : Int64} {b s : Int32}
    (H : pw N X 186 114 [.ref 35, .long u, ez_fill, .int b, .int (0 : Int32)] [] (ev_hp I J R T) Q) : pw (N + 1) X 186 111 [.ref 35, .long u, ez_fill, .int b, .int s] [] (ev_hp I J R T) Q := by
  refine pw_seg (by decide) (fun _ _ => mg_r74) ?_
  exact H
set_option maxRecDepth 100000 in
theorem mg_r75 {a0 : Int64} {a1 : Int32} {a2 : Int32} : ∀ G : ez_F, fx_up X 3 G 186 114 [.ref 35, .long a0, ez_fill, .int a1, .int a2] [] (ev_hp I J R T) cz kz = G 186 120 [.ref 35, .long a0, ez_fill, .int a1, .int a2] [.int (I 35 3), .int a2] (ev_hp I J R T) cz kz := by
  intro G
  rfl
set_option maxRecDepth 100000 in
theorem mg_r76 {a0 : Int64} {a1 : Int32} {a2 : Int32} {a3 : Int32} {a4 : Int32} : ∀ G : ez_F, fx_up X 1 G 186 120 [.ref 35, .long a0, ez_fill, .int a1, .int a2] [.int a3, .int a4] (ev_hp I J R T) cz kz = bif decide (a3 ≤ a4) then G 186 147 [.ref 35, .long a0, ez_fill, .int a1, .int a2] [] (ev_hp I J R T) cz kz else G 186 123 [.ref 35, .long a0, ez_fill, .int a1, .int a2] [] (ev_hp I J R T) cz kz := by
  intro G
  rfl
set_option maxRecDepth 100000 in
theorem mg_r77 {a0 : Int64} {a1 : Int32} {a2 : Int32} : ∀ G : ez_F, fx_up X 1 G 186 147 [.ref 35, .long a0, ez_fill, .int a1, .int a2] [] (ev_hp I J R T) cz kz = some (none, (ev_hp I J R T), cz, kz) := by
  intro G
  rfl
set_option maxRecDepth 100000 in
theorem mg_r78 {a0 : Int64} {a1 : Int32} {a2 : Int32} : ∀ G : ez_F, fx_up X 2 G 186 123 [.ref 35, .long a0, ez_fill, .int a1, .int a2] [] (ev_hp I J R T) cz kz = bif decide (a1 = (0 : Int32)) then G 186 147 [.ref 35, .long a0, ez_fill, .int a1, .int a2] [] (ev_hp I J R T) cz kz else G 186 127 [.ref 35, .long a0, ez_fill, .int a1, .int a2] [] (ev_hp I J R T) cz kz := by
  intro G
  rfl
set_option maxRecDepth 100000 in
theorem mg_r79 {a0 : Int64} {a1 : Int32} {a2 : Int32} : ∀ G : ez_F, fx_up X 6 G 186 127 [.ref 35, .long a0, ez_fill, .int a1, .int a2] [] (ev_hp I J R T) cz kz = G 186 139 [.ref 35, .long a0, ez_fill, .int a1, .int a2] [.int a2, .ref 47, .int a2, .ref 45] (ev_hp I J R T) cz kz := by
  intro G
  rfl
set_option maxRecDepth 100000 in
theorem mg_r80 {a0 : Int64} {a1 : Int32} {a2 : Int32} : ∀ G : ez_F, fx_up X 2 G 186 141 [.ref 35, .long a0, ez_fill, .int a1, .int a2] [] (ev_hp I J R T) cz kz = G 186 114 [.ref 35, .long a0, ez_fill, .int a1, .int (a2 + (1 : Int32))] [] (ev_hp I J R T) cz kz := by
  intro G
  rfl
theorem da_114 {u : Int64} {b s : Int32}
    (H : (((I 35 3) ≤ s → Q none (ev_hp I J R T)) ∧ (¬ ((I 35 3) ≤ s) → ((b = (0 : Int32) → Q none (ev_hp I J R T)) ∧ (¬ (b = (0 : Int32)) → (ev_ix s 3 → (ev_ix s 3 → pw N X 186 114 [.ref 35, .long u, ez_fill, .int b, .int (s + (1 : Int32))] [] (ev_hp I (ev_sJ J 45 (vp_updL (J 45) s.toNatClampNeg (J 47 s.toNatClampNeg))) R T) Q))))))) : pw (N + 1) X 186 114 [.ref 35, .long u, ez_fill, .int b, .int s] [] (ev_hp I J R T) Q := by
  refine pw_seg (by decide) (fun _ _ => mg_r75) ?_
  refine pw_p (pw_if (by decide) (fun _ _ => mg_r76) (fun w1 => ?_) (fun w1 => ?_))
  · have h1 := H.1 w1
    exact pw_p (pw_ret (by decide) (fun _ _ => mg_r77) h1)
  · have h1 := H.2 w1
    refine pw_p (pw_if (by decide) (fun _ _ => mg_r78) (fun w2 => ?_) (fun w2 => ?_))
    · have h2 := h1.1 w2
      exact pw_p (pw_ret (by decide) (fun _ _ => mg_r77) h2)
    · have h2 := h1.2 w2
      refine pw_p (pw_seg (by decide) (fun _ _ => mg_r79) ?_)
      refine pw_p (pw_lald (by rfl) (cx_getJ (show cx_Ds[47]? = some (1, 3, []) from rfl)) (fun w3 => ?_))
      have h3 := h2 w3
      refine pw_p (pw_last (by rfl) (cx_getJ (show cx_Ds[45]? = some (1, 3, []) from rfl)) (cx_setJ (show cx_Ds[45]? = some (1, 3, []) from rfl) _) (fun w3 => ?_))
      have h3 := h3 w3
      refine pw_p (pw_seg (by decide) (fun _ _ => mg_r80) ?_)
      exact h3
set_option maxRecDepth 100000 in
theorem mg_r81 {a0 : Int32} : ∀ G : ez_F, fx_up X 2 G 215 0 [.ref 35, .int a0] [] (ev_hp I J R T) cz kz = G 215 2 [.ref 35, .int a0, .int (0 : Int32)] [] (ev_hp I J R T) cz kz := by
  intro G
  rfl
theorem pc_0 {x : Int32}
    (H : pw N X 215 2 [.ref 35, .int x, .int (0 : Int32)] [] (ev_hp I J R T) Q) : pw (N + 1) X 215 0 [.ref 35, .int x] [] (ev_hp I J R T) Q := by
  refine pw_seg (by decide) (fun _ _ => mg_r81) ?_
  exact H
set_option maxRecDepth 100000 in
theorem mg_r82 {a0 : Int32} {a1 : Int32} : ∀ G : ez_F, fx_up X 3 G 215 2 [.ref 35, .int a0, .int a1] [] (ev_hp I J R T) cz kz = G 215 7 [.ref 35, .int a0, .int a1] [.int (I 35 3), .int a1] (ev_hp I J R T) cz kz := by
  intro G
  rfl
set_option maxRecDepth 100000 in
theorem mg_r83 {a0 : Int32} {a1 : Int32} {a2 : Int32} {a3 : Int32} : ∀ G : ez_F, fx_up X 1 G 215 7 [.ref 35, .int a0, .int a1] [.int a2, .int a3] (ev_hp I J R T) cz kz = bif decide (a2 ≤ a3) then G 215 50 [.ref 35, .int a0, .int a1] [] (ev_hp I J R T) cz kz else G 215 10 [.ref 35, .int a0, .int a1] [] (ev_hp I J R T) cz kz := by
  intro G
  rfl
set_option maxRecDepth 100000 in
theorem mg_r84 {a0 : Int32} {a1 : Int32} : ∀ G : ez_F, fx_up X 1 G 215 50 [.ref 35, .int a0, .int a1] [] (ev_hp I J R T) cz kz = some (none, (ev_hp I J R T), cz, kz) := by
  intro G
  rfl
set_option maxRecDepth 100000 in
theorem mg_r85 {a0 : Int32} {a1 : Int32} : ∀ G : ez_F, fx_up X 12 G 215 10 [.ref 35, .int a0, .int a1] [] (ev_hp I J R T) cz kz = G 215 30 [.ref 35, .int a0, .int a1] [.int a0, .int (3 : Int32), .ref 41, .int ((300 : Int32) * a1), .ref 39, .int a1, .ref 45] (ev_hp I J R T) cz kz := by
  intro G
  rfl
set_option maxRecDepth 100000 in
theorem mg_r86 {a0 : Int32} {a1 : Int32} {a2 : Int32} {a3 : Int32} {a4 : Int32} {a5 : Int32} : ∀ G : ez_F, fx_up X 3 G 215 30 [.ref 35, .int a0, .int a1] [.int a2, .int a3, .ref 41, .int a4, .ref 39, .int a5, .ref 45] (ev_hp I J R T) cz kz = G 215 33 [.ref 35, .int a0, .int a1] [.int ((a3 * a2) + a1), .ref 41, .int a4, .ref 39, .int a5, .ref 45] (ev_hp I J R T) cz kz := by
  intro G
  rfl
set_option maxRecDepth 100000 in
theorem mg_r87 {a0 : Int32} {a1 : Int32} {a2 : Int32} {a3 : Int32} {a4 : Int32} : ∀ G : ez_F, fx_up X 1 G 215 34 [.ref 35, .int a0, .int a1] [.int a2, .int a3, .ref 39, .int a4, .ref 45] (ev_hp I J R T) cz kz = G 215 35 [.ref 35, .int a0, .int a1] [.int (a3 + a2), .ref 39, .int a4, .ref 45] (ev_hp I J R T) cz kz := by
  intro G
  rfl
set_option maxRecDepth 100000 in
theorem mg_r88 {a0 : Int32} {a1 : Int32} : ∀ G : ez_F, fx_up X 4 G 215 37 [.ref 35, .int a0, .int a1] [] (ev_hp I J R T) cz kz = G 215 43 [.ref 35, .int a0, .int a1] [.long (0 : Int64), .int a1, .ref 46] (ev_hp I J R T) cz kz := by
  intro G
  rfl
set_option maxRecDepth 100000 in
theorem mg_r89 {a0 : Int32} {a1 : Int32} : ∀ G : ez_F, fx_up X 2 G 215 44 [.ref 35, .int a0, .int a1] [] (ev_hp I J R T) cz kz = G 215 2 [.ref 35, .int a0, .int (a1 + (1 : Int32))] [] (ev_hp I J R T) cz kz := by
  intro G
  rfl
theorem pc_2 {x s : Int32}
    (H : (((I 35 3) ≤ s → Q none (ev_hp I J R T)) ∧ (¬ ((I 35 3) ≤ s) → (ev_ix (((3 : Int32) * x) + s) 30003 → (ev_ix (((300 : Int32) * s) + (I 41 (((3 : Int32) * x) + s).toNatClampNeg)) 900 → (ev_ix s 3 → (ev_ix s 3 → pw N X 215 2 [.ref 35, .int x, .int (s + (1 : Int32))] [] (ev_hp I (ev_sJ (ev_sJ J 45 (vp_updL (J 45) s.toNatClampNeg (J 39 (((300 : Int32) * s) + (I 41 (((3 : Int32) * x) + s).toNatClampNeg)).toNatClampNeg))) 46 (vp_updL (J 46) s.toNatClampNeg (0 : Int64))) R T) Q))))))) : pw (N + 1) X 215 2 [.ref 35, .int x, .int s] [] (ev_hp I J R T) Q := by
  refine pw_seg (by decide) (fun _ _ => mg_r82) ?_
  refine pw_p (pw_if (by decide) (fun _ _ => mg_r83) (fun w1 => ?_) (fun w1 => ?_))
  · have h1 := H.1 w1
    exact pw_p (pw_ret (by decide) (fun _ _ => mg_r84) h1)
  · have h1 := H.2 w1
    refine pw_p (pw_seg (by decide) (fun _ _ => mg_r85) ?_)
    refine pw_p (pw_seg (by decide) (fun _ _ => mg_r86) ?_)
    refine pw_p (pw_iald (by rfl) (cx_getI (show cx_Ds[41]? = some (0, 30003, []) from rfl)) (fun w2 => ?_))
    have h2 := h1 w2
    refine pw_p (pw_seg (by decide) (fun _ _ => mg_r87) ?_)
    refine pw_p (pw_lald (by rfl) (cx_getJ (show cx_Ds[39]? = some (1, 900, []) from rfl)) (fun w2 => ?_))
    have h2 := h2 w2
    refine pw_p (pw_last (by rfl) (cx_getJ (show cx_Ds[45]? = some (1, 3, []) from rfl)) (cx_setJ (show cx_Ds[45]? = some (1, 3, []) from rfl) _) (fun w2 => ?_))
    have h2 := h2 w2
    refine pw_p (pw_seg (by decide) (fun _ _ => mg_r88) ?_)
    refine pw_p (pw_last (by rfl) (cx_getJ (show cx_Ds[46]? = some (1, 3, []) from rfl)) (cx_setJ (show cx_Ds[46]? = some (1, 3, []) from rfl) _) (fun w2 => ?_))
    have h2 := h2 w2
    refine pw_p (pw_seg (by decide) (fun _ _ => mg_r89) ?_)
    exact h2
set_option maxRecDepth 100000 in
theorem mg_r90 {a0 : Int32} {a1 : Int32} : ∀ G : ez_F, fx_up X 3 G 192 0 [.ref 35, .int a0, .int a1] [] (ev_hp I J R T) cz kz = ev_C G 215 [.ref 35, .int a0] (ev_hp I J R T) fun r h1 c1 k1 => G 192 5 [.ref 35, .int a0, .int a1] (r.toList ++ []) h1 (cz + c1) (kz + k1) := by
  intro G
  rfl
theorem go_0 {x y : Int32}
    (H : (∃ Q1 : pw_Q, pe N X 215 [.ref 35, .int x] (ev_hp I J R T) Q1 ∧ ∀ (r : Option Value) (h1 : ez_H), Q1 r h1 → pw N X 192 5 [.ref 35, .int x, .int y] (r.toList ++ []) h1 Q)) : pw (N + 1) X 192 0 [.ref 35, .int x, .int y] [] (ev_hp I J R T) Q := by
  obtain ⟨Q1, hc, hk⟩ := H
  exact pw_call (by decide) (fun _ _ => mg_r90) hc hk
set_option maxRecDepth 100000 in
theorem mg_r91 {a0 : Int32} {a1 : Int32} : ∀ G : ez_F, fx_up X 2 G 192 5 [.ref 35, .int a0, .int a1] [] (ev_hp I J R T) cz kz = G 192 7 [.ref 35, .int a0, .int a1, .int (0 : Int32)] [] (ev_hp I J R T) cz kz := by
  intro G
  rfl
theorem go_5 {x y : Int32}
    (H : pw N X 192 7 [.ref 35, .int x, .int y, .int (0 : Int32)] [] (ev_hp I J R T) Q) : pw (N + 1) X 192 5 [.ref 35, .int x, .int y] [] (ev_hp I J R T) Q := by
  refine pw_seg (by decide) (fun _ _ => mg_r91) ?_
  exact H
set_option maxRecDepth 100000 in
theorem mg_r92 {a0 : Int32} {a1 : Int32} {a2 : Int32} : ∀ G : ez_F, fx_up X 3 G 192 7 [.ref 35, .int a0, .int a1, .int a2] [] (ev_hp I J R T) cz kz = bif decide (a1 ≤ a2) then G 192 103 [.ref 35, .int a0, .int a1, .int a2] [] (ev_hp I J R T) cz kz else G 192 12 [.ref 35, .int a0, .int a1, .int a2] [] (ev_hp I J R T) cz kz := by
  intro G
  rfl
set_option maxRecDepth 100000 in
theorem mg_r93 {a0 : Int32} {a1 : Int32} {a2 : Int32} : ∀ G : ez_F, fx_up X 1 G 192 103 [.ref 35, .int a0, .int a1, .int a2] [] (ev_hp I J R T) cz kz = some (none, (ev_hp I J R T), cz, kz) := by
  intro G
  rfl
set_option maxRecDepth 100000 in
theorem mg_r94 {a0 : Int32} {a1 : Int32} {a2 : Int32} : ∀ G : ez_F, fx_up X 3 G 192 12 [.ref 35, .int a0, .int a1, .int a2] [] (ev_hp I J R T) cz kz = G 192 17 [.ref 35, .int a0, .int a1, .int a2] [.int a2, .ref 43] (ev_hp I J R T) cz kz := by
  intro G
  rfl
set_option maxRecDepth 100000 in
theorem mg_r95 {a0 : Int32} {a1 : Int32} {a2 : Int32} {a3 : Int32} : ∀ G : ez_F, fx_up X 2 G 192 18 [.ref 35, .int a0, .int a1, .int a2] [.int a3] (ev_hp I J R T) cz kz = bif decide (¬ a3 = (-1 : Int32)) then G 192 41 [.ref 35, .int a0, .int a1, .int a2] [] (ev_hp I J R T) cz kz else G 192 22 [.ref 35, .int a0, .int a1, .int a2] [] (ev_hp I J R T) cz kz := by
  intro G
  rfl
set_option maxRecDepth 100000 in
theorem mg_r96 {a0 : Int32} {a1 : Int32} {a2 : Int32} : ∀ G : ez_F, fx_up X 7 G 192 41 [.ref 35, .int a0, .int a1, .int a2] [] (ev_hp I J R T) cz kz = G 192 52 [.ref 35, .int a0, .int a1, .int a2] [.int a2, .ref 42, .ref 35, .int a2, .ref 48] (ev_hp I J R T) cz kz := by
  intro G
  rfl
set_option maxRecDepth 100000 in
theorem mg_r97 {a0 : Int32} {a1 : Int32} {a2 : Int32} {a3 : Int32} {a4 : Int32} : ∀ G : ez_F, fx_up X 1 G 192 53 [.ref 35, .int a0, .int a1, .int a2] [.int a3, .ref 35, .int a4, .ref 48] (ev_hp I J R T) cz kz = ev_C G 176 [.ref 35, .int a3] (ev_hp I J R T) fun r h1 c1 k1 => G 192 56 [.ref 35, .int a0, .int a1, .int a2] (r.toList ++ [.int a4, .ref 48]) h1 (cz + c1) (kz + k1) := by
  intro G
  rfl
set_option maxRecDepth 100000 in
theorem mg_r98 {a0 : Int32} {a1 : Int32} {a2 : Int32} : ∀ G : ez_F, fx_up X 7 G 192 22 [.ref 35, .int a0, .int a1, .int a2] [] (ev_hp I J R T) cz kz = G 192 33 [.ref 35, .int a0, .int a1, .int a2] [.int a2, .ref 42, .ref 35, .int a2, .ref 48] (ev_hp I J R T) cz kz := by
  intro G
  rfl
set_option maxRecDepth 100000 in
theorem mg_r99 {a0 : Int32} {a1 : Int32} {a2 : Int32} {a3 : Int32} {a4 : Int32} : ∀ G : ez_F, fx_up X 1 G 192 34 [.ref 35, .int a0, .int a1, .int a2] [.int a3, .ref 35, .int a4, .ref 48] (ev_hp I J R T) cz kz = ev_C G 176 [.ref 35, .int a3] (ev_hp I J R T) fun r h1 c1 k1 => G 192 37 [.ref 35, .int a0, .int a1, .int a2] (r.toList ++ [.int a4, .ref 48]) h1 (cz + c1) (kz + k1) := by
  intro G
  rfl
theorem go_7 {x y c : Int32}
    (H : ((y ≤ c → Q none (ev_hp I J R T)) ∧ (¬ (y ≤ c) → (ev_ix c 30 → ((¬ (I 43 c.toNatClampNeg) = (-1 : Int32) → (ev_ix c 30 → (∃ Q1 : pw_Q, pe N X 176 [.ref 35, .int (I 42 c.toNatClampNeg)] (ev_hp I J R T) Q1 ∧ ∀ (r : Option Value) (h1 : ez_H), Q1 r h1 → pw N X 192 56 [.ref 35, .int x, .int y, .int c] (r.toList ++ [.int c, .ref 48]) h1 Q))) ∧ (¬ (¬ (I 43 c.toNatClampNeg) = (-1 : Int32)) → (ev_ix c 30 → (∃ Q1 : pw_Q, pe N X 176 [.ref 35, .int (I 42 c.toNatClampNeg)] (ev_hp I J R T) Q1 ∧ ∀ (r : Option Value) (h1 : ez_H), Q1 r h1 → pw N X 192 37 [.ref 35, .int x, .int y, .int c] (r.toList ++ [.int c, .ref 48]) h1 Q)))))))) : pw (N + 1) X 192 7 [.ref 35, .int x, .int y, .int c] [] (ev_hp I J R T) Q := by
  refine pw_if (by decide) (fun _ _ => mg_r92) (fun w1 => ?_) (fun w1 => ?_)
  · have h1 := H.1 w1
    exact pw_p (pw_ret (by decide) (fun _ _ => mg_r93) h1)
  · have h1 := H.2 w1
    refine pw_p (pw_seg (by decide) (fun _ _ => mg_r94) ?_)
    refine pw_p (pw_iald (by rfl) (cx_getI (show cx_Ds[43]? = some (0, 30, []) from rfl)) (fun w2 => ?_))
    have h2 := h1 w2
    refine pw_p (pw_if (by decide) (fun _ _ => mg_r95) (fun w2 => ?_) (fun w2 => ?_))
    · have h2 := h2.1 w2
      refine pw_p (pw_seg (by decide) (fun _ _ => mg_r96) ?_)
      refine pw_p (pw_iald (by rfl) (cx_getI (show cx_Ds[42]? = some (0, 30, []) from rfl)) (fun w3 => ?_))
      have h3 := h2 w3
      obtain ⟨Q1, hc, hk⟩ := h3
      exact pw_p (pw_call (by decide) (fun _ _ => mg_r97) hc hk)
    · have h2 := h2.2 w2
      refine pw_p (pw_seg (by decide) (fun _ _ => mg_r98) ?_)
      refine pw_p (pw_iald (by rfl) (cx_getI (show cx_Ds[42]? = some (0, 30, []) from rfl)) (fun w3 => ?_))
      have h3 := h2 w3
      obtain ⟨Q1, hc, hk⟩ := h3
      exact pw_p (pw_call (by decide) (fun _ _ => mg_r99) hc hk)
set_option maxRecDepth 100000 in
theorem mg_r100 {a0 : Int32} {a1 : Int32} {a2 : Int32} : ∀ G : ez_F, fx_up X 1 G 192 38 [.ref 35, .int a0, .int a1, .int a2] [] (ev_hp I J R T) cz kz = G 192 84 [.ref 35, .int a0, .int a1, .int a2] [] (ev_hp I J R T) cz kz := by
  intro G
  rfl
theorem go_37 {x y c v : Int32}
    (H : (ev_ix c 31 → pw N X 192 84 [.ref 35, .int x, .int y, .int c] [] (ev_hp (ev_sI I 48 (upd (I 48) c.toNatClampNeg v)) J R T) Q)) : pw (N + 1) X 192 37 [.ref 35, .int x, .int y, .int c] [.int v, .int c, .ref 48] (ev_hp I J R T) Q := by
  refine pw_iast (by rfl) (cx_getI (show cx_Ds[48]? = some (0, 31, []) from rfl)) (cx_setI (show cx_Ds[48]? = some (0, 31, []) from rfl) _) (fun w1 => ?_)
  have h1 := H w1
  refine pw_p (pw_seg (by decide) (fun _ _ => mg_r100) ?_)
  exact h1
set_option maxRecDepth 100000 in
theorem mg_r101 {a0 : Int32} {a1 : Int32} {a2 : Int32} {a3 : Int32} {a4 : Int32} : ∀ G : ez_F, fx_up X 1 G 192 56 [.ref 35, .int a0, .int a1, .int a2] [.int a3, .int a4, .ref 48] (ev_hp I J R T) cz kz = bif decide (a3 ≤ (0 : Int32)) then G 192 63 [.ref 35, .int a0, .int a1, .int a2] [.int a4, .ref 48] (ev_hp I J R T) cz kz else G 192 59 [.ref 35, .int a0, .int a1, .int a2] [.int a4, .ref 48] (ev_hp I J R T) cz kz := by
  intro G
  rfl
set_option maxRecDepth 100000 in
theorem mg_r102 {a0 : Int32} {a1 : Int32} {a2 : Int32} {a3 : Int32} : ∀ G : ez_F, fx_up X 5 G 192 63 [.ref 35, .int a0, .int a1, .int a2] [.int a3, .ref 48] (ev_hp I J R T) cz kz = G 192 70 [.ref 35, .int a0, .int a1, .int a2] [.int a2, .ref 43, .ref 35, .int (0 : Int32), .int a3, .ref 48] (ev_hp I J R T) cz kz := by
  intro G
  rfl
set_option maxRecDepth 100000 in
theorem mg_r103 {a0 : Int32} {a1 : Int32} {a2 : Int32} {a3 : Int32} {a4 : Int32} {a5 : Int32} : ∀ G : ez_F, fx_up X 1 G 192 71 [.ref 35, .int a0, .int a1, .int a2] [.int a3, .ref 35, .int a4, .int a5, .ref 48] (ev_hp I J R T) cz kz = ev_C G 176 [.ref 35, .int a3] (ev_hp I J R T) fun r h1 c1 k1 => G 192 74 [.ref 35, .int a0, .int a1, .int a2] (r.toList ++ [.int a4, .int a5, .ref 48]) h1 (cz + c1) (kz + k1) := by
  intro G
  rfl
set_option maxRecDepth 100000 in
theorem mg_r104 {a0 : Int32} {a1 : Int32} {a2 : Int32} {a3 : Int32} : ∀ G : ez_F, fx_up X 6 G 192 59 [.ref 35, .int a0, .int a1, .int a2] [.int a3, .ref 48] (ev_hp I J R T) cz kz = G 192 70 [.ref 35, .int a0, .int a1, .int a2] [.int a2, .ref 43, .ref 35, .int (1 : Int32), .int a3, .ref 48] (ev_hp I J R T) cz kz := by
  intro G
  rfl
theorem go_56 {x y c v : Int32}
    (H : ((v ≤ (0 : Int32) → (ev_ix c 30 → (∃ Q1 : pw_Q, pe N X 176 [.ref 35, .int (I 43 c.toNatClampNeg)] (ev_hp I J R T) Q1 ∧ ∀ (r : Option Value) (h1 : ez_H), Q1 r h1 → pw N X 192 74 [.ref 35, .int x, .int y, .int c] (r.toList ++ [.int (0 : Int32), .int c, .ref 48]) h1 Q))) ∧ (¬ (v ≤ (0 : Int32)) → (ev_ix c 30 → (∃ Q1 : pw_Q, pe N X 176 [.ref 35, .int (I 43 c.toNatClampNeg)] (ev_hp I J R T) Q1 ∧ ∀ (r : Option Value) (h1 : ez_H), Q1 r h1 → pw N X 192 74 [.ref 35, .int x, .int y, .int c] (r.toList ++ [.int (1 : Int32), .int c, .ref 48]) h1 Q))))) : pw (N + 1) X 192 56 [.ref 35, .int x, .int y, .int c] [.int v, .int c, .ref 48] (ev_hp I J R T) Q := by
  refine pw_if (by decide) (fun _ _ => mg_r101) (fun w1 => ?_) (fun w1 => ?_)
  · have h1 := H.1 w1
    refine pw_p (pw_seg (by decide) (fun _ _ => mg_r102) ?_)
    refine pw_p (pw_iald (by rfl) (cx_getI (show cx_Ds[43]? = some (0, 30, []) from rfl)) (fun w2 => ?_))
    have h2 := h1 w2
    obtain ⟨Q1, hc, hk⟩ := h2
    exact pw_p (pw_call (by decide) (fun _ _ => mg_r103) hc hk)
  · have h1 := H.2 w1
    refine pw_p (pw_seg (by decide) (fun _ _ => mg_r104) ?_)
    refine pw_p (pw_iald (by rfl) (cx_getI (show cx_Ds[43]? = some (0, 30, []) from rfl)) (fun w2 => ?_))
    have h2 := h1 w2
    obtain ⟨Q1, hc, hk⟩ := h2
    exact pw_p (pw_call (by decide) (fun _ _ => mg_r103) hc hk)
set_option maxRecDepth 100000 in
theorem mg_r105 {a0 : Int32} {a1 : Int32} {a2 : Int32} {a3 : Int32} {a4 : Int32} {a5 : Int32} : ∀ G : ez_F, fx_up X 1 G 192 74 [.ref 35, .int a0, .int a1, .int a2] [.int a3, .int a4, .int a5, .ref 48] (ev_hp I J R T) cz kz = bif decide (a3 ≤ (0 : Int32)) then G 192 81 [.ref 35, .int a0, .int a1, .int a2] [.int a4, .int a5, .ref 48] (ev_hp I J R T) cz kz else G 192 77 [.ref 35, .int a0, .int a1, .int a2] [.int a4, .int a5, .ref 48] (ev_hp I J R T) cz kz := by
  intro G
  rfl
set_option maxRecDepth 100000 in
theorem mg_r106 {a0 : Int32} {a1 : Int32} {a2 : Int32} {a3 : Int32} {a4 : Int32} : ∀ G : ez_F, fx_up X 2 G 192 81 [.ref 35, .int a0, .int a1, .int a2] [.int a3, .int a4, .ref 48] (ev_hp I J R T) cz kz = G 192 83 [.ref 35, .int a0, .int a1, .int a2] [.int (a3 + (0 : Int32)), .int a4, .ref 48] (ev_hp I J R T) cz kz := by
  intro G
  rfl
set_option maxRecDepth 100000 in
theorem mg_r107 {a0 : Int32} {a1 : Int32} {a2 : Int32} {a3 : Int32} {a4 : Int32} : ∀ G : ez_F, fx_up X 3 G 192 77 [.ref 35, .int a0, .int a1, .int a2] [.int a3, .int a4, .ref 48] (ev_hp I J R T) cz kz = G 192 83 [.ref 35, .int a0, .int a1, .int a2] [.int (a3 + (1 : Int32)), .int a4, .ref 48] (ev_hp I J R T) cz kz := by
  intro G
  rfl
theorem go_74 {x y c v w : Int32}
    (H : ((v ≤ (0 : Int32) → (ev_ix c 31 → pw N X 192 84 [.ref 35, .int x, .int y, .int c] [] (ev_hp (ev_sI I 48 (upd (I 48) c.toNatClampNeg (w + (0 : Int32)))) J R T) Q)) ∧ (¬ (v ≤ (0 : Int32)) → (ev_ix c 31 → pw N X 192 84 [.ref 35, .int x, .int y, .int c] [] (ev_hp (ev_sI I 48 (upd (I 48) c.toNatClampNeg (w + (1 : Int32)))) J R T) Q)))) : pw (N + 1) X 192 74 [.ref 35, .int x, .int y, .int c] [.int v, .int w, .int c, .ref 48] (ev_hp I J R T) Q := by
  refine pw_if (by decide) (fun _ _ => mg_r105) (fun w1 => ?_) (fun w1 => ?_)
  · have h1 := H.1 w1
    refine pw_p (pw_seg (by decide) (fun _ _ => mg_r106) ?_)
    refine pw_p (pw_iast (by rfl) (cx_getI (show cx_Ds[48]? = some (0, 31, []) from rfl)) (cx_setI (show cx_Ds[48]? = some (0, 31, []) from rfl) _) (fun w2 => ?_))
    have h2 := h1 w2
    exact h2
  · have h1 := H.2 w1
    refine pw_p (pw_seg (by decide) (fun _ _ => mg_r107) ?_)
    refine pw_p (pw_iast (by rfl) (cx_getI (show cx_Ds[48]? = some (0, 31, []) from rfl)) (cx_setI (show cx_Ds[48]? = some (0, 31, []) from rfl) _) (fun w2 => ?_))
    have h2 := h1 w2
    exact h2
set_option maxRecDepth 100000 in
theorem mg_r108 {a0 : Int32} {a1 : Int32} {a2 : Int32} : ∀ G : ez_F, fx_up X 3 G 192 84 [.ref 35, .int a0, .int a1, .int a2] [] (ev_hp I J R T) cz kz = G 192 89 [.ref 35, .int a0, .int a1, .int a2] [.int a2, .ref 48] (ev_hp I J R T) cz kz := by
  intro G
  rfl
set_option maxRecDepth 100000 in
theorem mg_r109 {a0 : Int32} {a1 : Int32} {a2 : Int32} {a3 : Int32} : ∀ G : ez_F, fx_up X 1 G 192 90 [.ref 35, .int a0, .int a1, .int a2] [.int a3] (ev_hp I J R T) cz kz = bif decide (¬ a3 = (0 : Int32)) then G 192 97 [.ref 35, .int a0, .int a1, .int a2] [] (ev_hp I J R T) cz kz else G 192 93 [.ref 35, .int a0, .int a1, .int a2] [] (ev_hp I J R T) cz kz := by
  intro G
  rfl
set_option maxRecDepth 100000 in
theorem mg_r110 {a0 : Int32} {a1 : Int32} {a2 : Int32} : ∀ G : ez_F, fx_up X 2 G 192 93 [.ref 35, .int a0, .int a1, .int a2] [] (ev_hp I J R T) cz kz = ev_C G 186 [.ref 35] (ev_hp I J R T) fun r h1 c1 k1 => G 192 97 [.ref 35, .int a0, .int a1, .int a2] (r.toList ++ []) h1 (cz + c1) (kz + k1) := by
  intro G
  rfl
theorem go_84 {x y c : Int32}
    (H : (ev_ix c 31 → ((¬ (I 48 c.toNatClampNeg) = (0 : Int32) → pw N X 192 97 [.ref 35, .int x, .int y, .int c] [] (ev_hp I J R T) Q) ∧ (¬ (¬ (I 48 c.toNatClampNeg) = (0 : Int32)) → (∃ Q1 : pw_Q, pe N X 186 [.ref 35] (ev_hp I J R T) Q1 ∧ ∀ (r : Option Value) (h1 : ez_H), Q1 r h1 → pw N X 192 97 [.ref 35, .int x, .int y, .int c] (r.toList ++ []) h1 Q))))) : pw (N + 1) X 192 84 [.ref 35, .int x, .int y, .int c] [] (ev_hp I J R T) Q := by
  refine pw_seg (by decide) (fun _ _ => mg_r108) ?_
  refine pw_p (pw_iald (by rfl) (cx_getI (show cx_Ds[48]? = some (0, 31, []) from rfl)) (fun w1 => ?_))
  have h1 := H w1
  refine pw_p (pw_if (by decide) (fun _ _ => mg_r109) (fun w1 => ?_) (fun w1 => ?_))
  · have h1 := h1.1 w1
    exact h1
  · have h1 := h1.2 w1
    obtain ⟨Q1, hc, hk⟩ := h1
    exact pw_p (pw_call (by decide) (fun _ _ => mg_r110) hc hk)
set_option maxRecDepth 100000 in
theorem mg_r111 {a0 : Int32} {a1 : Int32} {a2 : Int32} : ∀ G : ez_F, fx_up X 2 G 192 97 [.ref 35, .int a0, .int a1, .int a2] [] (ev_hp I J R T) cz kz = G 192 7 [.ref 35, .int a0, .int a1, .int (a2 + (1 : Int32))] [] (ev_hp I J R T) cz kz := by
  intro G
  rfl
theorem go_97 {x y c : Int32}
    (H : pw N X 192 7 [.ref 35, .int x, .int y, .int (c + (1 : Int32))] [] (ev_hp I J R T) Q) : pw (N + 1) X 192 97 [.ref 35, .int x, .int y, .int c] [] (ev_hp I J R T) Q := by
  refine pw_seg (by decide) (fun _ _ => mg_r111) ?_
  exact H
end
/-! what one cell of a set is -/
theorem and_bt (x : Int64) {c : Nat} (hc : c < 64) : x &&& cell1 c = bif kb x c then cell1 c else 0 := by
  refine kb_ext fun n _ => ?_
  rw [kb_and, cell1, kb_one hc]
  by_cases h : n = c
  · subst h
    cases hx : kb x n
    · simp only [cond_false, Bool.false_and, kb_0]
    · simp only [cond_true, Bool.true_and, kb_one hc]
  · rw [decide_eq_false h, Bool.and_false]
    cases hx : kb x c
    · simp only [cond_false, kb_0]
    · simp only [cond_true, kb_one hc, decide_eq_false h]
theorem pc_bt {c : Nat} (hc : c < 64) : pcJ (cell1 c) = 1 := by
  have h := pcJ_or 0 hc
  rw [Int64.zero_or, pcJ_0, kb_0] at h
  exact h
theorem pc_bt2 {a b : Nat} (ha : a < 64) (hb : b < 64) (h : a ≠ b) : pcJ (cell1 a ||| cell1 b) = 2 := by
  have h1 := pcJ_or (cell1 a) hb
  rw [pc_bt ha, cell1, kb_one ha, decide_eq_false (fun e : b = a => h e.symm)] at h1
  exact h1
theorem pc_and (x : Int64) {c : Nat} (hc : c < 64) : pcJ (x &&& cell1 c) = (bif kb x c then 1 else 0) := by
  rw [and_bt x hc]
  cases kb x c
  · exact pcJ_0
  · exact pc_bt hc
theorem pc_and2 (x : Int64) {a b : Nat} (ha : a < 64) (hb : b < 64) (h : a ≠ b) : pcJ (x &&& (cell1 a ||| cell1 b)) = pcJ (x &&& cell1 a) + pcJ (x &&& cell1 b) := by
  have e : x &&& (cell1 a ||| cell1 b) = (x &&& cell1 a) ||| (x &&& cell1 b) := kb_ext fun n _ => by
    simp only [kb_and, kb_or]
    cases kb x n <;> cases kb (cell1 a) n <;> cases kb (cell1 b) n <;> rfl
  rw [e, and_bt x ha, and_bt x hb]
  cases kb x a <;> cases kb x b
  · show pcJ (0 ||| 0) = pcJ 0 + pcJ 0
    rw [Int64.or_zero, pcJ_0]
  · show pcJ (0 ||| cell1 b) = pcJ 0 + pcJ (cell1 b)
    rw [Int64.zero_or, pcJ_0, Nat.zero_add]
  · show pcJ (cell1 a ||| 0) = pcJ (cell1 a) + pcJ 0
    rw [Int64.or_zero, pcJ_0, Nat.add_zero]
  · show pcJ (cell1 a ||| cell1 b) = pcJ (cell1 a) + pcJ (cell1 b)
    rw [pc_bt2 ha hb h, pc_bt ha, pc_bt hb]
/-- no two have a cell in common -/
def Dj (P : Nat → Int64) : Prop := ∀ s s', s < 3 → s' < 3 → s ≠ s' → P s &&& P s' = 0
theorem Dj_kb {P : Nat → Int64} (h : Dj P) {s s' c : Nat} (hs : s < 3) (hs' : s' < 3) (hn : s ≠ s') (hk : kb (P s) c = true) : kb (P s') c = false := by
  have h1 := h s s' hs hs' hn
  have h2 : kb (P s &&& P s') c = kb 0 c := by rw [h1]
  rw [kb_and, hk, kb_0, Bool.true_and] at h2
  exact h2
/-- nothing lies there -/
theorem pl_none {sr : Int32} {P H : Nat → Int64} {c : Nat} (hc : c < 64) (h : ∀ s, s < 3 → kb (P s) c = false) : pl_a sr P H (cell1 c) = 0 ∧ pl_n P (cell1 c) 3 = 0 ∧ ∀ s, s < 3 → pl_h P H (cell1 c) s = H s := by
  have e : ∀ s, s < 3 → P s &&& cell1 c = 0 := fun s hs => by
    rw [and_bt _ hc, h s hs]
    rfl
  have hh : ∀ s, s < 3 → pl_h P H (cell1 c) s = H s := fun s hs => by
    unfold pl_h
    rw [e s hs]
    exact Int64.or_zero
  have hn : pl_n P (cell1 c) 3 = 0 := by
    show ((0 + pcJ (P 0 &&& cell1 c)) + pcJ (P 1 &&& cell1 c)) + pcJ (P 2 &&& cell1 c) = 0
    rw [e 0 (by decide), e 1 (by decide), e 2 (by decide), pcJ_0]
  have hk : ∀ s, s < 3 → pl_k P H (cell1 c) s = false := fun s hs => by
    unfold pl_k
    exact decide_eq_false fun z => z.1 (hh s hs)
  refine ⟨?_, hn, hh⟩
  unfold pl_a
  rw [show pl_u P H (cell1 c) 3 = false from by
    show ((false || pl_k P H (cell1 c) 0) || pl_k P H (cell1 c) 1 || pl_k P H (cell1 c) 2) = false
    rw [hk 0 (by decide), hk 1 (by decide), hk 2 (by decide)]
    rfl]
  exact hn
/-- one ship lies there -/
theorem pl_one {sr : Int32} {P H : Nat → Int64} {c s : Nat} (hc : c < 64) (hs : s < 3) (hD : Dj P) (h : kb (P s) c = true) : pl_a sr P H (cell1 c) = (bif decide (sr = 1) && (!kb (H s) c && decide (H s ||| cell1 c = P s)) then 2 else 1) ∧ pl_n P (cell1 c) 3 = 1 ∧ ∀ s', s' < 3 → pl_h P H (cell1 c) s' = if s' = s then H s ||| cell1 c else H s' := by
  have e : ∀ s', s' < 3 → P s' &&& cell1 c = if s' = s then cell1 c else 0 := fun s' hs' => by
    rw [and_bt _ hc]
    by_cases e : s' = s
    · rw [e, h, if_pos rfl]
      rfl
    · rw [Dj_kb hD hs hs' (fun z => e z.symm) h, if_neg e]
      rfl
  have hh : ∀ s', s' < 3 → pl_h P H (cell1 c) s' = if s' = s then H s ||| cell1 c else H s' := fun s' hs' => by
    unfold pl_h
    rw [e s' hs']
    by_cases e : s' = s
    · rw [if_pos e, if_pos e, e]
    · rw [if_neg e, if_neg e]
      exact Int64.or_zero
  have hn : pl_n P (cell1 c) 3 = 1 := by
    show ((0 + pcJ (P 0 &&& cell1 c)) + pcJ (P 1 &&& cell1 c)) + pcJ (P 2 &&& cell1 c) = 1
    rw [e 0 (by decide), e 1 (by decide), e 2 (by decide)]
    rcases (show s = 0 ∨ s = 1 ∨ s = 2 by omega) with rfl | rfl | rfl
    · rw [if_pos rfl, if_neg (by decide), if_neg (by decide), pc_bt hc, pcJ_0]
    · rw [if_neg (by decide), if_pos rfl, if_neg (by decide), pc_bt hc, pcJ_0]
    · rw [if_neg (by decide), if_neg (by decide), if_pos rfl, pc_bt hc, pcJ_0]
  have hnew : (¬ H s ||| cell1 c = H s) ↔ kb (H s) c = false := by
    constructor
    · intro z
      cases hk : kb (H s) c
      · rfl
      · refine absurd (kb_ext fun n _ => ?_) z
        rw [kb_or, cell1, kb_one hc]
        by_cases en : n = c
        · rw [en, hk]
          rfl
        · rw [decide_eq_false en, Bool.or_false]
    · intro hk z
      have h2 : kb (H s ||| cell1 c) c = kb (H s) c := by rw [z]
      rw [kb_or, cell1, kb_one hc, hk, decide_eq_true rfl] at h2
      cases h2
  have hk : ∀ s', s' < 3 → pl_k P H (cell1 c) s' = (decide (s' = s) && (!kb (H s) c && decide (H s ||| cell1 c = P s))) := fun s' hs' => by
    unfold pl_k
    rw [hh s' hs']
    by_cases e : s' = s
    · rw [if_pos e, e, decide_eq_true rfl, Bool.true_and]
      cases hk : kb (H s) c
      · rw [Bool.not_false, Bool.true_and]
        exact decide_eq_decide.mpr ⟨fun z => z.2, fun z => ⟨hnew.mpr hk, z⟩⟩
      · rw [Bool.not_true, Bool.false_and]
        refine decide_eq_false fun z => ?_
        rw [hnew.mp z.1] at hk
        cases hk
    · rw [if_neg e, decide_eq_false e, Bool.false_and]
      exact decide_eq_false fun z => z.1 rfl
  refine ⟨?_, hn, hh⟩
  have hu : pl_u P H (cell1 c) 3 = (!kb (H s) c && decide (H s ||| cell1 c = P s)) := by
    show ((false || pl_k P H (cell1 c) 0) || pl_k P H (cell1 c) 1 || pl_k P H (cell1 c) 2) = _
    rw [hk 0 (by decide), hk 1 (by decide), hk 2 (by decide)]
    rcases (show s = 0 ∨ s = 1 ∨ s = 2 by omega) with rfl | rfl | rfl
    · simp
    · simp
    · simp
  unfold pl_a
  rw [hu, pc_bt hc, hn, decide_eq_true rfl, Bool.true_and, Bool.and_comm]
/-- two cells one behind the other -/
theorem pl_two {sr : Int32} {P H : Nat → Int64} {a b : Nat} (ha : a < 64) (hb : b < 64) (hab : a ≠ b) : pl_a sr P H (cell1 a ||| cell1 b) = pl_n P (cell1 a) 3 + pl_n P (cell1 b) 3 ∧ ∀ s, pl_h P H (cell1 a ||| cell1 b) s = pl_h P (pl_h P H (cell1 a)) (cell1 b) s := by
  constructor
  · unfold pl_a
    rw [pc_bt2 ha hb hab, show decide ((2 : Nat) = 1) = false from rfl, Bool.false_and, Bool.and_false]
    show ((0 + pcJ (P 0 &&& (cell1 a ||| cell1 b))) + pcJ (P 1 &&& (cell1 a ||| cell1 b))) + pcJ (P 2 &&& (cell1 a ||| cell1 b)) = (((0 + pcJ (P 0 &&& cell1 a)) + pcJ (P 1 &&& cell1 a)) + pcJ (P 2 &&& cell1 a)) + (((0 + pcJ (P 0 &&& cell1 b)) + pcJ (P 1 &&& cell1 b)) + pcJ (P 2 &&& cell1 b))
    rw [pc_and2 _ ha hb hab, pc_and2 _ ha hb hab, pc_and2 _ ha hb hab]
    omega
  · intro s
    unfold pl_h
    refine kb_ext fun n _ => ?_
    simp only [kb_or, kb_and]
    cases kb (H s) n <;> cases kb (P s) n <;> cases kb (cell1 a) n <;> cases kb (cell1 b) n <;> rfl
/-- whether a call of one cell hits -/
theorem pl_ht1 {sr : Int32} {P H : Nat → Int64} {c : Nat} (hc : c < 64) (hD : Dj P) : pl_n P (cell1 c) 3 ≤ 1 ∧ (pl_a sr P H (cell1 c) = 0 ↔ pl_n P (cell1 c) 3 = 0) ∧ pl_a sr P H (cell1 c) ≤ 2 := by
  by_cases h : ∃ s, s < 3 ∧ kb (P s) c = true
  · obtain ⟨s, hs, h⟩ := h
    obtain ⟨h1, h2, -⟩ := pl_one (sr := sr) (H := H) hc hs hD h
    rw [h1, h2]
    refine ⟨Nat.le_refl 1, ?_, ?_⟩
    · cases (decide (sr = 1) && (!kb (H s) c && decide (H s ||| cell1 c = P s)))
      · simp
      · simp
    · cases (decide (sr = 1) && (!kb (H s) c && decide (H s ||| cell1 c = P s)))
      · simp
      · simp
  · obtain ⟨h1, h2, -⟩ := pl_none (sr := sr) (H := H) hc (fun s hs => by
      cases hz : kb (P s) c
      · rfl
      · exact absurd ⟨s, hs, hz⟩ h)
    rw [h1, h2]
    exact ⟨by omega, Iff.rfl, by omega⟩
section
variable {N : Nat} {X : ez_X} {I : Nat → Nat → Int32} {J : Nat → Nat → Int64} {R : Nat → Nat} {T : List ez_C} {x y : Int32} {ns : Nat} {P H : Nat → Int64} {z : Int64}
theorem pe_mcount2 : pe N X 179 [.ref 35] (ev_hp I J R T) (fun r h => r = some (.int (I 35 0 * I 35 1)) ∧ h = ev_hp I J R T) := pe_mcount
theorem pe_shipAt (e3 : I 35 3 = Int32.ofNat ns) (hn : ns ≤ 3) {c : Nat} (hx : x = Int32.ofNat c) (hc : c < 64) : pe N X 221 [.ref 35, .int x] (ev_hp I J R T) (fun r h => h = ev_hp I J R T ∧ ((r = some (.int (-1)) ∧ ∀ s, s < ns → kb (J 45 s) c = false) ∨ ∃ s, s < ns ∧ r = some (.int (Int32.ofNat s)) ∧ kb (J 45 s) c = true)) := by
  subst hx
  have loop : ∀ (d s : Nat), s + d = ns → (∀ i, i < s → kb (J 45 i) c = false) → ∀ N, pw N X 221 2 [.ref 35, .int (Int32.ofNat c), .int (Int32.ofNat s)] [] (ev_hp I J R T) (fun r h => h = ev_hp I J R T ∧ ((r = some (.int (-1)) ∧ ∀ s, s < ns → kb (J 45 s) c = false) ∨ ∃ s, s < ns ∧ r = some (.int (Int32.ofNat s)) ∧ kb (J 45 s) c = true)) := by
    intro d
    induction d with
    | zero =>
      intro s hs h N
      obtain rfl : s = ns := by omega
      refine pw_p (sa_2 ⟨fun _ => ⟨rfl, Or.inl ⟨rfl, h⟩⟩, fun g => ?_⟩)
      rw [e3] at g
      exact absurd (Int32.le_refl _) g
    | succ d ih =>
      intro s hsd h N
      refine pw_p (sa_2 ?_)
      rw [e3, io_cl (by omega), has_kb _ hc, io_1]
      refine ⟨fun g => ?_, fun _ _ => ⟨fun g => ih (s + 1) (by omega) (fun i hi => ?_) N, fun g => ⟨rfl, Or.inr ⟨s, by omega, rfl, ?_⟩⟩⟩⟩
      · rw [io_le (by omega) (by omega)] at g
        omega
      · by_cases his : i = s
        · rw [his]
          exact g
        · exact h i (by omega)
      · cases hz : kb (J 45 s) c
        · exact absurd hz g
        · rfl
  exact pe_of (pw_p (sa_0 (loop ns 0 (by omega) (fun i hi => absurd hi (by omega)) _)))
/-- a cell is called -/
theorem pe_callCell (e3 : I 35 3 = Int32.ofNat ns) (hn : ns ≤ 3) (hP : ∀ s, s < ns → J 45 s = P s ∧ J 46 s = H s) (hz : ∀ s, ns ≤ s → s < 3 → P s = 0) (hD : Dj P) {c : Nat} (hx : x = Int32.ofNat c) (hc : c < 64) : pe N X 176 [.ref 35, .int x] (ev_hp I J R T) (fun r h => r = some (.int (Int32.ofNat (pl_a (I 35 7) P H (cell1 c)))) ∧ ∃ G, h = ev_hp I (ev_sJ J 46 G) R T ∧ ∀ s, s < ns → G s = pl_h P H (cell1 c) s) := by
  refine pe_of (pw_p (ce_0 ⟨_, pe_shipAt e3 hn hx hc, ?_⟩))
  subst hx
  rintro r h ⟨rfl, ⟨rfl, h1⟩ | ⟨s, hs, rfl, h1⟩⟩
  · obtain ⟨a1, -, a3⟩ := pl_none (sr := I 35 7) (P := P) (H := H) hc (fun s hs => by
      by_cases h : s < ns
      · rw [← (hP s h).1]
        exact h1 s h
      · rw [hz s (by omega) hs]
        exact kb_0 c)
    refine pw_p (ce_5 ⟨fun g => absurd rfl g, fun _ => ⟨by rw [a1]; rfl, J 46, by rw [sJ_self], fun s hs => ?_⟩⟩)
    rw [a3 s (by omega)]
    exact (hP s hs).2
  · rw [(hP s hs).1] at h1
    obtain ⟨a1, -, a3⟩ := pl_one (sr := I 35 7) (H := H) hc (show s < 3 by omega) hD h1
    have fin : ∀ v : Int32, v = Int32.ofNat (pl_a (I 35 7) P H (cell1 c)) → (some (.int v) : Option Value) = some (.int (Int32.ofNat (pl_a (I 35 7) P H (cell1 c)))) ∧ ∃ G, ev_hp I (ev_sJ J 46 (vp_updL (J 46) s (H s ||| cell1 c))) R T = ev_hp I (ev_sJ J 46 G) R T ∧ ∀ s, s < ns → G s = pl_h P H (cell1 c) s := by
      intro v hv
      refine ⟨by rw [hv], _, rfl, fun s' hs' => ?_⟩
      rw [a3 s' (by omega)]
      by_cases e : s' = s
      · rw [e, pv_s, if_pos rfl]
      · rw [pv_n _ _ e, if_neg e]
        exact (hP s' hs').2
    have hne : ¬ Int32.ofNat s = -1 := by
      intro z
      have z2 := congrArg Int32.toInt z
      rw [io_ti (by omega), show ((-1 : Int32)).toInt = -1 from by decide] at z2
      omega
    refine pw_p (ce_5 ?_)
    rw [io_cl (by omega), pv_s, (hP s hs).1, (hP s hs).2, has_kb _ hc, lg_eq]
    refine ⟨fun _ _ => ⟨fun g _ _ => ⟨fun g2 => fin _ ?_, fun g2 => fin _ ?_⟩, fun g _ _ => ⟨fun g2 => fin _ ?_, fun g2 _ _ => ⟨fun g3 => fin _ ?_, fun g3 => fin _ ?_⟩⟩⟩, fun g => absurd hne g⟩
    · rw [a1, decide_eq_false g2]
      rfl
    · rw [a1, show kb (H s) c = true from by
        cases hk : kb (H s) c
        · exact absurd hk g
        · rfl, Bool.not_true, Bool.false_and, Bool.and_false]
      rfl
    · rw [a1, decide_eq_false g2]
      rfl
    · rw [a1, decide_eq_false (p := H s ||| cell1 c = P s) g3, Bool.and_false, Bool.and_false]
      rfl
    · rw [a1, decide_eq_true (Classical.not_not.mp g2), decide_eq_true (p := H s ||| cell1 c = P s) (Classical.not_not.mp g3), Classical.not_not.mp g]
      rfl
/-- a set drifts -/
theorem pe_driftOf {W HH : Nat} (e0 : I 35 0 = Int32.ofNat W) (e1 : I 35 1 = Int32.ofNat HH) (hW : 2 ≤ W ∧ W ≤ 6) (hH : 2 ≤ HH ∧ HH ≤ 6) (hx : d1 (I 35 9)) (hy : d1 (I 35 10)) (hz : onp (W * HH) z) : pe N X 187 [.ref 35, .long z] (ev_hp I J R T) (fun r h => r = some (.long (mvP (I 35 0) (I 35 1) 1 (I 35 9) (I 35 10) z)) ∧ h = ev_hp I J R T) := by
  have h36 : W * HH ≤ 6 * 6 := Nat.mul_le_mul hW.2 hH.2
  obtain ⟨m1, m2, m3⟩ := mv_s hW hH hx hy hz
  rw [← e0, ← e1] at m1 m3
  have h63 : ∀ u, onp (W * HH) u → kb u 63 = false := fun u hu => hu 63 (by omega)
  have em1 : (18446744073709551615 : Int64) = -1 := by decide
  have loop : ∀ (d y : Nat), y + d = HH → ∀ (f : Int64), fc_L (I 35 0) d (Int32.ofNat y) f = fc_F (I 35 0) (I 35 1) → ∀ N, pw N X 187 15 [.ref 35, .long z, ez_fill, .long (al_F (I 35 0 * I 35 1)), ez_fill, .long f, ez_fill, .int (Int32.ofNat y)] [] (ev_hp I J R T) (fun r h => r = some (.long (mvP (I 35 0) (I 35 1) 1 (I 35 9) (I 35 10) z)) ∧ h = ev_hp I J R T) := by
    intro d
    induction d with
    | zero =>
      intro y hy2 f hf N
      obtain rfl : y = HH := by omega
      have hf : f = fc_F (I 35 0) (I 35 1) := hf
      subst hf
      refine pw_p (dr_15 ⟨fun _ => ?_, fun g => ?_⟩)
      rotate_left
      · rw [e1] at g
        exact absurd (Int32.le_refl _) g
      have s4 : ∀ v : Int64, dr4 (I 35 0) (I 35 1) (al_F (I 35 0 * I 35 1)) v (I 35 10) = drS (I 35 0) (I 35 1) (I 35 9) (I 35 10) z → (I 35 10 = -1 → kb v 63 = false) → ∀ N l, pw N X 187 160 [.ref 35, .long z, ez_fill, .long (al_F (I 35 0 * I 35 1)), ez_fill, .long (fc_F (I 35 0) (I 35 1)), ez_fill, .long l, ez_fill, .long v, ez_fill] [] (ev_hp I J R T) (fun r h => r = some (.long (mvP (I 35 0) (I 35 1) 1 (I 35 9) (I 35 10) z)) ∧ h = ev_hp I J R T) := by
        intro v hv h2 N l
        rw [← m1, ← hv]
        unfold dr4
        refine pw_p (dr_160 ⟨fun g => ⟨?_, rfl⟩, fun g => ⟨?_, rfl⟩⟩)
        · rw [if_neg g]
        · have g := Classical.not_not.mp g
          rw [if_pos g, e0, sr_us (h2 g) (by omega)]
          rfl
      have s3 : ∀ v : Int64, dr4 (I 35 0) (I 35 1) (al_F (I 35 0 * I 35 1)) (dr3 (I 35 0) (I 35 1) (al_F (I 35 0 * I 35 1)) v (I 35 10)) (I 35 10) = drS (I 35 0) (I 35 1) (I 35 9) (I 35 10) z → kb v 63 = false → ∀ N l, pw N X 187 126 [.ref 35, .long z, ez_fill, .long (al_F (I 35 0 * I 35 1)), ez_fill, .long (fc_F (I 35 0) (I 35 1)), ez_fill, .long l, ez_fill, .long v, ez_fill] [] (ev_hp I J R T) (fun r h => r = some (.long (mvP (I 35 0) (I 35 1) 1 (I 35 9) (I 35 10) z)) ∧ h = ev_hp I J R T) := by
        intro v hv h2 N l
        refine pw_p (dr_126 ⟨fun g => s4 v ?_ (fun _ => h2) _ _, fun g => s4 _ ?_ (fun g2 => ?_) _ _⟩)
        · rw [← hv]
          unfold dr3
          rw [if_neg g]
        · have g := Classical.not_not.mp g
          rw [← hv]
          unfold dr3
          rw [if_pos g]
          have e5 : I 35 0 * (I 35 1 - 1) = Int32.ofNat (W * (y - 1)) := by rw [e0, e1, io_sub1 (by omega), io_mul]
          have h5 : W * (y - 1) ≤ 6 * 5 := Nat.mul_le_mul hW.2 (by omega)
          rw [e5, sr_us h2 (by omega)]
          rfl
        · rw [Classical.not_not.mp g] at g2
          exact absurd g2 (by decide)
      have s2 : ∀ v : Int64, dr2 (I 35 0) (fc_F (I 35 0) (I 35 1)) v (I 35 9) = dr12 (I 35 0) (I 35 1) (I 35 9) z → (I 35 9 = -1 → kb v 63 = false) → ∀ N l, pw N X 187 92 [.ref 35, .long z, ez_fill, .long (al_F (I 35 0 * I 35 1)), ez_fill, .long (fc_F (I 35 0) (I 35 1)), ez_fill, .long l, ez_fill, .long v, ez_fill] [] (ev_hp I J R T) (fun r h => r = some (.long (mvP (I 35 0) (I 35 1) 1 (I 35 9) (I 35 10) z)) ∧ h = ev_hp I J R T) := by
        intro v hv h2 N l
        have go : ∀ v', v' = dr12 (I 35 0) (I 35 1) (I 35 9) z → ∀ N, pw N X 187 126 [.ref 35, .long z, ez_fill, .long (al_F (I 35 0 * I 35 1)), ez_fill, .long (fc_F (I 35 0) (I 35 1)), ez_fill, .long l, ez_fill, .long v', ez_fill] [] (ev_hp I J R T) (fun r h => r = some (.long (mvP (I 35 0) (I 35 1) 1 (I 35 9) (I 35 10) z)) ∧ h = ev_hp I J R T) := by
          rintro v' rfl N
          exact s3 _ rfl (h63 _ m3) N l
        refine pw_p (dr_92 ⟨fun g => go _ ?_ _, fun g => go _ ?_ _⟩)
        · rw [← hv]
          unfold dr2
          rw [if_neg g]
        · have g := Classical.not_not.mp g
          rw [← hv]
          unfold dr2
          rw [if_pos g, em1, show (1 : Int32) = Int32.ofNat 1 from rfl, sr_us (by rw [kb_and, h2 g, Bool.false_and]) (by omega)]
          rfl
      refine pw_p (dr_44 ⟨fun g => s2 z ?_ (fun _ => h63 z hz) _ _, fun g => s2 _ ?_ (fun g2 => ?_) _ _⟩)
      · unfold dr12 dr1
        rw [if_neg g]
      · have g := Classical.not_not.mp g
        unfold dr12 dr1
        have e5 : I 35 0 - 1 = Int32.ofNat (W - 1) := by rw [e0, io_sub1 (by omega)]
        rw [if_pos g, em1, e5, sr_us (by rw [kb_and, h63 z hz, Bool.false_and]) (by omega), ← e5]
        rfl
      · rw [Classical.not_not.mp g] at g2
        exact absurd g2 (by decide)
    | succ d ih =>
      intro y hyd f hf N
      refine pw_p (dr_15 ⟨fun g => ?_, fun _ => ?_⟩)
      · rw [e1, io_le (by omega) (by omega)] at g
        omega
      · rw [io_1]
        refine ih (y + 1) (by omega) _ ?_ N
        rw [← hf, ← io_1]
        rfl
  refine pe_of (pw_p (dr_0 ?_))
  refine loop HH 0 (by omega) 0 ?_ N
  unfold fc_F
  rw [show (I 35 1).toInt.toNat = HH from by rw [e1, io_ti (by omega)]; exact Int.toNat_natCast HH]
  rfl
end
