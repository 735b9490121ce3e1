/-! A laying is gone through the calls, by the class. -/
section
variable {N : Nat} {X : ez_X} {I : Nat → Nat → Int32} {J : Nat → Nat → Int64} {R : Nat → Nat} {T : List ez_C} {Q : pw_Q} {cz kz : Nat}
set_option maxRecDepth 100000 in
theorem pl0_r0 {a0 : Int32} : ∀ G : ez_F, fx_up X 4 G 152 0 [.ref 1, .int a0] [] (ev_hp I J R T) cz kz = ev_C G 3 [.ref 2, .int a0] (ev_hp I J R T) fun r h1 c1 k1 => G 152 8 [.ref 1, .int a0] (r.toList ++ []) h1 (cz + c1) (kz + k1) := by
  intro G
  rfl
set_option maxRecDepth 100000 in
theorem pl0_r1 {a0 : Int32} {a1 : Int32} : ∀ G : ez_F, fx_up X 1 G 152 8 [.ref 1, .int a0] [.int a1] (ev_hp I J R T) cz kz = some (some (.int a1), (ev_hp I J R T), cz, kz) := by
  intro G
  rfl
theorem pl_rule {x : Int32}
    (H : Q (some (.int (ev_at 3 (I 2) x))) (ev_hp I J R T)) : pw (N + 1) X 152 0 [.ref 1, .int x] [] (ev_hp I J R T) Q := by
  refine pw_callp (by decide) (fun _ _ => pl0_r0) (pe_at (show cx_Ds[2]? = some (0, 3, []) from rfl) (by decide)) ?_
  exact pw_p (pw_ret (by decide) (fun _ _ => pl0_r1) H)
set_option maxRecDepth 100000 in
theorem pl0_r2 {a0 : Int32} : ∀ G : ez_F, fx_up X 4 G 124 0 [.ref 8, .int a0] [] (ev_hp I J R T) cz kz = ev_C G 4 [.ref 9, .int a0] (ev_hp I J R T) fun r h1 c1 k1 => G 124 8 [.ref 8, .int a0] (r.toList ++ []) h1 (cz + c1) (kz + k1) := by
  intro G
  rfl
set_option maxRecDepth 100000 in
theorem pl0_r3 {a0 : Int32} {a1 : Int64} : ∀ G : ez_F, fx_up X 1 G 124 8 [.ref 8, .int a0] [.long a1] (ev_hp I J R T) cz kz = some (some (.long a1), (ev_hp I J R T), cz, kz) := by
  intro G
  rfl
theorem pl_target {x : Int32}
    (H : Q (some (.long (ev_atJ 30 (J 9) x))) (ev_hp I J R T)) : pw (N + 1) X 124 0 [.ref 8, .int x] [] (ev_hp I J R T) Q := by
  refine pw_callp (by decide) (fun _ _ => pl0_r2) (pe_atJ (show cx_Ds[9]? = some (1, 30, []) from rfl) (by decide)) ?_
  exact pw_p (pw_ret (by decide) (fun _ _ => pl0_r3) H)
set_option maxRecDepth 100000 in
theorem pl0_r4 {a0 : Int32} : ∀ G : ez_F, fx_up X 4 G 133 0 [.ref 10, .int a0] [] (ev_hp I J R T) cz kz = ev_C G 4 [.ref 11, .int a0] (ev_hp I J R T) fun r h1 c1 k1 => G 133 8 [.ref 10, .int a0] (r.toList ++ []) h1 (cz + c1) (kz + k1) := by
  intro G
  rfl
set_option maxRecDepth 100000 in
theorem pl0_r5 {a0 : Int32} {a1 : Int64} : ∀ G : ez_F, fx_up X 1 G 133 8 [.ref 10, .int a0] [.long a1] (ev_hp I J R T) cz kz = some (some (.long a1), (ev_hp I J R T), cz, kz) := by
  intro G
  rfl
theorem pl_placeOf {x : Int32}
    (H : Q (some (.long (ev_atJ 3 (J 11) x))) (ev_hp I J R T)) : pw (N + 1) X 133 0 [.ref 10, .int x] [] (ev_hp I J R T) Q := by
  refine pw_callp (by decide) (fun _ _ => pl0_r4) (pe_atJ (show cx_Ds[11]? = some (1, 3, []) from rfl) (by decide)) ?_
  exact pw_p (pw_ret (by decide) (fun _ _ => pl0_r5) H)
set_option maxRecDepth 100000 in
theorem pl0_r6 {a0 : Int32} : ∀ G : ez_F, fx_up X 2 G 138 0 [.ref 6, .int a0] [] (ev_hp I J R T) cz kz = G 138 4 [.ref 6, .int a0] [.ref (R 0)] (ev_hp I J R T) cz kz := by
  intro G
  rfl
set_option maxRecDepth 100000 in
theorem pl0_r7 {a0 : Int32} {a1 : Nat} : ∀ G : ez_F, fx_up X 1 G 138 4 [.ref 6, .int a0] [.ref a1] (ev_hp I J R T) cz kz = G 138 5 [.ref 6, .int a0] [.int a0, .ref a1] (ev_hp I J R T) cz kz := by
  intro G
  rfl
theorem pl_codeOf {x : Int32}
    (H : pw N X 138 5 [.ref 6, .int x] [.int x, .ref (R 0)] (ev_hp I J R T) Q) : pw (N + 1) X 138 0 [.ref 6, .int x] [] (ev_hp I J R T) Q := by
  refine pw_seg (by decide) (fun _ _ => pl0_r6) ?_
  refine pw_p (pw_seg (by decide) (fun _ _ => pl0_r7) ?_)
  exact H
end
section
variable {N : Nat} {X : ez_X} {I : Nat → Nat → Int32} {J : Nat → Nat → Int64} {R : Nat → Nat} {T : List ez_C} {x : Int32}
theorem pe_rule2 : pe N X 152 [.ref 1, .int x] (ev_hp I J R T) (fun r h => r = some (.int (ev_at 3 (I 2) x)) ∧ h = ev_hp I J R T) := pe_of (pw_p (pl_rule ⟨rfl, rfl⟩))
theorem pe_target : pe N X 124 [.ref 8, .int x] (ev_hp I J R T) (fun r h => r = some (.long (ev_atJ 30 (J 9) x)) ∧ h = ev_hp I J R T) := pe_of (pw_p (pl_target ⟨rfl, rfl⟩))
theorem pe_placeOf : pe N X 133 [.ref 10, .int x] (ev_hp I J R T) (fun r h => r = some (.long (ev_atJ 3 (J 11) x)) ∧ h = ev_hp I J R T) := pe_of (pw_p (pl_placeOf ⟨rfl, rfl⟩))
end
section
variable {N : Nat} {X : ez_X} {I : Nat → Nat → Int32} {J : Nat → Nat → Int64} {R : Nat → Nat} {T : List ez_C} {Q : pw_Q} {cz kz : Nat}
set_option maxRecDepth 100000 in
theorem pl1_r0 {a0 : Int64} : ∀ G : ez_F, fx_up X 6 G 130 0 [.ref 10, .long a0, ez_fill] [] (ev_hp I J R T) cz kz = G 130 8 [.ref 10, .long a0, ez_fill, .int (0 : Int32), .int (0 : Int32), .int (0 : Int32)] [] (ev_hp I J R T) cz kz := by
  intro G
  rfl
theorem pf_0 {t : Int64}
    (H : pw N X 130 8 [.ref 10, .long t, ez_fill, .int (0 : Int32), .int (0 : Int32), .int (0 : Int32)] [] (ev_hp I J R T) Q) : pw (N + 1) X 130 0 [.ref 10, .long t, ez_fill] [] (ev_hp I J R T) Q := by
  refine pw_seg (by decide) (fun _ _ => pl1_r0) ?_
  exact H
set_option maxRecDepth 100000 in
theorem pl1_r1 {a0 : Int64} {a1 : Int32} {a2 : Int32} {a3 : Int32} : ∀ G : ez_F, fx_up X 3 G 130 8 [.ref 10, .long a0, ez_fill, .int a1, .int a2, .int a3] [] (ev_hp I J R T) cz kz = bif decide ((3 : Int32) ≤ a3) then G 130 107 [.ref 10, .long a0, ez_fill, .int a1, .int a2, .int a3] [] (ev_hp I J R T) cz kz else G 130 14 [.ref 10, .long a0, ez_fill, .int a1, .int a2, .int a3] [] (ev_hp I J R T) cz kz := by
  intro G
  rfl
set_option maxRecDepth 100000 in
theorem pl1_r2 {a0 : Int64} {a1 : Int32} {a2 : Int32} {a3 : Int32} : ∀ G : ez_F, fx_up X 4 G 130 14 [.ref 10, .long a0, ez_fill, .int a1, .int a2, .int a3] [] (ev_hp I J R T) cz kz = ev_C G 4 [.ref 11, .int a3] (ev_hp I J R T) fun r h1 c1 k1 => G 130 23 [.ref 10, .long a0, ez_fill, .int a1, .int a2, .int a3] (r.toList ++ []) h1 (cz + c1) (kz + k1) := by
  intro G
  rfl
set_option maxRecDepth 100000 in
theorem pl1_r3 {a0 : Int64} {a1 : Int32} {a2 : Int32} {a3 : Int32} {a4 : Int64} : ∀ G : ez_F, fx_up X 9 G 130 23 [.ref 10, .long a0, ez_fill, .int a1, .int a2, .int a3] [.long a4] (ev_hp I J R T) cz kz = bif decide ((lg_cmp (a4 &&& a0) (0 : Int64)) = (0 : Int32)) then G 130 101 [.ref 10, .long a0, ez_fill, .int a1, .int a2, .int a3, .long a4, ez_fill, .long (a4 &&& a0), ez_fill] [] (ev_hp I J R T) cz kz else G 130 38 [.ref 10, .long a0, ez_fill, .int a1, .int a2, .int a3, .long a4, ez_fill, .long (a4 &&& a0), ez_fill] [] (ev_hp I J R T) cz kz := by
  intro G
  rfl
set_option maxRecDepth 100000 in
theorem pl1_r4 {a0 : Int64} {a1 : Int32} {a2 : Int32} {a3 : Int32} {a4 : Int64} {a5 : Int64} : ∀ G : ez_F, fx_up X 2 G 130 101 [.ref 10, .long a0, ez_fill, .int a1, .int a2, .int a3, .long a4, ez_fill, .long a5, ez_fill] [] (ev_hp I J R T) cz kz = G 130 8 [.ref 10, .long a0, ez_fill, .int a1, .int a2, .int (a3 + (1 : Int32)), .long a4, ez_fill, .long a5, ez_fill] [] (ev_hp I J R T) cz kz := by
  intro G
  rfl
set_option maxRecDepth 100000 in
theorem pl1_r5 {a0 : Int64} {a1 : Int32} {a2 : Int32} {a3 : Int32} {a4 : Int64} {a5 : Int64} : ∀ G : ez_F, fx_up X 4 G 130 38 [.ref 10, .long a0, ez_fill, .int a1, .int a2, .int a3, .long a4, ez_fill, .long a5, ez_fill] [] (ev_hp I J R T) cz kz = ev_C G 4 [.ref 12, .int a3] (ev_hp I J R T) fun r h1 c1 k1 => G 130 47 [.ref 10, .long a0, ez_fill, .int a1, .int a2, .int a3, .long a4, ez_fill, .long a5, ez_fill] (r.toList ++ []) h1 (cz + c1) (kz + k1) := by
  intro G
  rfl
set_option maxRecDepth 100000 in
theorem pl1_r6 {a0 : Int64} {a1 : Int32} {a2 : Int32} {a3 : Int32} {a4 : Int64} {a5 : Int64} {a6 : Int64} : ∀ G : ez_F, fx_up X 10 G 130 47 [.ref 10, .long a0, ez_fill, .int a1, .int a2, .int a3, .long a4, ez_fill, .long a5, ez_fill] [.long a6] (ev_hp I J R T) cz kz = ev_C G 39 [.ref 12, .int a3, .long (a6 ||| a5)] (ev_hp I J R T) fun r h1 c1 k1 => G 130 67 [.ref 10, .long a0, ez_fill, .int a1, .int a2, .int a3, .long a4, ez_fill, .long a5, ez_fill, .long a6, ez_fill, .long (a6 ||| a5), ez_fill] (r.toList ++ []) h1 (cz + c1) (kz + k1) := by
  intro G
  rfl
set_option maxRecDepth 100000 in
theorem pl1_r7 {a0 : Int64} {a1 : Int32} {a2 : Int32} {a3 : Int32} {a4 : Int64} {a5 : Int64} {a6 : Int64} {a7 : Int64} : ∀ G : ez_F, fx_up X 3 G 130 67 [.ref 10, .long a0, ez_fill, .int a1, .int a2, .int a3, .long a4, ez_fill, .long a5, ez_fill, .long a6, ez_fill, .long a7, ez_fill] [] (ev_hp I J R T) cz kz = ev_C G 237 [.long a5] (ev_hp I J R T) fun r h1 c1 k1 => G 130 73 [.ref 10, .long a0, ez_fill, .int a1, .int a2, .int a3, .long a4, ez_fill, .long a5, ez_fill, .long a6, ez_fill, .long a7, ez_fill] (r.toList ++ [.int a1]) h1 (cz + c1) (kz + k1) := by
  intro G
  rfl
set_option maxRecDepth 100000 in
theorem pl1_r8 {a0 : Int64} {a1 : Int32} {a2 : Int32} {a3 : Int32} {a4 : Int64} {a5 : Int64} {a6 : Int64} {a7 : Int64} {a8 : Int32} {a9 : Int32} : ∀ G : ez_F, fx_up X 7 G 130 73 [.ref 10, .long a0, ez_fill, .int a1, .int a2, .int a3, .long a4, ez_fill, .long a5, ez_fill, .long a6, ez_fill, .long a7, ez_fill] [.int a8, .int a9] (ev_hp I J R T) cz kz = bif decide ((lg_cmp a7 a6) = (0 : Int32)) then G 130 97 [.ref 10, .long a0, ez_fill, .int (a9 + a8), .int a2, .int a3, .long a4, ez_fill, .long a5, ez_fill, .long a6, ez_fill, .long a7, ez_fill] [.int a2] (ev_hp I J R T) cz kz else G 130 85 [.ref 10, .long a0, ez_fill, .int (a9 + a8), .int a2, .int a3, .long a4, ez_fill, .long a5, ez_fill, .long a6, ez_fill, .long a7, ez_fill] [.int a2] (ev_hp I J R T) cz kz := by
  intro G
  rfl
set_option maxRecDepth 100000 in
theorem pl1_r9 {a0 : Int64} {a1 : Int32} {a2 : Int32} {a3 : Int32} {a4 : Int64} {a5 : Int64} {a6 : Int64} {a7 : Int64} {a8 : Int32} : ∀ G : ez_F, fx_up X 5 G 130 97 [.ref 10, .long a0, ez_fill, .int a1, .int a2, .int a3, .long a4, ez_fill, .long a5, ez_fill, .long a6, ez_fill, .long a7, ez_fill] [.int a8] (ev_hp I J R T) cz kz = G 130 8 [.ref 10, .long a0, ez_fill, .int a1, .int (a8 ||| (0 : Int32)), .int (a3 + (1 : Int32)), .long a4, ez_fill, .long a5, ez_fill] [] (ev_hp I J R T) cz kz := by
  intro G
  rfl
set_option maxRecDepth 100000 in
theorem pl1_r10 {a0 : Int64} {a1 : Int32} {a2 : Int32} {a3 : Int32} {a4 : Int64} {a5 : Int64} {a6 : Int64} {a7 : Int64} {a8 : Int32} : ∀ G : ez_F, fx_up X 4 G 130 85 [.ref 10, .long a0, ez_fill, .int a1, .int a2, .int a3, .long a4, ez_fill, .long a5, ez_fill, .long a6, ez_fill, .long a7, ez_fill] [.int a8] (ev_hp I J R T) cz kz = bif decide (¬ (lg_cmp a7 a4) = (0 : Int32)) then G 130 97 [.ref 10, .long a0, ez_fill, .int a1, .int a2, .int a3, .long a4, ez_fill, .long a5, ez_fill, .long a6, ez_fill, .long a7, ez_fill] [.int a8] (ev_hp I J R T) cz kz else G 130 93 [.ref 10, .long a0, ez_fill, .int a1, .int a2, .int a3, .long a4, ez_fill, .long a5, ez_fill, .long a6, ez_fill, .long a7, ez_fill] [.int a8] (ev_hp I J R T) cz kz := by
  intro G
  rfl
set_option maxRecDepth 100000 in
theorem pl1_r11 {a0 : Int64} {a1 : Int32} {a2 : Int32} {a3 : Int32} {a4 : Int64} {a5 : Int64} {a6 : Int64} {a7 : Int64} {a8 : Int32} : ∀ G : ez_F, fx_up X 6 G 130 93 [.ref 10, .long a0, ez_fill, .int a1, .int a2, .int a3, .long a4, ez_fill, .long a5, ez_fill, .long a6, ez_fill, .long a7, ez_fill] [.int a8] (ev_hp I J R T) cz kz = G 130 8 [.ref 10, .long a0, ez_fill, .int a1, .int (a8 ||| (1 : Int32)), .int (a3 + (1 : Int32)), .long a4, ez_fill, .long a5, ez_fill] [] (ev_hp I J R T) cz kz := by
  intro G
  rfl
theorem pf_8 {t : Int64} {n k s : Int32}
    (H : (((3 : Int32) ≤ s → pw N X 130 107 [.ref 10, .long t, ez_fill, .int n, .int k, .int s] [] (ev_hp I J R T) Q) ∧ (¬ ((3 : Int32) ≤ s) → (((lg_cmp ((ev_atJ 3 (J 11) s) &&& t) (0 : Int64)) = (0 : Int32) → pw N X 130 8 [.ref 10, .long t, ez_fill, .int n, .int k, .int (s + (1 : Int32))] [] (ev_hp I J R T) Q) ∧ (¬ ((lg_cmp ((ev_atJ 3 (J 11) s) &&& t) (0 : Int64)) = (0 : Int32)) → (((lg_cmp ((ev_atJ 3 (J 12) s) ||| ((ev_atJ 3 (J 11) s) &&& t)) (ev_atJ 3 (J 12) s)) = (0 : Int32) → pw N X 130 8 [.ref 10, .long t, ez_fill, .int (n + (ev_bcJ ((ev_atJ 3 (J 11) s) &&& t))), .int (k ||| (0 : Int32)), .int (s + (1 : Int32))] [] (ev_hp I (ev_sJ J 12 (ev_putJ 3 (J 12) s ((ev_atJ 3 (J 12) s) ||| ((ev_atJ 3 (J 11) s) &&& t)))) R T) Q) ∧ (¬ ((lg_cmp ((ev_atJ 3 (J 12) s) ||| ((ev_atJ 3 (J 11) s) &&& t)) (ev_atJ 3 (J 12) s)) = (0 : Int32)) → ((¬ (lg_cmp ((ev_atJ 3 (J 12) s) ||| ((ev_atJ 3 (J 11) s) &&& t)) (ev_atJ 3 (J 11) s)) = (0 : Int32) → pw N X 130 8 [.ref 10, .long t, ez_fill, .int (n + (ev_bcJ ((ev_atJ 3 (J 11) s) &&& t))), .int (k ||| (0 : Int32)), .int (s + (1 : Int32))] [] (ev_hp I (ev_sJ J 12 (ev_putJ 3 (J 12) s ((ev_atJ 3 (J 12) s) ||| ((ev_atJ 3 (J 11) s) &&& t)))) R T) Q) ∧ (¬ (¬ (lg_cmp ((ev_atJ 3 (J 12) s) ||| ((ev_atJ 3 (J 11) s) &&& t)) (ev_atJ 3 (J 11) s)) = (0 : Int32)) → pw N X 130 8 [.ref 10, .long t, ez_fill, .int (n + (ev_bcJ ((ev_atJ 3 (J 11) s) &&& t))), .int (k ||| (1 : Int32)), .int (s + (1 : Int32))] [] (ev_hp I (ev_sJ J 12 (ev_putJ 3 (J 12) s ((ev_atJ 3 (J 12) s) ||| ((ev_atJ 3 (J 11) s) &&& t)))) R T) Q))))))))) : pw (N + 1) X 130 8 [.ref 10, .long t, ez_fill, .int n, .int k, .int s] [] (ev_hp I J R T) Q := by
  refine pw_if (by decide) (fun _ _ => pl1_r1) (fun w1 => ?_) (fun w1 => ?_)
  · have h1 := H.1 w1
    exact h1
  · have h1 := H.2 w1
    refine pw_p (pw_callp (by decide) (fun _ _ => pl1_r2) (pe_atJ (show cx_Ds[11]? = some (1, 3, []) from rfl) (by decide)) ?_)
    refine pw_p (pw_if (by decide) (fun _ _ => pl1_r3) (fun w2 => ?_) (fun w2 => ?_))
    · have h2 := h1.1 w2
      refine pw_p (pw_seg (by decide) (fun _ _ => pl1_r4) ?_)
      refine pw_cutl (by rfl) ?_
      exact h2
    · have h2 := h1.2 w2
      refine pw_p (pw_callp (by decide) (fun _ _ => pl1_r5) (pe_atJ (show cx_Ds[12]? = some (1, 3, []) from rfl) (by decide)) ?_)
      refine pw_p (pw_callp (by decide) (fun _ _ => pl1_r6) (pe_putJ (show cx_Ds[12]? = some (1, 3, []) from rfl) (by decide)) ?_)
      refine pw_p (pw_callp (by decide) (fun _ _ => pl1_r7) (pe_is (ec_bcJ _ _ _)) ?_)
      refine pw_p (pw_if (by decide) (fun _ _ => pl1_r8) (fun w3 => ?_) (fun w3 => ?_))
      · have h3 := h2.1 w3
        refine pw_p (pw_seg (by decide) (fun _ _ => pl1_r9) ?_)
        refine pw_cutl (by rfl) ?_
        exact h3
      · have h3 := h2.2 w3
        refine pw_p (pw_if (by decide) (fun _ _ => pl1_r10) (fun w4 => ?_) (fun w4 => ?_))
        · have h4 := h3.1 w4
          refine pw_p (pw_seg (by decide) (fun _ _ => pl1_r9) ?_)
          refine pw_cutl (by rfl) ?_
          exact h4
        · have h4 := h3.2 w4
          refine pw_p (pw_seg (by decide) (fun _ _ => pl1_r11) ?_)
          refine pw_cutl (by rfl) ?_
          exact h4
set_option maxRecDepth 100000 in
theorem pl1_r12 {a0 : Int64} {a1 : Int32} {a2 : Int32} {a3 : Int32} : ∀ G : ez_F, fx_up X 2 G 130 107 [.ref 10, .long a0, ez_fill, .int a1, .int a2, .int a3] [] (ev_hp I J R T) cz kz = ev_C G 237 [.long a0] (ev_hp I J R T) fun r h1 c1 k1 => G 130 111 [.ref 10, .long a0, ez_fill, .int a1, .int a2, .int a3] (r.toList ++ []) h1 (cz + c1) (kz + k1) := by
  intro G
  rfl
set_option maxRecDepth 100000 in
theorem pl1_r13 {a0 : Int64} {a1 : Int32} {a2 : Int32} {a3 : Int32} {a4 : Int32} : ∀ G : ez_F, fx_up X 2 G 130 111 [.ref 10, .long a0, ez_fill, .int a1, .int a2, .int a3] [.int a4] (ev_hp I J R T) cz kz = bif decide (¬ a4 = (1 : Int32)) then G 130 119 [.ref 10, .long a0, ez_fill, .int a1, .int a2, .int a3] [] (ev_hp I J R T) cz kz else G 130 115 [.ref 10, .long a0, ez_fill, .int a1, .int a2, .int a3] [] (ev_hp I J R T) cz kz := by
  intro G
  rfl
set_option maxRecDepth 100000 in
theorem pl1_r14 {a0 : Int64} {a1 : Int32} {a2 : Int32} {a3 : Int32} : ∀ G : ez_F, fx_up X 4 G 130 119 [.ref 10, .long a0, ez_fill, .int a1, .int a2, .int a3] [] (ev_hp I J R T) cz kz = bif decide (a2 = (0 : Int32)) then G 130 148 [.ref 10, .long a0, ez_fill, .int a1, .int a2, .int (0 : Int32)] [] (ev_hp I J R T) cz kz else G 130 127 [.ref 10, .long a0, ez_fill, .int a1, .int a2, .int (0 : Int32)] [] (ev_hp I J R T) cz kz := by
  intro G
  rfl
set_option maxRecDepth 100000 in
theorem pl1_r15 {a0 : Int64} {a1 : Int32} {a2 : Int32} {a3 : Int32} : ∀ G : ez_F, fx_up X 2 G 130 148 [.ref 10, .long a0, ez_fill, .int a1, .int a2, .int a3] [] (ev_hp I J R T) cz kz = some (some (.int a1), (ev_hp I J R T), cz, kz) := by
  intro G
  rfl
set_option maxRecDepth 100000 in
theorem pl1_r16 {a0 : Int64} {a1 : Int32} {a2 : Int32} {a3 : Int32} : ∀ G : ez_F, fx_up X 2 G 130 127 [.ref 10, .long a0, ez_fill, .int a1, .int a2, .int a3] [] (ev_hp I J R T) cz kz = bif decide (a3 = (0 : Int32)) then G 130 148 [.ref 10, .long a0, ez_fill, .int a1, .int a2, .int a3] [] (ev_hp I J R T) cz kz else G 130 132 [.ref 10, .long a0, ez_fill, .int a1, .int a2, .int a3] [] (ev_hp I J R T) cz kz := by
  intro G
  rfl
set_option maxRecDepth 100000 in
theorem pl1_r17 {a0 : Int64} {a1 : Int32} {a2 : Int32} {a3 : Int32} : ∀ G : ez_F, fx_up X 5 G 130 115 [.ref 10, .long a0, ez_fill, .int a1, .int a2, .int a3] [] (ev_hp I J R T) cz kz = bif decide (a2 = (0 : Int32)) then G 130 148 [.ref 10, .long a0, ez_fill, .int a1, .int a2, .int (1 : Int32)] [] (ev_hp I J R T) cz kz else G 130 127 [.ref 10, .long a0, ez_fill, .int a1, .int a2, .int (1 : Int32)] [] (ev_hp I J R T) cz kz := by
  intro G
  rfl
set_option maxRecDepth 100000 in
theorem pl1_r18 {a0 : Int64} {a1 : Int32} {a2 : Int32} {a3 : Int32} : ∀ G : ez_F, fx_up X 4 G 130 132 [.ref 10, .long a0, ez_fill, .int a1, .int a2, .int a3] [] (ev_hp I J R T) cz kz = ev_C G 152 [.ref 1, .int (1 : Int32)] (ev_hp I J R T) fun r h1 c1 k1 => G 130 140 [.ref 10, .long a0, ez_fill, .int a1, .int a2, .int a3] (r.toList ++ []) h1 (cz + c1) (kz + k1) := by
  intro G
  rfl
set_option maxRecDepth 100000 in
theorem pl1_r19 {a0 : Int64} {a1 : Int32} {a2 : Int32} {a3 : Int32} {a4 : Int32} : ∀ G : ez_F, fx_up X 2 G 130 140 [.ref 10, .long a0, ez_fill, .int a1, .int a2, .int a3] [.int a4] (ev_hp I J R T) cz kz = bif decide (¬ a4 = (1 : Int32)) then G 130 148 [.ref 10, .long a0, ez_fill, .int a1, .int a2, .int a3] [] (ev_hp I J R T) cz kz else G 130 144 [.ref 10, .long a0, ez_fill, .int a1, .int a2, .int a3] [] (ev_hp I J R T) cz kz := by
  intro G
  rfl
set_option maxRecDepth 100000 in
theorem pl1_r20 {a0 : Int64} {a1 : Int32} {a2 : Int32} {a3 : Int32} : ∀ G : ez_F, fx_up X 3 G 130 144 [.ref 10, .long a0, ez_fill, .int a1, .int a2, .int a3] [] (ev_hp I J R T) cz kz = some (some (.int (2 : Int32)), (ev_hp I J R T), cz, kz) := by
  intro G
  rfl
theorem pf_107 {t : Int64} {n k s : Int32}
    (H : ((¬ (ev_bcJ t) = (1 : Int32) → ((k = (0 : Int32) → Q (some (.int n)) (ev_hp I J R T)) ∧ (¬ (k = (0 : Int32)) → Q (some (.int n)) (ev_hp I J R T)))) ∧ (¬ (¬ (ev_bcJ t) = (1 : Int32)) → ((k = (0 : Int32) → Q (some (.int n)) (ev_hp I J R T)) ∧ (¬ (k = (0 : Int32)) → ((¬ (ev_at 3 (I 2) (1 : Int32)) = (1 : Int32) → Q (some (.int n)) (ev_hp I J R T)) ∧ (¬ (¬ (ev_at 3 (I 2) (1 : Int32)) = (1 : Int32)) → Q (some (.int (2 : Int32))) (ev_hp I J R T)))))))) : pw (N + 1) X 130 107 [.ref 10, .long t, ez_fill, .int n, .int k, .int s] [] (ev_hp I J R T) Q := by
  refine pw_callp (by decide) (fun _ _ => pl1_r12) (pe_is (ec_bcJ _ _ _)) ?_
  refine pw_p (pw_if (by decide) (fun _ _ => pl1_r13) (fun w1 => ?_) (fun w1 => ?_))
  · have h1 := H.1 w1
    refine pw_p (pw_if (by decide) (fun _ _ => pl1_r14) (fun w2 => ?_) (fun w2 => ?_))
    · have h2 := h1.1 w2
      exact pw_p (pw_ret (by decide) (fun _ _ => pl1_r15) h2)
    · have h2 := h1.2 w2
      refine pw_p (pw_if (by decide) (fun _ _ => pl1_r16) (fun w3 => ?_) (fun w3 => ?_))
      rotate_left
      · exact absurd (by decide) w3
      exact pw_p (pw_ret (by decide) (fun _ _ => pl1_r15) h2)
  · have h1 := H.2 w1
    refine pw_p (pw_if (by decide) (fun _ _ => pl1_r17) (fun w2 => ?_) (fun w2 => ?_))
    · have h2 := h1.1 w2
      exact pw_p (pw_ret (by decide) (fun _ _ => pl1_r15) h2)
    · have h2 := h1.2 w2
      refine pw_p (pw_if (by decide) (fun _ _ => pl1_r16) (fun w3 => ?_) (fun w3 => ?_))
      · exact absurd w3 (by decide)
      refine pw_p (pw_callp (by decide) (fun _ _ => pl1_r18) (pe_rule2) ?_)
      refine pw_p (pw_if (by decide) (fun _ _ => pl1_r19) (fun w3 => ?_) (fun w3 => ?_))
      · have h3 := h2.1 w3
        exact pw_p (pw_ret (by decide) (fun _ _ => pl1_r15) h3)
      · have h3 := h2.2 w3
        exact pw_p (pw_ret (by decide) (fun _ _ => pl1_r20) h3)
set_option maxRecDepth 100000 in
theorem pl1_r21 {a0 : Int32} : ∀ G : ez_F, fx_up X 4 G 132 0 [.ref 10, .int a0] [] (ev_hp I J R T) cz kz = ev_C G 4 [.ref 11, .int a0] (ev_hp I J R T) fun r h1 c1 k1 => G 132 8 [.ref 10, .int a0] (r.toList ++ []) h1 (cz + c1) (kz + k1) := by
  intro G
  rfl
set_option maxRecDepth 100000 in
theorem pl1_r22 {a0 : Int32} {a1 : Int64} : ∀ G : ez_F, fx_up X 5 G 132 8 [.ref 10, .int a0] [.long a1] (ev_hp I J R T) cz kz = ev_C G 4 [.ref 12, .int a0] (ev_hp I J R T) fun r h1 c1 k1 => G 132 17 [.ref 10, .int a0, .long a1, ez_fill] (r.toList ++ []) h1 (cz + c1) (kz + k1) := by
  intro G
  rfl
set_option maxRecDepth 100000 in
theorem pl1_r23 {a0 : Int32} {a1 : Int64} {a2 : Int64} : ∀ G : ez_F, fx_up X 3 G 132 17 [.ref 10, .int a0, .long a1, ez_fill] [.long a2] (ev_hp I J R T) cz kz = bif decide ((lg_cmp a2 (0 : Int64)) = (0 : Int32)) then G 132 24 [.ref 10, .int a0, .long a1, ez_fill] [] (ev_hp I J R T) cz kz else G 132 22 [.ref 10, .int a0, .long a1, ez_fill] [] (ev_hp I J R T) cz kz := by
  intro G
  rfl
set_option maxRecDepth 100000 in
theorem pl1_r24 {a0 : Int32} {a1 : Int64} : ∀ G : ez_F, fx_up X 8 G 132 24 [.ref 10, .int a0, .long a1, ez_fill] [] (ev_hp I J R T) cz kz = G 132 40 [.ref 10, .int a0, .long a1, ez_fill] [.int (I 1 1), .long a1, .ref 1, .ref 1] (ev_hp I J R T) cz kz := by
  intro G
  rfl
set_option maxRecDepth 100000 in
theorem pl1_r25 {a0 : Int32} {a1 : Int64} {a2 : Int32} {a3 : Int64} : ∀ G : ez_F, fx_up X 1 G 132 40 [.ref 10, .int a0, .long a1, ez_fill] [.int a2, .long a3, .ref 1, .ref 1] (ev_hp I J R T) cz kz = ev_C G 147 [.ref 1, .long a3, .int a2] (ev_hp I J R T) fun r h1 c1 k1 => G 132 43 [.ref 10, .int a0, .long a1, ez_fill] (r.toList ++ [.ref 1]) h1 (cz + c1) (kz + k1) := by
  intro G
  rfl
set_option maxRecDepth 100000 in
theorem pl1_r26 {a0 : Int32} {a1 : Int64} {a2 : Int64} : ∀ G : ez_F, fx_up X 3 G 132 43 [.ref 10, .int a0, .long a1, ez_fill] [.long a2, .ref 1] (ev_hp I J R T) cz kz = G 132 50 [.ref 10, .int a0, .long a1, ez_fill] [.int (I 1 2), .long a2, .ref 1] (ev_hp I J R T) cz kz := by
  intro G
  rfl
set_option maxRecDepth 100000 in
theorem pl1_r27 {a0 : Int32} {a1 : Int64} {a2 : Int32} {a3 : Int64} : ∀ G : ez_F, fx_up X 1 G 132 50 [.ref 10, .int a0, .long a1, ez_fill] [.int a2, .long a3, .ref 1] (ev_hp I J R T) cz kz = ev_C G 148 [.ref 1, .long a3, .int a2] (ev_hp I J R T) fun r h1 c1 k1 => G 132 53 [.ref 10, .int a0, .long a1, ez_fill] (r.toList ++ []) h1 (cz + c1) (kz + k1) := by
  intro G
  rfl
set_option maxRecDepth 100000 in
theorem pl1_r28 {a0 : Int32} {a1 : Int64} {a2 : Int64} : ∀ G : ez_F, fx_up X 1 G 132 53 [.ref 10, .int a0, .long a1, ez_fill] [.long a2] (ev_hp I J R T) cz kz = some (some (.long a2), (ev_hp I J R T), cz, kz) := by
  intro G
  rfl
set_option maxRecDepth 100000 in
theorem pl1_r29 {a0 : Int32} {a1 : Int64} : ∀ G : ez_F, fx_up X 2 G 132 22 [.ref 10, .int a0, .long a1, ez_fill] [] (ev_hp I J R T) cz kz = some (some (.long a1), (ev_hp I J R T), cz, kz) := by
  intro G
  rfl
theorem pn_0 {s : Int32}
    (H : (((lg_cmp (ev_atJ 3 (J 12) s) (0 : Int64)) = (0 : Int32) → Q (some (.long (md (I 1 3) (I 1 5) (I 1 6) (J 1 7) (ma (I 1 3) (I 1 5) (J 1 8) (J 1 9) (ev_atJ 3 (J 11) s) (I 1 1)) (I 1 2)))) (ev_hp I J R T)) ∧ (¬ ((lg_cmp (ev_atJ 3 (J 12) s) (0 : Int64)) = (0 : Int32)) → Q (some (.long (ev_atJ 3 (J 11) s))) (ev_hp I J R T)))) : pw (N + 1) X 132 0 [.ref 10, .int s] [] (ev_hp I J R T) Q := by
  refine pw_callp (by decide) (fun _ _ => pl1_r21) (pe_atJ (show cx_Ds[11]? = some (1, 3, []) from rfl) (by decide)) ?_
  refine pw_p (pw_callp (by decide) (fun _ _ => pl1_r22) (pe_atJ (show cx_Ds[12]? = some (1, 3, []) from rfl) (by decide)) ?_)
  refine pw_p (pw_if (by decide) (fun _ _ => pl1_r23) (fun w1 => ?_) (fun w1 => ?_))
  · have h1 := H.1 w1
    refine pw_p (pw_seg (by decide) (fun _ _ => pl1_r24) ?_)
    refine pw_p (pw_callp (by decide) (fun _ _ => pl1_r25) (pe_across) ?_)
    refine pw_p (pw_seg (by decide) (fun _ _ => pl1_r26) ?_)
    refine pw_p (pw_callp (by decide) (fun _ _ => pl1_r27) (pe_down) ?_)
    exact pw_p (pw_ret (by decide) (fun _ _ => pl1_r28) h1)
  · have h1 := H.2 w1
    exact pw_p (pw_ret (by decide) (fun _ _ => pl1_r29) h1)
set_option maxRecDepth 100000 in
theorem pl1_r30  : ∀ G : ez_F, fx_up X 3 G 131 0 [.ref 10] [] (ev_hp I J R T) cz kz = ev_C G 132 [.ref 10, .int (0 : Int32)] (ev_hp I J R T) fun r h1 c1 k1 => G 131 5 [.ref 10] (r.toList ++ []) h1 (cz + c1) (kz + k1) := by
  intro G
  rfl
theorem pm_0 
    (H : (∃ Q1 : pw_Q, pe N X 132 [.ref 10, .int (0 : Int32)] (ev_hp I J R T) Q1 ∧ ∀ (r : Option Value) (h1 : ez_H), Q1 r h1 → pw N X 131 5 [.ref 10] (r.toList ++ []) h1 Q)) : pw (N + 1) X 131 0 [.ref 10] [] (ev_hp I J R T) Q := by
  obtain ⟨Q1, hc, hk⟩ := H
  exact pw_call (by decide) (fun _ _ => pl1_r30) hc hk
set_option maxRecDepth 100000 in
theorem pl1_r31 {a0 : Int64} : ∀ G : ez_F, fx_up X 4 G 131 5 [.ref 10] [.long a0] (ev_hp I J R T) cz kz = ev_C G 132 [.ref 10, .int (1 : Int32)] (ev_hp I J R T) fun r h1 c1 k1 => G 131 11 [.ref 10, .long a0, ez_fill] (r.toList ++ []) h1 (cz + c1) (kz + k1) := by
  intro G
  rfl
theorem pm_5 {a : Int64}
    (H : (∃ Q1 : pw_Q, pe N X 132 [.ref 10, .int (1 : Int32)] (ev_hp I J R T) Q1 ∧ ∀ (r : Option Value) (h1 : ez_H), Q1 r h1 → pw N X 131 11 [.ref 10, .long a, ez_fill] (r.toList ++ []) h1 Q)) : pw (N + 1) X 131 5 [.ref 10] [.long a] (ev_hp I J R T) Q := by
  obtain ⟨Q1, hc, hk⟩ := H
  exact pw_call (by decide) (fun _ _ => pl1_r31) hc hk
set_option maxRecDepth 100000 in
theorem pl1_r32 {a0 : Int64} {a1 : Int64} : ∀ G : ez_F, fx_up X 4 G 131 11 [.ref 10, .long a0, ez_fill] [.long a1] (ev_hp I J R T) cz kz = ev_C G 132 [.ref 10, .int (2 : Int32)] (ev_hp I J R T) fun r h1 c1 k1 => G 131 17 [.ref 10, .long a0, ez_fill, .long a1, ez_fill] (r.toList ++ []) h1 (cz + c1) (kz + k1) := by
  intro G
  rfl
theorem pm_11 {a b : Int64}
    (H : (∃ Q1 : pw_Q, pe N X 132 [.ref 10, .int (2 : Int32)] (ev_hp I J R T) Q1 ∧ ∀ (r : Option Value) (h1 : ez_H), Q1 r h1 → pw N X 131 17 [.ref 10, .long a, ez_fill, .long b, ez_fill] (r.toList ++ []) h1 Q)) : pw (N + 1) X 131 11 [.ref 10, .long a, ez_fill] [.long b] (ev_hp I J R T) Q := by
  obtain ⟨Q1, hc, hk⟩ := H
  exact pw_call (by decide) (fun _ _ => pl1_r32) hc hk
set_option maxRecDepth 100000 in
theorem pl1_r33 {a0 : Int64} {a1 : Int64} {a2 : Int64} : ∀ G : ez_F, fx_up X 12 G 131 17 [.ref 10, .long a0, ez_fill, .long a1, ez_fill] [.long a2] (ev_hp I J R T) cz kz = G 131 32 [.ref 10, .long a0, ez_fill, .long a1, ez_fill, .long a2, ez_fill] [.long (((a0 &&& a1) ||| (a0 &&& a2)) ||| (a1 &&& a2))] (ev_hp I J R T) cz kz := by
  intro G
  rfl
set_option maxRecDepth 100000 in
theorem pl1_r34 {a0 : Int64} {a1 : Int64} {a2 : Int64} {a3 : Int64} : ∀ G : ez_F, fx_up X 3 G 131 32 [.ref 10, .long a0, ez_fill, .long a1, ez_fill, .long a2, ez_fill] [.long a3] (ev_hp I J R T) cz kz = bif decide (¬ (lg_cmp a3 (0 : Int64)) = (0 : Int32)) then G 131 65 [.ref 10, .long a0, ez_fill, .long a1, ez_fill, .long a2, ez_fill] [] (ev_hp I J R T) cz kz else G 131 37 [.ref 10, .long a0, ez_fill, .long a1, ez_fill, .long a2, ez_fill] [] (ev_hp I J R T) cz kz := by
  intro G
  rfl
set_option maxRecDepth 100000 in
theorem pl1_r35 {a0 : Int64} {a1 : Int64} {a2 : Int64} : ∀ G : ez_F, fx_up X 1 G 131 65 [.ref 10, .long a0, ez_fill, .long a1, ez_fill, .long a2, ez_fill] [] (ev_hp I J R T) cz kz = some (none, (ev_hp I J R T), cz, kz) := by
  intro G
  rfl
set_option maxRecDepth 100000 in
theorem pl1_r36 {a0 : Int64} {a1 : Int64} {a2 : Int64} : ∀ G : ez_F, fx_up X 5 G 131 37 [.ref 10, .long a0, ez_fill, .long a1, ez_fill, .long a2, ez_fill] [] (ev_hp I J R T) cz kz = ev_C G 39 [.ref 11, .int (0 : Int32), .long a0] (ev_hp I J R T) fun r h1 c1 k1 => G 131 46 [.ref 10, .long a0, ez_fill, .long a1, ez_fill, .long a2, ez_fill] (r.toList ++ []) h1 (cz + c1) (kz + k1) := by
  intro G
  rfl
set_option maxRecDepth 100000 in
theorem pl1_r37 {a0 : Int64} {a1 : Int64} {a2 : Int64} : ∀ G : ez_F, fx_up X 5 G 131 46 [.ref 10, .long a0, ez_fill, .long a1, ez_fill, .long a2, ez_fill] [] (ev_hp I J R T) cz kz = ev_C G 39 [.ref 11, .int (1 : Int32), .long a1] (ev_hp I J R T) fun r h1 c1 k1 => G 131 55 [.ref 10, .long a0, ez_fill, .long a1, ez_fill, .long a2, ez_fill] (r.toList ++ []) h1 (cz + c1) (kz + k1) := by
  intro G
  rfl
set_option maxRecDepth 100000 in
theorem pl1_r38 {a0 : Int64} {a1 : Int64} {a2 : Int64} : ∀ G : ez_F, fx_up X 5 G 131 55 [.ref 10, .long a0, ez_fill, .long a1, ez_fill, .long a2, ez_fill] [] (ev_hp I J R T) cz kz = ev_C G 39 [.ref 11, .int (2 : Int32), .long a2] (ev_hp I J R T) fun r h1 c1 k1 => G 131 65 [.ref 10, .long a0, ez_fill, .long a1, ez_fill, .long a2, ez_fill] (r.toList ++ []) h1 (cz + c1) (kz + k1) := by
  intro G
  rfl
theorem pm_17 {a b c : Int64}
    (H : ((¬ (lg_cmp (((a &&& b) ||| (a &&& c)) ||| (b &&& c)) (0 : Int64)) = (0 : Int32) → Q none (ev_hp I J R T)) ∧ (¬ (¬ (lg_cmp (((a &&& b) ||| (a &&& c)) ||| (b &&& c)) (0 : Int64)) = (0 : Int32)) → Q none (ev_hp I (ev_sJ (ev_sJ (ev_sJ J 11 (ev_putJ 3 (J 11) (0 : Int32) a)) 11 (ev_putJ 3 (ev_putJ 3 (J 11) (0 : Int32) a) (1 : Int32) b)) 11 (ev_putJ 3 (ev_putJ 3 (ev_putJ 3 (J 11) (0 : Int32) a) (1 : Int32) b) (2 : Int32) c)) R T)))) : pw (N + 1) X 131 17 [.ref 10, .long a, ez_fill, .long b, ez_fill] [.long c] (ev_hp I J R T) Q := by
  refine pw_seg (by decide) (fun _ _ => pl1_r33) ?_
  refine pw_p (pw_if (by decide) (fun _ _ => pl1_r34) (fun w1 => ?_) (fun w1 => ?_))
  · have h1 := H.1 w1
    exact pw_p (pw_ret (by decide) (fun _ _ => pl1_r35) h1)
  · have h1 := H.2 w1
    refine pw_p (pw_callp (by decide) (fun _ _ => pl1_r36) (pe_putJ (show cx_Ds[11]? = some (1, 3, []) from rfl) (by decide)) ?_)
    refine pw_p (pw_callp (by decide) (fun _ _ => pl1_r37) (pe_putJ (show cx_Ds[11]? = some (1, 3, []) from rfl) (by decide)) ?_)
    refine pw_p (pw_callp (by decide) (fun _ _ => pl1_r38) (pe_putJ (show cx_Ds[11]? = some (1, 3, []) from rfl) (by decide)) ?_)
    exact pw_p (pw_ret (by decide) (fun _ _ => pl1_r35) h1)
set_option maxRecDepth 100000 in
theorem pl1_r39 {a0 : Int32} {a1 : Int32} : ∀ G : ez_F, fx_up X 4 G 135 0 [.ref 10, .int a0, .int a1] [] (ev_hp I J R T) cz kz = ev_C G 138 [.ref 6, .int a0] (ev_hp I J R T) fun r h1 c1 k1 => G 135 8 [.ref 10, .int a0, .int a1] (r.toList ++ []) h1 (cz + c1) (kz + k1) := by
  intro G
  rfl
theorem pt_0 {x y : Int32}
    (H : (∃ Q1 : pw_Q, pe N X 138 [.ref 6, .int x] (ev_hp I J R T) Q1 ∧ ∀ (r : Option Value) (h1 : ez_H), Q1 r h1 → pw N X 135 8 [.ref 10, .int x, .int y] (r.toList ++ []) h1 Q)) : pw (N + 1) X 135 0 [.ref 10, .int x, .int y] [] (ev_hp I J R T) Q := by
  obtain ⟨Q1, hc, hk⟩ := H
  exact pw_call (by decide) (fun _ _ => pl1_r39) hc hk
set_option maxRecDepth 100000 in
theorem pl1_r40 {a0 : Int32} {a1 : Int32} {a2 : Int32} : ∀ G : ez_F, fx_up X 3 G 135 8 [.ref 10, .int a0, .int a1] [.int a2] (ev_hp I J R T) cz kz = G 135 12 [.ref 10, .int a0, .int a1, .int a2, .int (0 : Int32)] [] (ev_hp I J R T) cz kz := by
  intro G
  rfl
theorem pt_8 {x y v : Int32}
    (H : pw N X 135 12 [.ref 10, .int x, .int y, .int v, .int (0 : Int32)] [] (ev_hp I J R T) Q) : pw (N + 1) X 135 8 [.ref 10, .int x, .int y] [.int v] (ev_hp I J R T) Q := by
  refine pw_seg (by decide) (fun _ _ => pl1_r40) ?_
  exact H
set_option maxRecDepth 100000 in
theorem pl1_r41 {a0 : Int32} {a1 : Int32} {a2 : Int32} {a3 : Int32} : ∀ G : ez_F, fx_up X 3 G 135 12 [.ref 10, .int a0, .int a1, .int a2, .int a3] [] (ev_hp I J R T) cz kz = bif decide ((3 : Int32) ≤ a3) then G 135 53 [.ref 10, .int a0, .int a1, .int a2, .int a3] [] (ev_hp I J R T) cz kz else G 135 18 [.ref 10, .int a0, .int a1, .int a2, .int a3] [] (ev_hp I J R T) cz kz := by
  intro G
  rfl
set_option maxRecDepth 100000 in
theorem pl1_r42 {a0 : Int32} {a1 : Int32} {a2 : Int32} {a3 : Int32} : ∀ G : ez_F, fx_up X 8 G 135 18 [.ref 10, .int a0, .int a1, .int a2, .int a3] [] (ev_hp I J R T) cz kz = ev_C G 87 [.ref 3, .int a2, .int a3] (ev_hp I J R T) fun r h1 c1 k1 => G 135 34 [.ref 10, .int a0, .int a1, .int a2, .int a3] (r.toList ++ [.int a3, .ref 11]) h1 (cz + c1) (kz + k1) := by
  intro G
  rfl
theorem pt_12 {x y v s : Int32}
    (H : (((3 : Int32) ≤ s → pw N X 135 53 [.ref 10, .int x, .int y, .int v, .int s] [] (ev_hp I J R T) Q) ∧ (¬ ((3 : Int32) ≤ s) → (∃ Q1 : pw_Q, pe N X 87 [.ref 3, .int v, .int s] (ev_hp I J R T) Q1 ∧ ∀ (r : Option Value) (h1 : ez_H), Q1 r h1 → pw N X 135 34 [.ref 10, .int x, .int y, .int v, .int s] (r.toList ++ [.int s, .ref 11]) h1 Q)))) : pw (N + 1) X 135 12 [.ref 10, .int x, .int y, .int v, .int s] [] (ev_hp I J R T) Q := by
  refine pw_if (by decide) (fun _ _ => pl1_r41) (fun w1 => ?_) (fun w1 => ?_)
  · have h1 := H.1 w1
    exact h1
  · have h1 := H.2 w1
    obtain ⟨Q1, hc, hk⟩ := h1
    exact pw_p (pw_call (by decide) (fun _ _ => pl1_r42) hc hk)
set_option maxRecDepth 100000 in
theorem pl1_r43 {a0 : Int32} {a1 : Int32} {a2 : Int32} {a3 : Int32} {a4 : Int64} {a5 : Int32} : ∀ G : ez_F, fx_up X 1 G 135 34 [.ref 10, .int a0, .int a1, .int a2, .int a3] [.long a4, .int a5, .ref 11] (ev_hp I J R T) cz kz = ev_C G 39 [.ref 11, .int a5, .long a4] (ev_hp I J R T) fun r h1 c1 k1 => G 135 37 [.ref 10, .int a0, .int a1, .int a2, .int a3] (r.toList ++ []) h1 (cz + c1) (kz + k1) := by
  intro G
  rfl
set_option maxRecDepth 100000 in
theorem pl1_r44 {a0 : Int32} {a1 : Int32} {a2 : Int32} {a3 : Int32} : ∀ G : ez_F, fx_up X 5 G 135 37 [.ref 10, .int a0, .int a1, .int a2, .int a3] [] (ev_hp I J R T) cz kz = ev_C G 39 [.ref 12, .int a3, .long (0 : Int64)] (ev_hp I J R T) fun r h1 c1 k1 => G 135 47 [.ref 10, .int a0, .int a1, .int a2, .int a3] (r.toList ++ []) h1 (cz + c1) (kz + k1) := by
  intro G
  rfl
set_option maxRecDepth 100000 in
theorem pl1_r45 {a0 : Int32} {a1 : Int32} {a2 : Int32} {a3 : Int32} : ∀ G : ez_F, fx_up X 2 G 135 47 [.ref 10, .int a0, .int a1, .int a2, .int a3] [] (ev_hp I J R T) cz kz = G 135 12 [.ref 10, .int a0, .int a1, .int a2, .int (a3 + (1 : Int32))] [] (ev_hp I J R T) cz kz := by
  intro G
  rfl
theorem pt_34 {x y v s : Int32} {u : Int64}
    (H : pw N X 135 12 [.ref 10, .int x, .int y, .int v, .int (s + (1 : Int32))] [] (ev_hp I (ev_sJ (ev_sJ J 11 (ev_putJ 3 (J 11) s u)) 12 (ev_putJ 3 (J 12) s (0 : Int64))) R T) Q) : pw (N + 1) X 135 34 [.ref 10, .int x, .int y, .int v, .int s] [.long u, .int s, .ref 11] (ev_hp I J R T) Q := by
  refine pw_callp (by decide) (fun _ _ => pl1_r43) (pe_putJ (show cx_Ds[11]? = some (1, 3, []) from rfl) (by decide)) ?_
  refine pw_p (pw_callp (by decide) (fun _ _ => pl1_r44) (pe_putJ (show cx_Ds[12]? = some (1, 3, []) from rfl) (by decide)) ?_)
  refine pw_p (pw_seg (by decide) (fun _ _ => pl1_r45) ?_)
  exact H
set_option maxRecDepth 100000 in
theorem pl1_r46 {a0 : Int32} {a1 : Int32} {a2 : Int32} {a3 : Int32} : ∀ G : ez_F, fx_up X 3 G 135 53 [.ref 10, .int a0, .int a1, .int a2, .int a3] [] (ev_hp I J R T) cz kz = G 135 60 [.ref 10, .int a0, .int a1, .int a2, .int a3] [.int (I 1 1)] (ev_hp I J R T) cz kz := by
  intro G
  rfl
set_option maxRecDepth 100000 in
theorem pl1_r47 {a0 : Int32} {a1 : Int32} {a2 : Int32} {a3 : Int32} {a4 : Int32} : ∀ G : ez_F, fx_up X 1 G 135 60 [.ref 10, .int a0, .int a1, .int a2, .int a3] [.int a4] (ev_hp I J R T) cz kz = bif decide (¬ a4 = (0 : Int32)) then G 135 73 [.ref 10, .int a0, .int a1, .int a2, .int a3] [] (ev_hp I J R T) cz kz else G 135 63 [.ref 10, .int a0, .int a1, .int a2, .int a3] [] (ev_hp I J R T) cz kz := by
  intro G
  rfl
set_option maxRecDepth 100000 in
theorem pl1_r48 {a0 : Int32} {a1 : Int32} {a2 : Int32} {a3 : Int32} : ∀ G : ez_F, fx_up X 7 G 135 73 [.ref 10, .int a0, .int a1, .int a2, .int a3] [] (ev_hp I J R T) cz kz = G 135 86 [.ref 10, .int a0, .int a1, .int a2, .int (1 : Int32), .long (0 : Int64), ez_fill, .int (0 : Int32)] [] (ev_hp I J R T) cz kz := by
  intro G
  rfl
set_option maxRecDepth 100000 in
theorem pl1_r49 {a0 : Int32} {a1 : Int32} {a2 : Int32} {a3 : Int32} : ∀ G : ez_F, fx_up X 3 G 135 63 [.ref 10, .int a0, .int a1, .int a2, .int a3] [] (ev_hp I J R T) cz kz = G 135 70 [.ref 10, .int a0, .int a1, .int a2, .int a3] [.int (I 1 2)] (ev_hp I J R T) cz kz := by
  intro G
  rfl
set_option maxRecDepth 100000 in
theorem pl1_r50 {a0 : Int32} {a1 : Int32} {a2 : Int32} {a3 : Int32} {a4 : Int32} : ∀ G : ez_F, fx_up X 1 G 135 70 [.ref 10, .int a0, .int a1, .int a2, .int a3] [.int a4] (ev_hp I J R T) cz kz = bif decide (a4 = (0 : Int32)) then G 135 77 [.ref 10, .int a0, .int a1, .int a2, .int a3] [] (ev_hp I J R T) cz kz else G 135 73 [.ref 10, .int a0, .int a1, .int a2, .int a3] [] (ev_hp I J R T) cz kz := by
  intro G
  rfl
set_option maxRecDepth 100000 in
theorem pl1_r51 {a0 : Int32} {a1 : Int32} {a2 : Int32} {a3 : Int32} : ∀ G : ez_F, fx_up X 6 G 135 77 [.ref 10, .int a0, .int a1, .int a2, .int a3] [] (ev_hp I J R T) cz kz = G 135 86 [.ref 10, .int a0, .int a1, .int a2, .int (0 : Int32), .long (0 : Int64), ez_fill, .int (0 : Int32)] [] (ev_hp I J R T) cz kz := by
  intro G
  rfl
theorem pt_53 {x y v s : Int32}
    (H : ((¬ (I 1 1) = (0 : Int32) → pw N X 135 86 [.ref 10, .int x, .int y, .int v, .int (1 : Int32), .long (0 : Int64), ez_fill, .int (0 : Int32)] [] (ev_hp I J R T) Q) ∧ (¬ (¬ (I 1 1) = (0 : Int32)) → (((I 1 2) = (0 : Int32) → pw N X 135 86 [.ref 10, .int x, .int y, .int v, .int (0 : Int32), .long (0 : Int64), ez_fill, .int (0 : Int32)] [] (ev_hp I J R T) Q) ∧ (¬ ((I 1 2) = (0 : Int32)) → pw N X 135 86 [.ref 10, .int x, .int y, .int v, .int (1 : Int32), .long (0 : Int64), ez_fill, .int (0 : Int32)] [] (ev_hp I J R T) Q))))) : pw (N + 1) X 135 53 [.ref 10, .int x, .int y, .int v, .int s] [] (ev_hp I J R T) Q := by
  refine pw_seg (by decide) (fun _ _ => pl1_r46) ?_
  refine pw_p (pw_if (by decide) (fun _ _ => pl1_r47) (fun w1 => ?_) (fun w1 => ?_))
  · have h1 := H.1 w1
    refine pw_p (pw_seg (by decide) (fun _ _ => pl1_r48) ?_)
    exact h1
  · have h1 := H.2 w1
    refine pw_p (pw_seg (by decide) (fun _ _ => pl1_r49) ?_)
    refine pw_p (pw_if (by decide) (fun _ _ => pl1_r50) (fun w2 => ?_) (fun w2 => ?_))
    · have h2 := h1.1 w2
      refine pw_p (pw_seg (by decide) (fun _ _ => pl1_r51) ?_)
      exact h2
    · have h2 := h1.2 w2
      refine pw_p (pw_seg (by decide) (fun _ _ => pl1_r48) ?_)
      exact h2
set_option maxRecDepth 100000 in
theorem pl1_r52 {a0 : Int32} {a1 : Int32} {a2 : Int32} {a3 : Int32} {a4 : Int64} {a5 : Int32} : ∀ G : ez_F, fx_up X 3 G 135 86 [.ref 10, .int a0, .int a1, .int a2, .int a3, .long a4, ez_fill, .int a5] [] (ev_hp I J R T) cz kz = bif decide (a1 ≤ a5) then G 135 142 [.ref 10, .int a0, .int a1, .int a2, .int a3, .long a4, ez_fill, .int a5] [] (ev_hp I J R T) cz kz else G 135 92 [.ref 10, .int a0, .int a1, .int a2, .int a3, .long a4, ez_fill, .int a5] [] (ev_hp I J R T) cz kz := by
  intro G
  rfl
set_option maxRecDepth 100000 in
theorem pl1_r53 {a0 : Int32} {a1 : Int32} {a2 : Int32} {a3 : Int32} {a4 : Int64} {a5 : Int32} : ∀ G : ez_F, fx_up X 2 G 135 142 [.ref 10, .int a0, .int a1, .int a2, .int a3, .long a4, ez_fill, .int a5] [] (ev_hp I J R T) cz kz = some (some (.long a4), (ev_hp I J R T), cz, kz) := by
  intro G
  rfl
set_option maxRecDepth 100000 in
theorem pl1_r54 {a0 : Int32} {a1 : Int32} {a2 : Int32} {a3 : Int32} {a4 : Int64} {a5 : Int32} : ∀ G : ez_F, fx_up X 5 G 135 92 [.ref 10, .int a0, .int a1, .int a2, .int a3, .long a4, ez_fill, .int a5] [] (ev_hp I J R T) cz kz = ev_C G 124 [.ref 8, .int a5] (ev_hp I J R T) fun r h1 c1 k1 => G 135 102 [.ref 10, .int a0, .int a1, .int a2, .int a3, .long a4, ez_fill, .int a5] (r.toList ++ [.ref 10]) h1 (cz + c1) (kz + k1) := by
  intro G
  rfl
set_option maxRecDepth 100000 in
theorem pl1_r55 {a0 : Int32} {a1 : Int32} {a2 : Int32} {a3 : Int32} {a4 : Int64} {a5 : Int32} {a6 : Int64} : ∀ G : ez_F, fx_up X 1 G 135 102 [.ref 10, .int a0, .int a1, .int a2, .int a3, .long a4, ez_fill, .int a5] [.long a6, .ref 10] (ev_hp I J R T) cz kz = ev_C G 130 [.ref 10, .long a6] (ev_hp I J R T) fun r h1 c1 k1 => G 135 105 [.ref 10, .int a0, .int a1, .int a2, .int a3, .long a4, ez_fill, .int a5] (r.toList ++ []) h1 (cz + c1) (kz + k1) := by
  intro G
  rfl
theorem pt_86 {x y v d c : Int32} {z : Int64}
    (H : ((y ≤ c → Q (some (.long z)) (ev_hp I J R T)) ∧ (¬ (y ≤ c) → (∃ Q1 : pw_Q, pe N X 130 [.ref 10, .long (ev_atJ 30 (J 9) c)] (ev_hp I J R T) Q1 ∧ ∀ (r : Option Value) (h1 : ez_H), Q1 r h1 → pw N X 135 105 [.ref 10, .int x, .int y, .int v, .int d, .long z, ez_fill, .int c] (r.toList ++ []) h1 Q)))) : pw (N + 1) X 135 86 [.ref 10, .int x, .int y, .int v, .int d, .long z, ez_fill, .int c] [] (ev_hp I J R T) Q := by
  refine pw_if (by decide) (fun _ _ => pl1_r52) (fun w1 => ?_) (fun w1 => ?_)
  · have h1 := H.1 w1
    exact pw_p (pw_ret (by decide) (fun _ _ => pl1_r53) h1)
  · have h1 := H.2 w1
    refine pw_p (pw_callp (by decide) (fun _ _ => pl1_r54) (pe_target) ?_)
    obtain ⟨Q1, hc, hk⟩ := h1
    exact pw_p (pw_call (by decide) (fun _ _ => pl1_r55) hc hk)
set_option maxRecDepth 100000 in
theorem pl1_r56 {a0 : Int32} {a1 : Int32} {a2 : Int32} {a3 : Int32} {a4 : Int64} {a5 : Int32} {a6 : Int32} : ∀ G : ez_F, fx_up X 12 G 135 105 [.ref 10, .int a0, .int a1, .int a2, .int a3, .long a4, ez_fill, .int a5] [.int a6] (ev_hp I J R T) cz kz = G 135 123 [.ref 10, .int a0, .int a1, .int a2, .int a3, .long (a4 ||| (a6.toInt64 <<< (((2 : Int32) * a5).toInt64 &&& (63 : Int64)))), ez_fill, .int a5, .long a6.toInt64, ez_fill] [.long (0 : Int64), .long a6.toInt64] (ev_hp I J R T) cz kz := by
  intro G
  rfl
set_option maxRecDepth 100000 in
theorem pl1_r57 {a0 : Int32} {a1 : Int32} {a2 : Int32} {a3 : Int32} {a4 : Int64} {a5 : Int32} {a6 : Int64} {a7 : Int64} {a8 : Int64} : ∀ G : ez_F, fx_up X 2 G 135 123 [.ref 10, .int a0, .int a1, .int a2, .int a3, .long a4, ez_fill, .int a5, .long a6, ez_fill] [.long a7, .long a8] (ev_hp I J R T) cz kz = bif decide (¬ (lg_cmp a8 a7) = (0 : Int32)) then G 135 136 [.ref 10, .int a0, .int a1, .int a2, .int a3, .long a4, ez_fill, .int a5, .long a6, ez_fill] [] (ev_hp I J R T) cz kz else G 135 127 [.ref 10, .int a0, .int a1, .int a2, .int a3, .long a4, ez_fill, .int a5, .long a6, ez_fill] [] (ev_hp I J R T) cz kz := by
  intro G
  rfl
set_option maxRecDepth 100000 in
theorem pl1_r58 {a0 : Int32} {a1 : Int32} {a2 : Int32} {a3 : Int32} {a4 : Int64} {a5 : Int32} {a6 : Int64} : ∀ G : ez_F, fx_up X 2 G 135 136 [.ref 10, .int a0, .int a1, .int a2, .int a3, .long a4, ez_fill, .int a5, .long a6, ez_fill] [] (ev_hp I J R T) cz kz = G 135 86 [.ref 10, .int a0, .int a1, .int a2, .int a3, .long a4, ez_fill, .int (a5 + (1 : Int32)), .long a6, ez_fill] [] (ev_hp I J R T) cz kz := by
  intro G
  rfl
set_option maxRecDepth 100000 in
theorem pl1_r59 {a0 : Int32} {a1 : Int32} {a2 : Int32} {a3 : Int32} {a4 : Int64} {a5 : Int32} {a6 : Int64} : ∀ G : ez_F, fx_up X 2 G 135 127 [.ref 10, .int a0, .int a1, .int a2, .int a3, .long a4, ez_fill, .int a5, .long a6, ez_fill] [] (ev_hp I J R T) cz kz = bif decide (a3 = (0 : Int32)) then G 135 136 [.ref 10, .int a0, .int a1, .int a2, .int a3, .long a4, ez_fill, .int a5, .long a6, ez_fill] [] (ev_hp I J R T) cz kz else G 135 132 [.ref 10, .int a0, .int a1, .int a2, .int a3, .long a4, ez_fill, .int a5, .long a6, ez_fill] [] (ev_hp I J R T) cz kz := by
  intro G
  rfl
set_option maxRecDepth 100000 in
theorem pl1_r60 {a0 : Int32} {a1 : Int32} {a2 : Int32} {a3 : Int32} {a4 : Int64} {a5 : Int32} {a6 : Int64} : ∀ G : ez_F, fx_up X 2 G 135 132 [.ref 10, .int a0, .int a1, .int a2, .int a3, .long a4, ez_fill, .int a5, .long a6, ez_fill] [] (ev_hp I J R T) cz kz = ev_C G 131 [.ref 10] (ev_hp I J R T) fun r h1 c1 k1 => G 135 136 [.ref 10, .int a0, .int a1, .int a2, .int a3, .long a4, ez_fill, .int a5, .long a6, ez_fill] (r.toList ++ []) h1 (cz + c1) (kz + k1) := by
  intro G
  rfl
theorem pt_105 {x y v d c a : Int32} {z : Int64}
    (H : ((¬ (lg_cmp a.toInt64 (0 : Int64)) = (0 : Int32) → pw N X 135 86 [.ref 10, .int x, .int y, .int v, .int d, .long (z ||| (a.toInt64 <<< (((2 : Int32) * c).toInt64 &&& (63 : Int64)))), ez_fill, .int (c + (1 : Int32))] [] (ev_hp I J R T) Q) ∧ (¬ (¬ (lg_cmp a.toInt64 (0 : Int64)) = (0 : Int32)) → ((d = (0 : Int32) → pw N X 135 86 [.ref 10, .int x, .int y, .int v, .int d, .long (z ||| (a.toInt64 <<< (((2 : Int32) * c).toInt64 &&& (63 : Int64)))), ez_fill, .int (c + (1 : Int32))] [] (ev_hp I J R T) Q) ∧ (¬ (d = (0 : Int32)) → (∃ Q1 : pw_Q, pe N X 131 [.ref 10] (ev_hp I J R T) Q1 ∧ ∀ (r : Option Value) (h1 : ez_H), Q1 r h1 → pw N X 135 136 [.ref 10, .int x, .int y, .int v, .int d, .long (z ||| (a.toInt64 <<< (((2 : Int32) * c).toInt64 &&& (63 : Int64)))), ez_fill, .int c, .long a.toInt64, ez_fill] (r.toList ++ []) h1 Q)))))) : pw (N + 1) X 135 105 [.ref 10, .int x, .int y, .int v, .int d, .long z, ez_fill, .int c] [.int a] (ev_hp I J R T) Q := by
  refine pw_seg (by decide) (fun _ _ => pl1_r56) ?_
  refine pw_p (pw_if (by decide) (fun _ _ => pl1_r57) (fun w1 => ?_) (fun w1 => ?_))
  · have h1 := H.1 w1
    refine pw_p (pw_seg (by decide) (fun _ _ => pl1_r58) ?_)
    refine pw_cutl (by rfl) ?_
    exact h1
  · have h1 := H.2 w1
    refine pw_p (pw_if (by decide) (fun _ _ => pl1_r59) (fun w2 => ?_) (fun w2 => ?_))
    · have h2 := h1.1 w2
      refine pw_p (pw_seg (by decide) (fun _ _ => pl1_r58) ?_)
      refine pw_cutl (by rfl) ?_
      exact h2
    · have h2 := h1.2 w2
      obtain ⟨Q1, hc, hk⟩ := h2
      exact pw_p (pw_call (by decide) (fun _ _ => pl1_r60) hc hk)
theorem pt_136 {x y v d c : Int32} {z w : Int64}
    (H : pw N X 135 86 [.ref 10, .int x, .int y, .int v, .int d, .long z, ez_fill, .int (c + (1 : Int32))] [] (ev_hp I J R T) Q) : pw (N + 1) X 135 136 [.ref 10, .int x, .int y, .int v, .int d, .long z, ez_fill, .int c, .long w, ez_fill] [] (ev_hp I J R T) Q := by
  refine pw_seg (by decide) (fun _ _ => pl1_r58) ?_
  refine pw_cutl (by rfl) ?_
  exact H
end
theorem sJ2 (J : Nat → Nat → Int64) (a : Nat) (f g : Nat → Int64) : ev_sJ (ev_sJ J a f) a g = ev_sJ J a g := by
  funext b
  by_cases h : b = a
  · subst h
    rw [cx_sJ_s, cx_sJ_s]
  · rw [cx_sJ_n _ _ h, cx_sJ_n _ _ h, cx_sJ_n _ _ h]
theorem sJ_self (J : Nat → Nat → Int64) (a : Nat) : ev_sJ J a (J a) = J := by
  funext b
  by_cases h : b = a
  · subst h
    rw [cx_sJ_s]
  · rw [cx_sJ_n _ _ h]
theorem sJ_sw (J : Nat → Nat → Int64) {a b : Nat} (f g : Nat → Int64) (h : a ≠ b) : ev_sJ (ev_sJ J a f) b g = ev_sJ (ev_sJ J b g) a f := by
  funext c
  by_cases h1 : c = b
  · subst h1
    rw [cx_sJ_s, cx_sJ_n _ _ (fun e => h e.symm), cx_sJ_s]
  · rw [cx_sJ_n _ _ h1]
    by_cases h2 : c = a
    · subst h2
      rw [cx_sJ_s, cx_sJ_s]
    · rw [cx_sJ_n _ _ h2, cx_sJ_n _ _ h2, cx_sJ_n _ _ h1]
/-! a call upon ships that lie so and were hit so -/
def pl_h (P H : Nat → Int64) (t : Int64) (s : Nat) : Int64 := H s ||| (P s &&& t)
def pl_k (P H : Nat → Int64) (t : Int64) (s : Nat) : Bool := decide (¬ pl_h P H t s = H s ∧ pl_h P H t s = P s)
def pl_n (P : Nat → Int64) (t : Int64) : Nat → Nat
  | 0 => 0
  | s + 1 => pl_n P t s + pcJ (P s &&& t)
def pl_u (P H : Nat → Int64) (t : Int64) : Nat → Bool
  | 0 => false
  | s + 1 => pl_u P H t s || pl_k P H t s
def pl_a (sr : Int32) (P H : Nat → Int64) (t : Int64) : Nat := bif pl_u P H t 3 && (decide (pcJ t = 1) && decide (sr = 1)) then 2 else pl_n P t 3
def pl_x (mv : Int64 → Int64) (P H : Nat → Int64) (s : Nat) : Int64 := if H s = 0 then mv (P s) else P s
def pl_o (n : Nat → Int64) : Bool := decide (((n 0 &&& n 1) ||| (n 0 &&& n 2)) ||| (n 1 &&& n 2) = 0)
def pl_m (mv : Int64 → Int64) (P H : Nat → Int64) (s : Nat) : Int64 := bif pl_o (pl_x mv P H) then pl_x mv P H s else P s
def pl_f (sr : Int32) (dr : Bool) (mv : Int64 → Int64) (P H : Nat → Int64) (t : Int64) (s : Nat) : Int64 := bif dr && Nat.beq (pl_a sr P H t) 0 then pl_m mv P (pl_h P H t) s else P s
theorem pl_n_c {P P' : Nat → Int64} {t : Int64} : ∀ k, (∀ s, s < k → P s = P' s) → pl_n P t k = pl_n P' t k := by
  intro k
  induction k with
  | zero => intro _; rfl
  | succ k ih =>
    intro h
    unfold pl_n
    rw [ih fun s hs => h s (by omega), h k (Nat.lt_succ_self k)]
theorem pl_h_c {P P' H H' : Nat → Int64} {t : Int64} {s : Nat} (h : P s = P' s) (h2 : H s = H' s) : pl_h P H t s = pl_h P' H' t s := by
  unfold pl_h
  rw [h, h2]
theorem pl_u_c {P P' H H' : Nat → Int64} {t : Int64} : ∀ k, (∀ s, s < k → P s = P' s ∧ H s = H' s) → pl_u P H t k = pl_u P' H' t k := by
  intro k
  induction k with
  | zero => intro _; rfl
  | succ k ih =>
    intro h
    obtain ⟨h1, h2⟩ := h k (Nat.lt_succ_self k)
    unfold pl_u pl_k
    rw [ih fun s hs => h s (by omega), pl_h_c h1 h2, h1, h2]
theorem pl_a_c {sr : Int32} {P P' H H' : Nat → Int64} {t : Int64} (h : ∀ s, s < 3 → P s = P' s ∧ H s = H' s) : pl_a sr P H t = pl_a sr P' H' t := by
  unfold pl_a
  rw [pl_u_c 3 h, pl_n_c 3 fun s hs => (h s hs).1]
theorem pl_x_c {mv : Int64 → Int64} {P P' H H' : Nat → Int64} {s : Nat} (h1 : P s = P' s) (h2 : H s = H' s) : pl_x mv P H s = pl_x mv P' H' s := by
  unfold pl_x
  rw [h1, h2]
theorem pl_m_c {mv : Int64 → Int64} {P P' H H' : Nat → Int64} (h : ∀ s, s < 3 → P s = P' s ∧ H s = H' s) {s : Nat} (hs : s < 3) : pl_m mv P H s = pl_m mv P' H' s := by
  have e : ∀ s, s < 3 → pl_x mv P H s = pl_x mv P' H' s := fun s hs => pl_x_c (h s hs).1 (h s hs).2
  unfold pl_m pl_o
  rw [e 0 (by decide), e 1 (by decide), e 2 (by decide), e s hs, (h s hs).1]
theorem pl_f_c {sr : Int32} {dr : Bool} {mv : Int64 → Int64} {P P' H H' : Nat → Int64} {t : Int64} (h : ∀ s, s < 3 → P s = P' s ∧ H s = H' s) {s : Nat} (hs : s < 3) : pl_f sr dr mv P H t s = pl_f sr dr mv P' H' t s := by
  unfold pl_f
  rw [pl_a_c h, pl_m_c (H := pl_h P H t) (H' := pl_h P' H' t) (fun s hs => ⟨(h s hs).1, pl_h_c (h s hs).1 (h s hs).2⟩) hs, (h s hs).1]
theorem pl_n_le (P : Nat → Int64) (t : Int64) : ∀ s, pl_n P t s ≤ 64 * s := by
  intro s
  induction s with
  | zero => exact Nat.le_refl 0
  | succ s ih =>
    have := pcJ_le (P s &&& t)
    unfold pl_n
    omega
theorem pl_a_le (sr : Int32) (P H : Nat → Int64) (t : Int64) : pl_a sr P H t ≤ 192 := by
  have := pl_n_le P t 3
  unfold pl_a
  cases (pl_u P H t 3 && (decide (pcJ t = 1) && decide (sr = 1)))
  · simp only [cond_false]
    omega
  · simp only [cond_true]
    omega
theorem l32_0 {m : Nat} (h : m < 65536) : (Int32.ofNat m).toInt64 = 0 ↔ m = 0 := by
  rw [l_nat h, ← Int64.toInt_inj, Int64.toInt_ofNat_of_lt (by omega), show (0 : Int64).toInt = 0 from by decide]
  omega
theorem pcJ_0 : pcJ 0 = 0 := pc_zero 64
section
variable {N : Nat} {X : ez_X} {I : Nat → Nat → Int32} {J : Nat → Nat → Int64} {R : Nat → Nat} {T : List ez_C} {x y : Int32} {t : Int64}
theorem pe_fire : pe N X 130 [.ref 10, .long t] (ev_hp I J R T) (fun r h => r = some (.int (Int32.ofNat (pl_a (I 2 1) (J 11) (J 12) t))) ∧ ∃ G, h = ev_hp I (ev_sJ J 12 G) R T ∧ ∀ s, s < 3 → G s = pl_h (J 11) (J 12) t s) := by
  have loop : ∀ (d s : Nat), s + d = 3 → ∀ G : Nat → Int64, (∀ i, i < s → G i = pl_h (J 11) (J 12) t i) → (∀ i, s ≤ i → G i = J 12 i) → ∀ N, pw N X 130 8 [.ref 10, .long t, ez_fill, .int (Int32.ofNat (pl_n (J 11) t s)), .int (bif pl_u (J 11) (J 12) t s then 1 else 0), .int (Int32.ofNat s)] [] (ev_hp I (ev_sJ J 12 G) R T) (fun r h => r = some (.int (Int32.ofNat (pl_a (I 2 1) (J 11) (J 12) t))) ∧ ∃ G, h = ev_hp I (ev_sJ J 12 G) R T ∧ ∀ s, s < 3 → G s = pl_h (J 11) (J 12) t s) := by
    intro d
    induction d with
    | zero =>
      intro s hs G h1 h2 N
      obtain rfl : s = 3 := by omega
      refine pw_p (pf_8 ⟨fun _ => ?_, fun g => absurd (by decide) g⟩)
      have hr : ev_at 3 (I 2) (1 : Int32) = I 2 1 := at_in (j := 1) (by decide) (by decide)
      have hb : ev_bcJ t = 1 ↔ pcJ t = 1 := by
        rw [pcJ_bc, show (1 : Int32) = Int32.ofNat 1 from rfl, io_eq (by have := pcJ_le t; omega) (by omega)]
      have fin : ∀ v : Int32, v = Int32.ofNat (pl_a (I 2 1) (J 11) (J 12) t) → (some (.int v) : Option Value) = some (.int (Int32.ofNat (pl_a (I 2 1) (J 11) (J 12) t))) ∧ ∃ G', ev_hp I (ev_sJ J 12 G) R T = ev_hp I (ev_sJ J 12 G') R T ∧ ∀ s, s < 3 → G' s = pl_h (J 11) (J 12) t s := fun v hv => ⟨by rw [hv], G, rfl, h1⟩
      refine pw_p (pf_107 ?_)
      rw [hr, hb]
      unfold pl_a at fin ⊢
      cases hu : pl_u (J 11) (J 12) t 3
      · rw [hu] at fin
        exact ⟨fun _ => ⟨fun _ => fin _ rfl, fun z => absurd rfl z⟩, fun _ => ⟨fun _ => fin _ rfl, fun z => absurd rfl z⟩⟩
      · rw [hu] at fin
        refine ⟨fun a0 => ⟨fun z => absurd z (by decide), fun _ => fin _ ?_⟩, fun a0 => ⟨fun z => absurd z (by decide), fun _ => ⟨fun a1 => fin _ ?_, fun a1 => fin _ ?_⟩⟩⟩
        · rw [decide_eq_false a0]
          rfl
        · rw [decide_eq_false a1, Bool.and_false]
          rfl
        · rw [decide_eq_true (Classical.not_not.mp a0), decide_eq_true (Classical.not_not.mp a1)]
          rfl
    | succ d ih =>
      intro s hsd G h1 h2 N
      have hs : s < 3 := by omega
      have en : pl_n (J 11) t (s + 1) = pl_n (J 11) t s + pcJ (J 11 s &&& t) := rfl
      have eu : pl_u (J 11) (J 12) t (s + 1) = (pl_u (J 11) (J 12) t s || pl_k (J 11) (J 12) t s) := rfl
      have eh : pl_h (J 11) (J 12) t s = J 12 s ||| (J 11 s &&& t) := rfl
      have upd1 : ∀ i, i < s + 1 → vp_updL G s (J 12 s ||| (J 11 s &&& t)) i = pl_h (J 11) (J 12) t i := by
        intro i hi
        by_cases his : i = s
        · rw [his, pv_s]
          rfl
        · rw [pv_n _ _ his]
          exact h1 i (by omega)
      have upd2 : ∀ i, s + 1 ≤ i → vp_updL G s (J 12 s ||| (J 11 s &&& t)) i = J 12 i := by
        intro i hi
        rw [pv_n _ _ (by omega)]
        exact h2 i (by omega)
      have h5 := ih (s + 1) (by omega) _ upd1 upd2 N
      rw [en, eu] at h5
      refine pw_p (pf_8 ?_)
      rw [cx_sJ_s, cx_sJ_n _ _ (show (11 : Nat) ≠ 12 by decide), atJ_in hs (by decide), atJ_in hs (by decide), h2 s (Nat.le_refl s), putJ_in hs (by decide), sJ2, pcJ_bc, io_add, io_1]
      refine ⟨fun g => ?_, fun _ => ⟨fun g => ?_, fun g => ⟨fun g2 => ?_, fun g2 => ⟨fun g3 => ?_, fun g3 => ?_⟩⟩⟩⟩
      · rw [show (3 : Int32) = Int32.ofNat 3 from rfl, io_le (by omega) (by omega)] at g
        omega
      · rw [lg_eq] at g
        have e1 : pl_h (J 11) (J 12) t s = J 12 s := by
          rw [eh, g]
          exact Int64.or_zero
        have e2 : pl_k (J 11) (J 12) t s = false := by
          unfold pl_k
          exact decide_eq_false fun z => z.1 e1
        have h6 := ih (s + 1) (by omega) G (fun i hi => by
          by_cases his : i = s
          · rw [his, e1]
            exact h2 s (Nat.le_refl s)
          · exact h1 i (by omega)) (fun i hi => h2 i (by omega)) N
        rw [en, eu, e2, Bool.or_false, g, pcJ_0, Nat.add_zero] at h6
        exact h6
      · rw [lg_eq] at g2
        have e2 : pl_k (J 11) (J 12) t s = false := by
          unfold pl_k
          exact decide_eq_false fun z => z.1 g2
        rw [e2, Bool.or_false] at h5
        rw [Int32.or_zero]
        exact h5
      · rw [lg_eq] at g3
        have e2 : pl_k (J 11) (J 12) t s = false := by
          unfold pl_k
          exact decide_eq_false fun z => g3 z.2
        rw [e2, Bool.or_false] at h5
        rw [Int32.or_zero]
        exact h5
      · rw [lg_eq] at g2 g3
        have e2 : pl_k (J 11) (J 12) t s = true := by
          unfold pl_k
          exact decide_eq_true ⟨g2, Classical.not_not.mp g3⟩
        rw [e2, Bool.or_true] at h5
        rw [show ((bif pl_u (J 11) (J 12) t s then (1 : Int32) else 0) ||| 1) = 1 from by cases pl_u (J 11) (J 12) t s <;> decide]
        exact h5
  refine pe_of (pw_p (pf_0 ?_))
  have h0 := loop 3 0 (by omega) (J 12) (fun i hi => absurd hi (by omega)) (fun i _ => rfl) N
  rw [sJ_self] at h0
  exact h0
def mvF (I : Nat → Nat → Int32) (J : Nat → Nat → Int64) (z : Int64) : Int64 := md (I 1 3) (I 1 5) (I 1 6) (J 1 7) (ma (I 1 3) (I 1 5) (J 1 8) (J 1 9) z (I 1 1)) (I 1 2)
theorem pe_next {s : Nat} (hs : s < 3) (hx : x = Int32.ofNat s) : pe N X 132 [.ref 10, .int x] (ev_hp I J R T) (fun r h => r = some (.long (pl_x (mvF I J) (J 11) (J 12) s)) ∧ h = ev_hp I J R T) := by
  subst hx
  refine pe_of (pw_p (pn_0 ?_))
  rw [atJ_in hs (by decide), atJ_in hs (by decide), lg_eq]
  unfold pl_x
  refine ⟨fun g => ⟨?_, rfl⟩, fun g => ⟨?_, rfl⟩⟩
  · rw [if_pos g]
    rfl
  · rw [if_neg g]
theorem pe_move : pe N X 131 [.ref 10] (ev_hp I J R T) (fun r h => r = none ∧ ∃ G, h = ev_hp I (ev_sJ J 11 G) R T ∧ ∀ s, s < 3 → G s = pl_m (mvF I J) (J 11) (J 12) s) := by
  refine pe_of (pw_p (pm_0 ⟨_, pe_next (s := 0) (by decide) rfl, ?_⟩))
  rintro r h ⟨rfl, rfl⟩
  refine pw_p (pm_5 ⟨_, pe_next (s := 1) (by decide) rfl, ?_⟩)
  rintro r h ⟨rfl, rfl⟩
  refine pw_p (pm_11 ⟨_, pe_next (s := 2) (by decide) rfl, ?_⟩)
  rintro r h ⟨rfl, rfl⟩
  refine pw_p (pm_17 ?_)
  rw [lg_eq]
  refine ⟨fun g => ⟨rfl, J 11, by rw [sJ_self], fun s hs => ?_⟩, fun g => ⟨rfl, _, by rw [sJ2, sJ2], fun s hs => ?_⟩⟩
  · unfold pl_m pl_o
    rw [decide_eq_false g]
    rfl
  · unfold pl_m pl_o
    rw [decide_eq_true (Classical.not_not.mp g), show (0 : Int32) = Int32.ofNat 0 from rfl, show (1 : Int32) = Int32.ofNat 1 from rfl, show (2 : Int32) = Int32.ofNat 2 from rfl, putJ_in (by decide) (by decide), putJ_in (by decide) (by decide), putJ_in (by decide) (by decide)]
    rcases (show s = 0 ∨ s = 1 ∨ s = 2 by omega) with rfl | rfl | rfl
    · rw [pv_n _ _ (by decide), pv_n _ _ (by decide), pv_s]
      rfl
    · rw [pv_n _ _ (by decide), pv_s]
      rfl
    · rw [pv_s]
      rfl
end
/-! all calls -/
section
variable (sr : Int32) (dr : Bool) (mv : Int64 → Int64) (tg P0 : Nat → Int64)
def pl_q : Nat → (Nat → Int64) × (Nat → Int64)
  | 0 => (P0, fun _ => 0)
  | c + 1 => (pl_f sr dr mv (pl_q c).1 (pl_q c).2 (tg c), pl_h (pl_q c).1 (pl_q c).2 (tg c))
def pl_t (c : Nat) : Nat := pl_a sr (pl_q sr dr mv tg P0 c).1 (pl_q sr dr mv tg P0 c).2 (tg c)
def pl_z : Nat → Int64
  | 0 => 0
  | c + 1 => pl_z c ||| ((Int32.ofNat (pl_t sr dr mv tg P0 c)).toInt64 <<< td_s c)
end
def drF (I : Nat → Nat → Int32) : Bool := decide (I 1 1 ≠ 0) || decide (I 1 2 ≠ 0)
/-- as the class's rows have it -/
abbrev xq (I : Nat → Nat → Int32) (J : Nat → Nat → Int64) (t : ly_t) : Nat → (Nat → Int64) × (Nat → Int64) := pl_q (I 2 1) (drF I) (mvF I J) (J 9) (ly_s I J t)
abbrev xt (I : Nat → Nat → Int32) (J : Nat → Nat → Int64) (t : ly_t) : Nat → Nat := pl_t (I 2 1) (drF I) (mvF I J) (J 9) (ly_s I J t)
abbrev xz (I : Nat → Nat → Int32) (J : Nat → Nat → Int64) (t : ly_t) : Nat → Int64 := pl_z (I 2 1) (drF I) (mvF I J) (J 9) (ly_s I J t)
/-- the rows of one laying that is played -/
def xh (I : Nat → Nat → Int32) (J : Nat → Nat → Int64) (t : ly_t) (n : Nat) (J' : Nat → Nat → Int64) : Prop := ∃ G1 G2, J' = ev_sJ (ev_sJ J 11 G1) 12 G2 ∧ ∀ s, s < 3 → G1 s = (xq I J t n).1 s ∧ G2 s = (xq I J t n).2 s
section
variable {N : Nat} {X : ez_X} {I : Nat → Nat → Int32} {J : Nat → Nat → Int64} {R : Nat → Nat} {T : List ez_C} {x y : Int32} {t : ly_t} {m : Nat} {f : Nat → Int32}
theorem pe_through (h : rowT (R 0) T m f) (hm : m ≤ 10000) (hf : ev_at m f x = ly_c t) (hns : 0 ≤ (I 3 3).toInt ∧ (I 3 3).toInt ≤ 3) (b0 : t.1 < 512) (b1 : t.2.1 < 512) (b2 : t.2.2 < 512) (hin : ∀ s, s < (I 3 3).toInt.toNat → ly_at t s < 288) {n : Nat} (hy : y = Int32.ofNat n) (hn : n ≤ 30) :
    pe N X 135 [.ref 10, .int x, .int y] (ev_hp I J R T) (fun r h => r = some (.long (xz I J t n)) ∧ ∃ J', h = ev_hp I J' R T ∧ xh I J t n J') := by
  subst hy
  have main : ∀ (d c : Nat), c + d = n → ∀ G1 G2 : Nat → Int64, (∀ s, s < 3 → G1 s = (xq I J t c).1 s ∧ G2 s = (xq I J t c).2 s) → ∀ N, pw N X 135 86 [.ref 10, .int x, .int (Int32.ofNat n), .int (ly_c t), .int (bif drF I then 1 else 0), .long (xz I J t c), ez_fill, .int (Int32.ofNat c)] [] (ev_hp I (ev_sJ (ev_sJ J 11 G1) 12 G2) R T) (fun r h => r = some (.long (xz I J t n)) ∧ ∃ J', h = ev_hp I J' R T ∧ xh I J t n J') := by
    intro d
    induction d with
    | zero =>
      intro c hc G1 G2 hG N
      obtain rfl : c = n := by omega
      exact pw_p (pt_86 ⟨fun _ => ⟨rfl, _, rfl, G1, G2, rfl, hG⟩, fun g => absurd (Int32.le_refl _) g⟩)
    | succ d ih =>
      intro c hcd G1 G2 hG N
      have hc : c < n := by omega
      refine pw_p (pt_86 ⟨fun g => ?_, fun _ => ?_⟩)
      · rw [io_le (by omega) (by omega)] at g
        omega
      rw [cx_sJ_n _ _ (show (9 : Nat) ≠ 12 by decide), cx_sJ_n _ _ (show (9 : Nat) ≠ 11 by decide), atJ_in (show c < 30 by omega) (by decide)]
      refine ⟨_, pe_fire, ?_⟩
      rintro r h ⟨rfl, G, rfl, hG2⟩
      rw [cx_sJ_s, cx_sJ_n _ _ (show (11 : Nat) ≠ 12 by decide), cx_sJ_s] at hG2
      rw [cx_sJ_s, cx_sJ_n _ _ (show (11 : Nat) ≠ 12 by decide), cx_sJ_s, sJ2]
      have ea : pl_a (I 2 1) G1 G2 (J 9 c) = xt I J t c := pl_a_c hG
      have hG3 : ∀ s, s < 3 → G s = (xq I J t (c + 1)).2 s := fun s hs => (hG2 s hs).trans (pl_h_c (hG s hs).1 (hG s hs).2)
      rw [ea]
      have hle := pl_a_le (I 2 1) G1 G2 (J 9 c)
      rw [ea] at hle
      have stay : (drF I && Nat.beq (xt I J t c) 0) = false → pw N X 135 86 [.ref 10, .int x, .int (Int32.ofNat n), .int (ly_c t), .int (bif drF I then 1 else 0), .long (xz I J t c ||| ((Int32.ofNat (xt I J t c)).toInt64 <<< (((2 : Int32) * Int32.ofNat c).toInt64 &&& (63 : Int64)))), ez_fill, .int (Int32.ofNat c + (1 : Int32))] [] (ev_hp I (ev_sJ (ev_sJ J 11 G1) 12 G) R T) (fun r h => r = some (.long (xz I J t n)) ∧ ∃ J', h = ev_hp I J' R T ∧ xh I J t n J') := by
        intro g
        rw [io_1]
        refine ih (c + 1) (by omega) G1 G (fun s hs => ⟨?_, hG3 s hs⟩) N
        show G1 s = pl_f (I 2 1) (drF I) (mvF I J) (xq I J t c).1 (xq I J t c).2 (J 9 c) s
        unfold pl_f
        rw [show (drF I && Nat.beq (pl_a (I 2 1) (xq I J t c).1 (xq I J t c).2 (J 9 c)) 0) = false from g]
        exact (hG s hs).1
      refine pw_p (pt_105 ?_)
      rw [lg_eq, l32_0 (by omega)]
      refine ⟨fun g => stay ?_, fun g => ⟨fun g2 => stay ?_, fun g2 => ⟨_, pe_move, ?_⟩⟩⟩
      · rw [show Nat.beq (xt I J t c) 0 = false from cx_beqf g, Bool.and_false]
      · cases hd : drF I
        · rfl
        · rw [hd] at g2
          exact absurd g2 (by decide)
      · rintro r h ⟨rfl, G', rfl, hG4⟩
        have hd : drF I = true := by
          cases hd : drF I
          · rw [hd] at g2
            exact absurd rfl g2
          · rfl
        have ht : xt I J t c = 0 := Classical.not_not.mp g
        rw [cx_sJ_s, cx_sJ_n _ _ (show (11 : Nat) ≠ 12 by decide), cx_sJ_s] at hG4
        have em : mvF I (ev_sJ (ev_sJ J 11 G1) 12 G) = mvF I J := by
          funext z
          unfold mvF
          rw [cx_sJ_n _ _ (show (1 : Nat) ≠ 12 by decide), cx_sJ_n _ _ (show (1 : Nat) ≠ 11 by decide)]
        rw [em] at hG4
        rw [sJ_sw _ _ _ (show (12 : Nat) ≠ 11 by decide), sJ2]
        have hres : ∀ s, s < 3 → G' s = (xq I J t (c + 1)).1 s ∧ G s = (xq I J t (c + 1)).2 s := fun s hs => by
          refine ⟨?_, hG3 s hs⟩
          show G' s = pl_f (I 2 1) (drF I) (mvF I J) (xq I J t c).1 (xq I J t c).2 (J 9 c) s
          unfold pl_f
          rw [show (drF I && Nat.beq (pl_a (I 2 1) (xq I J t c).1 (xq I J t c).2 (J 9 c)) 0) = true from by
            rw [hd, show pl_a (I 2 1) (xq I J t c).1 (xq I J t c).2 (J 9 c) = 0 from ht]
            rfl, hG4 s hs]
          exact pl_m_c (fun s hs => ⟨(hG s hs).1, hG3 s hs⟩) hs
        refine pw_p (pt_136 ?_)
        rw [io_1]
        exact ih (c + 1) (by omega) G' G hres N
  have first : ∀ (d s : Nat), s + d = 3 → ∀ G1 G2 : Nat → Int64, (∀ i, i < s → G1 i = ly_s I J t i ∧ G2 i = 0) → ∀ N, pw N X 135 12 [.ref 10, .int x, .int (Int32.ofNat n), .int (ly_c t), .int (Int32.ofNat s)] [] (ev_hp I (ev_sJ (ev_sJ J 11 G1) 12 G2) R T) (fun r h => r = some (.long (xz I J t n)) ∧ ∃ J', h = ev_hp I J' R T ∧ xh I J t n J') := by
    intro d
    induction d with
    | zero =>
      intro s hs G1 G2 hG N
      obtain rfl : s = 3 := by omega
      have h0 := fun N => main n 0 (by omega) G1 G2 hG N
      refine pw_p (pt_12 ⟨fun _ => pw_p (pt_53 ?_), fun g => absurd (by decide) g⟩)
      refine ⟨fun g => ?_, fun g => ⟨fun g2 => ?_, fun g2 => ?_⟩⟩
      · have e : drF I = true := by
          unfold drF
          rw [decide_eq_true g]
          rfl
        rw [e] at h0
        exact h0 _
      · have e : drF I = false := by
          unfold drF
          rw [decide_eq_false g, decide_eq_false (fun z => z g2)]
          rfl
        rw [e] at h0
        exact h0 _
      · have e : drF I = true := by
          unfold drF
          rw [decide_eq_true (p := I 1 2 ≠ 0) g2, Bool.or_true]
        rw [e] at h0
        exact h0 _
    | succ d ih =>
      intro s hsd G1 G2 hG N
      have hs : s < 3 := by omega
      refine pw_p (pt_12 ⟨fun g => ?_, fun _ => ⟨_, pe_cellsIn (s := s) rfl hns b0 b1 b2 hs (hin s), ?_⟩⟩)
      · rw [show (3 : Int32) = Int32.ofNat 3 from rfl, io_le (by omega) (by omega)] at g
        omega
      · rintro r h ⟨rfl, rfl⟩
        have e4 : ly_s I (ev_sJ (ev_sJ J 11 G1) 12 G2) t s = ly_s I J t s := by
          unfold ly_s
          rw [cx_sJ_n _ _ (show (4 : Nat) ≠ 12 by decide), cx_sJ_n _ _ (show (4 : Nat) ≠ 11 by decide)]
        rw [e4]
        refine pw_p (pt_34 ?_)
        rw [cx_sJ_s, cx_sJ_n _ _ (show (11 : Nat) ≠ 12 by decide), cx_sJ_s, putJ_in hs (by decide), putJ_in hs (by decide), sJ_sw (ev_sJ J 11 G1) _ _ (show (12 : Nat) ≠ 11 by decide), sJ2, sJ2, io_1]
        refine ih (s + 1) (by omega) _ _ (fun i hi => ?_) N
        by_cases his : i = s
        · subst his
          rw [pv_s, pv_s]
          exact ⟨rfl, rfl⟩
        · rw [pv_n _ _ his, pv_n _ _ his]
          exact hG i (by omega)
  refine pe_of (pw_p (pt_0 ⟨_, pe_code h hm, ?_⟩))
  rintro r h ⟨rfl, rfl⟩
  rw [hf]
  refine pw_p (pt_8 ?_)
  have h0 := first 3 0 (by omega) (J 11) (J 12) (fun i hi => absurd hi (by omega)) N
  rw [sJ_self, sJ_self] at h0
  exact h0
end
