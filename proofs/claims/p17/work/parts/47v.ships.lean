/-! Ships and their spots: what the calls of both sides come to. -/
section
variable {N : Nat} {X : ez_X} {I : Nat → Nat → Int32} {J : Nat → Nat → Int64} {R : Nat → Nat} {T : List ez_C} {Q : pw_Q} {cz kz : Nat}
set_option maxRecDepth 100000 in
theorem fx_r0 {a0 : Int32} : ∀ G : ez_F, fx_up X 3 G 94 0 [.ref 3, .int a0] [] (ev_hp I J R T) cz kz = G 94 5 [.ref 3, .int a0] [.int (I 3 3), .int a0] (ev_hp I J R T) cz kz := by
  intro G
  rfl
set_option maxRecDepth 100000 in
theorem fx_r1 {a0 : Int32} {a1 : Int32} {a2 : Int32} : ∀ G : ez_F, fx_up X 1 G 94 5 [.ref 3, .int a0] [.int a1, .int a2] (ev_hp I J R T) cz kz = bif decide (a1 ≤ a2) then G 94 19 [.ref 3, .int a0] [] (ev_hp I J R T) cz kz else G 94 8 [.ref 3, .int a0] [] (ev_hp I J R T) cz kz := by
  intro G
  rfl
set_option maxRecDepth 100000 in
theorem fx_r2 {a0 : Int32} : ∀ G : ez_F, fx_up X 2 G 94 19 [.ref 3, .int a0] [] (ev_hp I J R T) cz kz = some (some (.int (1 : Int32)), (ev_hp I J R T), cz, kz) := by
  intro G
  rfl
set_option maxRecDepth 100000 in
theorem fx_r3 {a0 : Int32} : ∀ G : ez_F, fx_up X 4 G 94 8 [.ref 3, .int a0] [] (ev_hp I J R T) cz kz = ev_C G 3 [.ref 5, .int a0] (ev_hp I J R T) fun r h1 c1 k1 => G 94 16 [.ref 3, .int a0] (r.toList ++ []) h1 (cz + c1) (kz + k1) := by
  intro G
  rfl
set_option maxRecDepth 100000 in
theorem fx_r4 {a0 : Int32} {a1 : Int32} : ∀ G : ez_F, fx_up X 2 G 94 16 [.ref 3, .int a0] [.int a1] (ev_hp I J R T) cz kz = some (some (.int a1), (ev_hp I J R T), cz, kz) := by
  intro G
  rfl
theorem sz_0 {s : Int32}
    (H : (((I 3 3) ≤ s → Q (some (.int (1 : Int32))) (ev_hp I J R T)) ∧ (¬ ((I 3 3) ≤ s) → Q (some (.int (ev_at 3 (I 5) s))) (ev_hp I J R T)))) : pw (N + 1) X 94 0 [.ref 3, .int s] [] (ev_hp I J R T) Q := by
  refine pw_seg (by decide) (fun _ _ => fx_r0) ?_
  refine pw_p (pw_if (by decide) (fun _ _ => fx_r1) (fun w1 => ?_) (fun w1 => ?_))
  · have h1 := H.1 w1
    exact pw_p (pw_ret (by decide) (fun _ _ => fx_r2) h1)
  · have h1 := H.2 w1
    refine pw_p (pw_callp (by decide) (fun _ _ => fx_r3) (pe_at (show cx_Ds[5]? = some (0, 3, []) from rfl) (by decide)) ?_)
    exact pw_p (pw_ret (by decide) (fun _ _ => fx_r4) h1)
set_option maxRecDepth 100000 in
theorem fx_r5 {a0 : Int32} {a1 : Int32} : ∀ G : ez_F, fx_up X 9 G 86 0 [.ref 3, .int a0, .int a1] [] (ev_hp I J R T) cz kz = G 86 13 [.ref 3, .int a0, .int a1, .int (((288 : Int32) * a0) + a1)] [.int (I 3 3), .int a0] (ev_hp I J R T) cz kz := by
  intro G
  rfl
set_option maxRecDepth 100000 in
theorem fx_r6 {a0 : Int32} {a1 : Int32} {a2 : Int32} {a3 : Int32} {a4 : Int32} : ∀ G : ez_F, fx_up X 1 G 86 13 [.ref 3, .int a0, .int a1, .int a2] [.int a3, .int a4] (ev_hp I J R T) cz kz = bif decide (a3 ≤ a4) then G 86 38 [.ref 3, .int a0, .int a1, .int a2] [] (ev_hp I J R T) cz kz else G 86 16 [.ref 3, .int a0, .int a1, .int a2] [] (ev_hp I J R T) cz kz := by
  intro G
  rfl
set_option maxRecDepth 100000 in
theorem fx_r7 {a0 : Int32} {a1 : Int32} {a2 : Int32} : ∀ G : ez_F, fx_up X 2 G 86 38 [.ref 3, .int a0, .int a1, .int a2] [] (ev_hp I J R T) cz kz = some (some (.long (0 : Int64)), (ev_hp I J R T), cz, kz) := by
  intro G
  rfl
set_option maxRecDepth 100000 in
theorem fx_r8 {a0 : Int32} {a1 : Int32} {a2 : Int32} : ∀ G : ez_F, fx_up X 2 G 86 16 [.ref 3, .int a0, .int a1, .int a2] [] (ev_hp I J R T) cz kz = bif decide (a2 < (0 : Int32)) then G 86 38 [.ref 3, .int a0, .int a1, .int a2] [] (ev_hp I J R T) cz kz else G 86 20 [.ref 3, .int a0, .int a1, .int a2] [] (ev_hp I J R T) cz kz := by
  intro G
  rfl
set_option maxRecDepth 100000 in
theorem fx_r9 {a0 : Int32} {a1 : Int32} {a2 : Int32} : ∀ G : ez_F, fx_up X 3 G 86 20 [.ref 3, .int a0, .int a1, .int a2] [] (ev_hp I J R T) cz kz = G 86 25 [.ref 3, .int a0, .int a1, .int a2] [.ref 4, .int a2] (ev_hp I J R T) cz kz := by
  intro G
  rfl
set_option maxRecDepth 100000 in
theorem fx_r10 {a0 : Int32} {a1 : Int32} {a2 : Int32} {a3 : Int32} {a4 : Int32} : ∀ G : ez_F, fx_up X 1 G 86 26 [.ref 3, .int a0, .int a1, .int a2] [.int a3, .int a4] (ev_hp I J R T) cz kz = bif decide (a3 ≤ a4) then G 86 38 [.ref 3, .int a0, .int a1, .int a2] [] (ev_hp I J R T) cz kz else G 86 29 [.ref 3, .int a0, .int a1, .int a2] [] (ev_hp I J R T) cz kz := by
  intro G
  rfl
set_option maxRecDepth 100000 in
theorem fx_r11 {a0 : Int32} {a1 : Int32} {a2 : Int32} : ∀ G : ez_F, fx_up X 3 G 86 29 [.ref 3, .int a0, .int a1, .int a2] [] (ev_hp I J R T) cz kz = G 86 34 [.ref 3, .int a0, .int a1, .int a2] [.int a2, .ref 4] (ev_hp I J R T) cz kz := by
  intro G
  rfl
set_option maxRecDepth 100000 in
theorem fx_r12 {a0 : Int32} {a1 : Int32} {a2 : Int32} {a3 : Int64} : ∀ G : ez_F, fx_up X 2 G 86 35 [.ref 3, .int a0, .int a1, .int a2] [.long a3] (ev_hp I J R T) cz kz = some (some (.long a3), (ev_hp I J R T), cz, kz) := by
  intro G
  rfl
theorem cl_0 {s k : Int32}
    (H : (((I 3 3) ≤ s → Q (some (.long (0 : Int64))) (ev_hp I J R T)) ∧ (¬ ((I 3 3) ≤ s) → (((((288 : Int32) * s) + k) < (0 : Int32) → Q (some (.long (0 : Int64))) (ev_hp I J R T)) ∧ (¬ ((((288 : Int32) * s) + k) < (0 : Int32)) → (((Int32.ofNat 864) ≤ (((288 : Int32) * s) + k) → Q (some (.long (0 : Int64))) (ev_hp I J R T)) ∧ (¬ ((Int32.ofNat 864) ≤ (((288 : Int32) * s) + k)) → (ev_ix (((288 : Int32) * s) + k) 864 → Q (some (.long (J 4 (((288 : Int32) * s) + k).toNatClampNeg))) (ev_hp I J R T))))))))) : pw (N + 1) X 86 0 [.ref 3, .int s, .int k] [] (ev_hp I J R T) Q := by
  refine pw_seg (by decide) (fun _ _ => fx_r5) ?_
  refine pw_p (pw_if (by decide) (fun _ _ => fx_r6) (fun w1 => ?_) (fun w1 => ?_))
  · have h1 := H.1 w1
    exact pw_p (pw_ret (by decide) (fun _ _ => fx_r7) h1)
  · have h1 := H.2 w1
    refine pw_p (pw_if (by decide) (fun _ _ => fx_r8) (fun w2 => ?_) (fun w2 => ?_))
    · have h2 := h1.1 w2
      exact pw_p (pw_ret (by decide) (fun _ _ => fx_r7) h2)
    · have h2 := h1.2 w2
      refine pw_p (pw_seg (by decide) (fun _ _ => fx_r9) ?_)
      refine pw_p (pw_alenJ (by rfl) (cx_getJ (show cx_Ds[4]? = some (1, 864, []) from rfl)) ?_)
      refine pw_p (pw_if (by decide) (fun _ _ => fx_r10) (fun w3 => ?_) (fun w3 => ?_))
      · have h3 := h2.1 w3
        exact pw_p (pw_ret (by decide) (fun _ _ => fx_r7) h3)
      · have h3 := h2.2 w3
        refine pw_p (pw_seg (by decide) (fun _ _ => fx_r11) ?_)
        refine pw_p (pw_lald (by rfl) (cx_getJ (show cx_Ds[4]? = some (1, 864, []) from rfl)) (fun w4 => ?_))
        have h4 := h3 w4
        exact pw_p (pw_ret (by decide) (fun _ _ => fx_r12) h4)
end
def sz_F (I : Nat → Nat → Int32) (s : Int32) : Int32 := if I 3 3 ≤ s then 1 else ev_at 3 (I 5) s
def cl_F (I : Nat → Nat → Int32) (J : Nat → Nat → Int64) (s k : Int32) : Int64 := if I 3 3 ≤ s then 0 else if 288 * s + k < 0 then 0 else if Int32.ofNat 864 ≤ 288 * s + k then 0 else J 4 (288 * s + k).toNatClampNeg
section
variable {N : Nat} {X : ez_X} {I : Nat → Nat → Int32} {J : Nat → Nat → Int64} {R : Nat → Nat} {T : List ez_C} {s k : Int32}
theorem pe_sizeOf : pe N X 94 [.ref 3, .int s] (ev_hp I J R T) (fun r h => r = some (.int (sz_F I s)) ∧ h = ev_hp I J R T) := by
  unfold sz_F
  refine pe_of (pw_p (sz_0 ⟨fun h => ?_, fun h => ?_⟩))
  · rw [if_pos h]
    exact ⟨rfl, rfl⟩
  · rw [if_neg h]
    exact ⟨rfl, rfl⟩
theorem pe_cellsAt : pe N X 86 [.ref 3, .int s, .int k] (ev_hp I J R T) (fun r h => r = some (.long (cl_F I J s k)) ∧ h = ev_hp I J R T) := by
  unfold cl_F
  refine pe_of (pw_p (cl_0 ⟨fun h => ?_, fun h => ⟨fun h2 => ?_, fun h2 => ⟨fun h3 => ?_, fun h3 _ => ?_⟩⟩⟩))
  · rw [if_pos h]
    exact ⟨rfl, rfl⟩
  · rw [if_neg h, if_pos h2]
    exact ⟨rfl, rfl⟩
  · rw [if_neg h, if_neg h2, if_pos h3]
    exact ⟨rfl, rfl⟩
  · rw [if_neg h, if_neg h2, if_neg h3]
    exact ⟨rfl, rfl⟩
theorem sz_in {s ns : Nat} (h3 : I 3 3 = Int32.ofNat ns) (hs : s < ns) (hn : ns ≤ 3) : sz_F I (Int32.ofNat s) = I 5 s := by
  unfold sz_F
  rw [h3, if_neg (by rw [io_le (by omega) (by omega)]; omega), at_in (by omega) (by omega)]
theorem cl_in {s ns k : Nat} (h3 : I 3 3 = Int32.ofNat ns) (hs : s < ns) (hn : ns ≤ 3) (hk : k < 288) : cl_F I J (Int32.ofNat s) (Int32.ofNat k) = J 4 (288 * s + k) := by
  unfold cl_F
  rw [h3, if_neg (by rw [io_le (by omega) (by omega)]; omega), i_288, io_add, if_neg (by rw [show (0 : Int32) = Int32.ofNat 0 from rfl, io_lt (by omega) (by omega)]; omega), if_neg (by rw [io_le (by omega) (by omega)]; omega), ix_cl (by omega)]
end
section
variable {N : Nat} {X : ez_X} {I : Nat → Nat → Int32} {J : Nat → Nat → Int64} {R : Nat → Nat} {T : List ez_C} {Q : pw_Q} {cz kz : Nat}
set_option maxRecDepth 100000 in
theorem sx_r0 {a0 : Int32} {a1 : Int32} : ∀ G : ez_F, fx_up X 4 G 43 0 [.ref 0, .int a0, .int a1] [] (ev_hp I J R T) cz kz = ev_C G 55 [.int a0, .int (1 : Int32), .int (65535 : Int32)] (ev_hp I J R T) fun r h1 c1 k1 => G 43 7 [.ref 0, .int a0, .int a1] (r.toList ++ []) h1 (cz + c1) (kz + k1) := by
  intro G
  rfl
set_option maxRecDepth 100000 in
theorem sx_r1 {a0 : Int32} {a1 : Int32} {a2 : Int32} : ∀ G : ez_F, fx_up X 1 G 43 7 [.ref 0, .int a0, .int a1] [.int a2] (ev_hp I J R T) cz kz = bif decide (a2 = (0 : Int32)) then G 43 27 [.ref 0, .int a0, .int a1] [] (ev_hp I J R T) cz kz else G 43 10 [.ref 0, .int a0, .int a1] [] (ev_hp I J R T) cz kz := by
  intro G
  rfl
set_option maxRecDepth 100000 in
theorem sx_r2 {a0 : Int32} {a1 : Int32} : ∀ G : ez_F, fx_up X 2 G 43 27 [.ref 0, .int a0, .int a1] [] (ev_hp I J R T) cz kz = some (some (.int (-3 : Int32)), (ev_hp I J R T), cz, kz) := by
  intro G
  rfl
set_option maxRecDepth 100000 in
theorem sx_r3 {a0 : Int32} {a1 : Int32} : ∀ G : ez_F, fx_up X 2 G 43 10 [.ref 0, .int a0, .int a1] [] (ev_hp I J R T) cz kz = ev_C G 234 [.int a0] (ev_hp I J R T) fun r h1 c1 k1 => G 43 14 [.ref 0, .int a0, .int a1] (r.toList ++ []) h1 (cz + c1) (kz + k1) := by
  intro G
  rfl
set_option maxRecDepth 100000 in
theorem sx_r4 {a0 : Int32} {a1 : Int32} {a2 : Int32} : ∀ G : ez_F, fx_up X 2 G 43 14 [.ref 0, .int a0, .int a1] [.int a2] (ev_hp I J R T) cz kz = bif decide ((5 : Int32) < a2) then G 43 27 [.ref 0, .int a0, .int a1] [] (ev_hp I J R T) cz kz else G 43 18 [.ref 0, .int a0, .int a1] [] (ev_hp I J R T) cz kz := by
  intro G
  rfl
set_option maxRecDepth 100000 in
theorem sx_r5 {a0 : Int32} {a1 : Int32} : ∀ G : ez_F, fx_up X 4 G 43 18 [.ref 0, .int a0, .int a1] [] (ev_hp I J R T) cz kz = ev_C G 55 [.int a1, .int (0 : Int32), .int (2 : Int32)] (ev_hp I J R T) fun r h1 c1 k1 => G 43 24 [.ref 0, .int a0, .int a1] (r.toList ++ []) h1 (cz + c1) (kz + k1) := by
  intro G
  rfl
set_option maxRecDepth 100000 in
theorem sx_r6 {a0 : Int32} {a1 : Int32} {a2 : Int32} : ∀ G : ez_F, fx_up X 1 G 43 24 [.ref 0, .int a0, .int a1] [.int a2] (ev_hp I J R T) cz kz = bif decide (¬ a2 = (0 : Int32)) then G 43 30 [.ref 0, .int a0, .int a1] [] (ev_hp I J R T) cz kz else G 43 27 [.ref 0, .int a0, .int a1] [] (ev_hp I J R T) cz kz := by
  intro G
  rfl
set_option maxRecDepth 100000 in
theorem sx_r7 {a0 : Int32} {a1 : Int32} : ∀ G : ez_F, fx_up X 3 G 43 30 [.ref 0, .int a0, .int a1] [] (ev_hp I J R T) cz kz = G 43 37 [.ref 0, .int a0, .int a1] [.int (I 8 1)] (ev_hp I J R T) cz kz := by
  intro G
  rfl
set_option maxRecDepth 100000 in
theorem sx_r8 {a0 : Int32} {a1 : Int32} {a2 : Int32} : ∀ G : ez_F, fx_up X 1 G 43 37 [.ref 0, .int a0, .int a1] [.int a2] (ev_hp I J R T) cz kz = bif decide (a2 ≤ (0 : Int32)) then G 43 43 [.ref 0, .int a0, .int a1] [] (ev_hp I J R T) cz kz else G 43 40 [.ref 0, .int a0, .int a1] [] (ev_hp I J R T) cz kz := by
  intro G
  rfl
set_option maxRecDepth 100000 in
theorem sx_r9 {a0 : Int32} {a1 : Int32} : ∀ G : ez_F, fx_up X 3 G 43 43 [.ref 0, .int a0, .int a1] [] (ev_hp I J R T) cz kz = G 43 50 [.ref 0, .int a0, .int a1] [.int (I 3 3)] (ev_hp I J R T) cz kz := by
  intro G
  rfl
set_option maxRecDepth 100000 in
theorem sx_r10 {a0 : Int32} {a1 : Int32} {a2 : Int32} : ∀ G : ez_F, fx_up X 2 G 43 50 [.ref 0, .int a0, .int a1] [.int a2] (ev_hp I J R T) cz kz = bif decide (a2 < (3 : Int32)) then G 43 57 [.ref 0, .int a0, .int a1] [] (ev_hp I J R T) cz kz else G 43 54 [.ref 0, .int a0, .int a1] [] (ev_hp I J R T) cz kz := by
  intro G
  rfl
set_option maxRecDepth 100000 in
theorem sx_r11 {a0 : Int32} {a1 : Int32} : ∀ G : ez_F, fx_up X 5 G 43 57 [.ref 0, .int a0, .int a1] [] (ev_hp I J R T) cz kz = ev_C G 85 [.ref 3, .int a0, .int a1] (ev_hp I J R T) fun r h1 c1 k1 => G 43 66 [.ref 0, .int a0, .int a1] (r.toList ++ []) h1 (cz + c1) (kz + k1) := by
  intro G
  rfl
set_option maxRecDepth 100000 in
theorem sx_r12 {a0 : Int32} {a1 : Int32} : ∀ G : ez_F, fx_up X 2 G 43 54 [.ref 0, .int a0, .int a1] [] (ev_hp I J R T) cz kz = some (some (.int (-5 : Int32)), (ev_hp I J R T), cz, kz) := by
  intro G
  rfl
set_option maxRecDepth 100000 in
theorem sx_r13 {a0 : Int32} {a1 : Int32} : ∀ G : ez_F, fx_up X 2 G 43 40 [.ref 0, .int a0, .int a1] [] (ev_hp I J R T) cz kz = some (some (.int (-4 : Int32)), (ev_hp I J R T), cz, kz) := by
  intro G
  rfl
theorem sx_0 {x y : Int32}
    (H : (((ev_wi x (1 : Int32) (65535 : Int32)) = (0 : Int32) → Q (some (.int (-3 : Int32))) (ev_hp I J R T)) ∧ (¬ ((ev_wi x (1 : Int32) (65535 : Int32)) = (0 : Int32)) → (((5 : Int32) < (ev_bcI x) → Q (some (.int (-3 : Int32))) (ev_hp I J R T)) ∧ (¬ ((5 : Int32) < (ev_bcI x)) → ((¬ (ev_wi y (0 : Int32) (2 : Int32)) = (0 : Int32) → (((I 8 1) ≤ (0 : Int32) → (((I 3 3) < (3 : Int32) → (∃ Q1 : pw_Q, pe N X 85 [.ref 3, .int x, .int y] (ev_hp I J R T) Q1 ∧ ∀ (r : Option Value) (h1 : ez_H), Q1 r h1 → pw N X 43 66 [.ref 0, .int x, .int y] (r.toList ++ []) h1 Q)) ∧ (¬ ((I 3 3) < (3 : Int32)) → Q (some (.int (-5 : Int32))) (ev_hp I J R T)))) ∧ (¬ ((I 8 1) ≤ (0 : Int32)) → Q (some (.int (-4 : Int32))) (ev_hp I J R T)))) ∧ (¬ (¬ (ev_wi y (0 : Int32) (2 : Int32)) = (0 : Int32)) → Q (some (.int (-3 : Int32))) (ev_hp I J R T)))))))) : pw (N + 1) X 43 0 [.ref 0, .int x, .int y] [] (ev_hp I J R T) Q := by
  refine pw_callp (by decide) (fun _ _ => sx_r0) (pe_is (ec_within _ _ _ _ _)) ?_
  refine pw_p (pw_if (by decide) (fun _ _ => sx_r1) (fun w1 => ?_) (fun w1 => ?_))
  · have h1 := H.1 w1
    exact pw_p (pw_ret (by decide) (fun _ _ => sx_r2) h1)
  · have h1 := H.2 w1
    refine pw_p (pw_callp (by decide) (fun _ _ => sx_r3) (pe_is (ec_bcI _ _ _)) ?_)
    refine pw_p (pw_if (by decide) (fun _ _ => sx_r4) (fun w2 => ?_) (fun w2 => ?_))
    · have h2 := h1.1 w2
      exact pw_p (pw_ret (by decide) (fun _ _ => sx_r2) h2)
    · have h2 := h1.2 w2
      refine pw_p (pw_callp (by decide) (fun _ _ => sx_r5) (pe_is (ec_within _ _ _ _ _)) ?_)
      refine pw_p (pw_if (by decide) (fun _ _ => sx_r6) (fun w3 => ?_) (fun w3 => ?_))
      · have h3 := h2.1 w3
        refine pw_p (pw_seg (by decide) (fun _ _ => sx_r7) ?_)
        refine pw_p (pw_if (by decide) (fun _ _ => sx_r8) (fun w4 => ?_) (fun w4 => ?_))
        · have h4 := h3.1 w4
          refine pw_p (pw_seg (by decide) (fun _ _ => sx_r9) ?_)
          refine pw_p (pw_if (by decide) (fun _ _ => sx_r10) (fun w5 => ?_) (fun w5 => ?_))
          · have h5 := h4.1 w5
            obtain ⟨Q1, hc, hk⟩ := h5
            exact pw_p (pw_call (by decide) (fun _ _ => sx_r11) hc hk)
          · have h5 := h4.2 w5
            exact pw_p (pw_ret (by decide) (fun _ _ => sx_r12) h5)
        · have h4 := h3.2 w4
          exact pw_p (pw_ret (by decide) (fun _ _ => sx_r13) h4)
      · have h3 := h2.2 w3
        exact pw_p (pw_ret (by decide) (fun _ _ => sx_r2) h3)
set_option maxRecDepth 100000 in
theorem sx_r14 {a0 : Int32} {a1 : Int32} {a2 : Int32} : ∀ G : ez_F, fx_up X 3 G 43 66 [.ref 0, .int a0, .int a1] [.int a2] (ev_hp I J R T) cz kz = ev_C G 28 [.ref 0] (ev_hp I J R T) fun r h1 c1 k1 => G 43 71 [.ref 0, .int a0, .int a1, .int a2] (r.toList ++ []) h1 (cz + c1) (kz + k1) := by
  intro G
  rfl
theorem sx_66 {x y v : Int32}
    (H : (∃ Q1 : pw_Q, pe N X 28 [.ref 0] (ev_hp I J R T) Q1 ∧ ∀ (r : Option Value) (h1 : ez_H), Q1 r h1 → pw N X 43 71 [.ref 0, .int x, .int y, .int v] (r.toList ++ []) h1 Q)) : pw (N + 1) X 43 66 [.ref 0, .int x, .int y] [.int v] (ev_hp I J R T) Q := by
  obtain ⟨Q1, hc, hk⟩ := H
  exact pw_call (by decide) (fun _ _ => sx_r14) hc hk
set_option maxRecDepth 100000 in
theorem sx_r15 {a0 : Int32} {a1 : Int32} {a2 : Int32} : ∀ G : ez_F, fx_up X 2 G 43 71 [.ref 0, .int a0, .int a1, .int a2] [] (ev_hp I J R T) cz kz = some (some (.int a2), (ev_hp I J R T), cz, kz) := by
  intro G
  rfl
theorem sx_71 {x y v : Int32}
    (H : Q (some (.int v)) (ev_hp I J R T)) : pw (N + 1) X 43 71 [.ref 0, .int x, .int y, .int v] [] (ev_hp I J R T) Q := by
  exact pw_ret (by decide) (fun _ _ => sx_r15) H
end
section
variable {N : Nat} {X : ez_X} {I : Nat → Nat → Int32} {J : Nat → Nat → Int64} {R : Nat → Nat} {T : List ez_C} {Q : pw_Q} {cz kz : Nat}
set_option maxRecDepth 100000 in
theorem sq_r0 {a0 : Int32} : ∀ G : ez_F, fx_up X 3 G 46 0 [.ref 0, .int a0] [] (ev_hp I J R T) cz kz = ev_C G 25 [.ref 0, .int a0] (ev_hp I J R T) fun r h1 c1 k1 => G 46 5 [.ref 0, .int a0] (r.toList ++ []) h1 (cz + c1) (kz + k1) := by
  intro G
  rfl
set_option maxRecDepth 100000 in
theorem sq_r1 {a0 : Int32} {a1 : Int32} : ∀ G : ez_F, fx_up X 1 G 46 5 [.ref 0, .int a0] [.int a1] (ev_hp I J R T) cz kz = bif decide (a1 = (0 : Int32)) then G 46 19 [.ref 0, .int a0] [] (ev_hp I J R T) cz kz else G 46 8 [.ref 0, .int a0] [] (ev_hp I J R T) cz kz := by
  intro G
  rfl
set_option maxRecDepth 100000 in
theorem sq_r2 {a0 : Int32} : ∀ G : ez_F, fx_up X 2 G 46 19 [.ref 0, .int a0] [] (ev_hp I J R T) cz kz = some (some (.int (-2 : Int32)), (ev_hp I J R T), cz, kz) := by
  intro G
  rfl
set_option maxRecDepth 100000 in
theorem sq_r3 {a0 : Int32} : ∀ G : ez_F, fx_up X 4 G 46 8 [.ref 0, .int a0] [] (ev_hp I J R T) cz kz = ev_C G 94 [.ref 3, .int a0] (ev_hp I J R T) fun r h1 c1 k1 => G 46 16 [.ref 0, .int a0] (r.toList ++ []) h1 (cz + c1) (kz + k1) := by
  intro G
  rfl
set_option maxRecDepth 100000 in
theorem sq_r4 {a0 : Int32} {a1 : Int32} : ∀ G : ez_F, fx_up X 2 G 46 16 [.ref 0, .int a0] [.int a1] (ev_hp I J R T) cz kz = some (some (.int a1), (ev_hp I J R T), cz, kz) := by
  intro G
  rfl
theorem sq_0 {x : Int32}
    (H : (((ev_wi x (0 : Int32) ((I 3 3) - (1 : Int32))) = (0 : Int32) → Q (some (.int (-2 : Int32))) (ev_hp I J R T)) ∧ (¬ ((ev_wi x (0 : Int32) ((I 3 3) - (1 : Int32))) = (0 : Int32)) → Q (some (.int (sz_F I x))) (ev_hp I J R T)))) : pw (N + 1) X 46 0 [.ref 0, .int x] [] (ev_hp I J R T) Q := by
  refine pw_callp (by decide) (fun _ _ => sq_r0) (pe_is (eg_isShip _ _ _ _ _ _)) ?_
  refine pw_p (pw_if (by decide) (fun _ _ => sq_r1) (fun w1 => ?_) (fun w1 => ?_))
  · have h1 := H.1 w1
    exact pw_p (pw_ret (by decide) (fun _ _ => sq_r2) h1)
  · have h1 := H.2 w1
    refine pw_p (pw_callp (by decide) (fun _ _ => sq_r3) (pe_sizeOf) ?_)
    exact pw_p (pw_ret (by decide) (fun _ _ => sq_r4) h1)
set_option maxRecDepth 100000 in
theorem sq_r5 {a0 : Int32} {a1 : Int32} : ∀ G : ez_F, fx_up X 3 G 44 0 [.ref 0, .int a0, .int a1] [] (ev_hp I J R T) cz kz = ev_C G 25 [.ref 0, .int a0] (ev_hp I J R T) fun r h1 c1 k1 => G 44 5 [.ref 0, .int a0, .int a1] (r.toList ++ []) h1 (cz + c1) (kz + k1) := by
  intro G
  rfl
set_option maxRecDepth 100000 in
theorem sq_r6 {a0 : Int32} {a1 : Int32} {a2 : Int32} : ∀ G : ez_F, fx_up X 1 G 44 5 [.ref 0, .int a0, .int a1] [.int a2] (ev_hp I J R T) cz kz = bif decide (¬ a2 = (0 : Int32)) then G 44 12 [.ref 0, .int a0, .int a1] [] (ev_hp I J R T) cz kz else G 44 8 [.ref 0, .int a0, .int a1] [] (ev_hp I J R T) cz kz := by
  intro G
  rfl
set_option maxRecDepth 100000 in
theorem sq_r7 {a0 : Int32} {a1 : Int32} : ∀ G : ez_F, fx_up X 6 G 44 12 [.ref 0, .int a0, .int a1] [] (ev_hp I J R T) cz kz = ev_C G 94 [.ref 3, .int a0] (ev_hp I J R T) fun r h1 c1 k1 => G 44 22 [.ref 0, .int a0, .int a1] (r.toList ++ [.int (0 : Int32), .int a1]) h1 (cz + c1) (kz + k1) := by
  intro G
  rfl
set_option maxRecDepth 100000 in
theorem sq_r8 {a0 : Int32} {a1 : Int32} {a2 : Int32} {a3 : Int32} {a4 : Int32} : ∀ G : ez_F, fx_up X 3 G 44 22 [.ref 0, .int a0, .int a1] [.int a2, .int a3, .int a4] (ev_hp I J R T) cz kz = ev_C G 55 [.int a4, .int a3, .int (a2 - (1 : Int32))] (ev_hp I J R T) fun r h1 c1 k1 => G 44 27 [.ref 0, .int a0, .int a1] (r.toList ++ []) h1 (cz + c1) (kz + k1) := by
  intro G
  rfl
set_option maxRecDepth 100000 in
theorem sq_r9 {a0 : Int32} {a1 : Int32} {a2 : Int32} : ∀ G : ez_F, fx_up X 1 G 44 27 [.ref 0, .int a0, .int a1] [.int a2] (ev_hp I J R T) cz kz = bif decide (a2 = (0 : Int32)) then G 44 42 [.ref 0, .int a0, .int a1] [] (ev_hp I J R T) cz kz else G 44 30 [.ref 0, .int a0, .int a1] [] (ev_hp I J R T) cz kz := by
  intro G
  rfl
set_option maxRecDepth 100000 in
theorem sq_r10 {a0 : Int32} {a1 : Int32} : ∀ G : ez_F, fx_up X 2 G 44 42 [.ref 0, .int a0, .int a1] [] (ev_hp I J R T) cz kz = some (some (.long (18446744073709551613 : Int64)), (ev_hp I J R T), cz, kz) := by
  intro G
  rfl
set_option maxRecDepth 100000 in
theorem sq_r11 {a0 : Int32} {a1 : Int32} : ∀ G : ez_F, fx_up X 5 G 44 30 [.ref 0, .int a0, .int a1] [] (ev_hp I J R T) cz kz = ev_C G 86 [.ref 3, .int a0, .int a1] (ev_hp I J R T) fun r h1 c1 k1 => G 44 39 [.ref 0, .int a0, .int a1] (r.toList ++ []) h1 (cz + c1) (kz + k1) := by
  intro G
  rfl
set_option maxRecDepth 100000 in
theorem sq_r12 {a0 : Int32} {a1 : Int32} {a2 : Int64} : ∀ G : ez_F, fx_up X 2 G 44 39 [.ref 0, .int a0, .int a1] [.long a2] (ev_hp I J R T) cz kz = some (some (.long a2), (ev_hp I J R T), cz, kz) := by
  intro G
  rfl
set_option maxRecDepth 100000 in
theorem sq_r13 {a0 : Int32} {a1 : Int32} : ∀ G : ez_F, fx_up X 2 G 44 8 [.ref 0, .int a0, .int a1] [] (ev_hp I J R T) cz kz = some (some (.long (18446744073709551614 : Int64)), (ev_hp I J R T), cz, kz) := by
  intro G
  rfl
theorem sr_0 {x y : Int32}
    (H : ((¬ (ev_wi x (0 : Int32) ((I 3 3) - (1 : Int32))) = (0 : Int32) → (((ev_wi y (0 : Int32) ((sz_F I x) - (1 : Int32))) = (0 : Int32) → Q (some (.long (18446744073709551613 : Int64))) (ev_hp I J R T)) ∧ (¬ ((ev_wi y (0 : Int32) ((sz_F I x) - (1 : Int32))) = (0 : Int32)) → Q (some (.long (cl_F I J x y))) (ev_hp I J R T)))) ∧ (¬ (¬ (ev_wi x (0 : Int32) ((I 3 3) - (1 : Int32))) = (0 : Int32)) → Q (some (.long (18446744073709551614 : Int64))) (ev_hp I J R T)))) : pw (N + 1) X 44 0 [.ref 0, .int x, .int y] [] (ev_hp I J R T) Q := by
  refine pw_callp (by decide) (fun _ _ => sq_r5) (pe_is (eg_isShip _ _ _ _ _ _)) ?_
  refine pw_p (pw_if (by decide) (fun _ _ => sq_r6) (fun w1 => ?_) (fun w1 => ?_))
  · have h1 := H.1 w1
    refine pw_p (pw_callp (by decide) (fun _ _ => sq_r7) (pe_sizeOf) ?_)
    refine pw_p (pw_callp (by decide) (fun _ _ => sq_r8) (pe_is (ec_within _ _ _ _ _)) ?_)
    refine pw_p (pw_if (by decide) (fun _ _ => sq_r9) (fun w2 => ?_) (fun w2 => ?_))
    · have h2 := h1.1 w2
      exact pw_p (pw_ret (by decide) (fun _ _ => sq_r10) h2)
    · have h2 := h1.2 w2
      refine pw_p (pw_callp (by decide) (fun _ _ => sq_r11) (pe_cellsAt) ?_)
      exact pw_p (pw_ret (by decide) (fun _ _ => sq_r12) h2)
  · have h1 := H.2 w1
    exact pw_p (pw_ret (by decide) (fun _ _ => sq_r13) h1)
set_option maxRecDepth 100000 in
theorem sq_r14 {a0 : Int32} : ∀ G : ez_F, fx_up X 3 G 223 0 [.ref 35, .int a0] [] (ev_hp I J R T) cz kz = ev_C G 204 [.ref 35, .int a0] (ev_hp I J R T) fun r h1 c1 k1 => G 223 5 [.ref 35, .int a0] (r.toList ++ []) h1 (cz + c1) (kz + k1) := by
  intro G
  rfl
set_option maxRecDepth 100000 in
theorem sq_r15 {a0 : Int32} {a1 : Int32} : ∀ G : ez_F, fx_up X 1 G 223 5 [.ref 35, .int a0] [.int a1] (ev_hp I J R T) cz kz = bif decide (¬ a1 = (0 : Int32)) then G 223 11 [.ref 35, .int a0] [] (ev_hp I J R T) cz kz else G 223 8 [.ref 35, .int a0] [] (ev_hp I J R T) cz kz := by
  intro G
  rfl
set_option maxRecDepth 100000 in
theorem sq_r16 {a0 : Int32} : ∀ G : ez_F, fx_up X 3 G 223 11 [.ref 35, .int a0] [] (ev_hp I J R T) cz kz = ev_C G 190 [.ref 35, .int a0] (ev_hp I J R T) fun r h1 c1 k1 => G 223 16 [.ref 35, .int a0] (r.toList ++ []) h1 (cz + c1) (kz + k1) := by
  intro G
  rfl
set_option maxRecDepth 100000 in
theorem sq_r17 {a0 : Int32} : ∀ G : ez_F, fx_up X 2 G 223 8 [.ref 35, .int a0] [] (ev_hp I J R T) cz kz = some (some (.int (-2 : Int32)), (ev_hp I J R T), cz, kz) := by
  intro G
  rfl
theorem ms_0 {x : Int32}
    (H : ((¬ (ev_il x.toInt64 (0 : Int64) ((I 35 3) - (1 : Int32)).toInt64) = (0 : Int32) → (∃ Q1 : pw_Q, pe N X 190 [.ref 35, .int x] (ev_hp I J R T) Q1 ∧ ∀ (r : Option Value) (h1 : ez_H), Q1 r h1 → pw N X 223 16 [.ref 35, .int x] (r.toList ++ []) h1 Q)) ∧ (¬ (¬ (ev_il x.toInt64 (0 : Int64) ((I 35 3) - (1 : Int32)).toInt64) = (0 : Int32)) → Q (some (.int (-2 : Int32))) (ev_hp I J R T)))) : pw (N + 1) X 223 0 [.ref 35, .int x] [] (ev_hp I J R T) Q := by
  refine pw_callp (by decide) (fun _ _ => sq_r14) (pe_is (em_isShip _ _ _ _ _ _)) ?_
  refine pw_p (pw_if (by decide) (fun _ _ => sq_r15) (fun w1 => ?_) (fun w1 => ?_))
  · have h1 := H.1 w1
    obtain ⟨Q1, hc, hk⟩ := h1
    exact pw_p (pw_call (by decide) (fun _ _ => sq_r16) hc hk)
  · have h1 := H.2 w1
    exact pw_p (pw_ret (by decide) (fun _ _ => sq_r17) h1)
set_option maxRecDepth 100000 in
theorem sq_r18 {a0 : Int32} : ∀ G : ez_F, fx_up X 3 G 223 16 [.ref 35, .int a0] [] (ev_hp I J R T) cz kz = G 223 21 [.ref 35, .int a0] [.int a0, .ref 38] (ev_hp I J R T) cz kz := by
  intro G
  rfl
set_option maxRecDepth 100000 in
theorem sq_r19 {a0 : Int32} {a1 : Int32} : ∀ G : ez_F, fx_up X 1 G 223 22 [.ref 35, .int a0] [.int a1] (ev_hp I J R T) cz kz = some (some (.int a1), (ev_hp I J R T), cz, kz) := by
  intro G
  rfl
theorem ms_16 {x : Int32}
    (H : (ev_ix x 3 → Q (some (.int (I 38 x.toNatClampNeg))) (ev_hp I J R T))) : pw (N + 1) X 223 16 [.ref 35, .int x] [] (ev_hp I J R T) Q := by
  refine pw_seg (by decide) (fun _ _ => sq_r18) ?_
  refine pw_p (pw_iald (by rfl) (cx_getI (show cx_Ds[38]? = some (0, 3, []) from rfl)) (fun w1 => ?_))
  have h1 := H w1
  exact pw_p (pw_ret (by decide) (fun _ _ => sq_r19) h1)
set_option maxRecDepth 100000 in
theorem sq_r20 {a0 : Int32} {a1 : Int32} : ∀ G : ez_F, fx_up X 3 G 222 0 [.ref 35, .int a0, .int a1] [] (ev_hp I J R T) cz kz = ev_C G 204 [.ref 35, .int a0] (ev_hp I J R T) fun r h1 c1 k1 => G 222 5 [.ref 35, .int a0, .int a1] (r.toList ++ []) h1 (cz + c1) (kz + k1) := by
  intro G
  rfl
set_option maxRecDepth 100000 in
theorem sq_r21 {a0 : Int32} {a1 : Int32} {a2 : Int32} : ∀ G : ez_F, fx_up X 1 G 222 5 [.ref 35, .int a0, .int a1] [.int a2] (ev_hp I J R T) cz kz = bif decide (¬ a2 = (0 : Int32)) then G 222 12 [.ref 35, .int a0, .int a1] [] (ev_hp I J R T) cz kz else G 222 8 [.ref 35, .int a0, .int a1] [] (ev_hp I J R T) cz kz := by
  intro G
  rfl
set_option maxRecDepth 100000 in
theorem sq_r22 {a0 : Int32} {a1 : Int32} : ∀ G : ez_F, fx_up X 3 G 222 12 [.ref 35, .int a0, .int a1] [] (ev_hp I J R T) cz kz = ev_C G 190 [.ref 35, .int a0] (ev_hp I J R T) fun r h1 c1 k1 => G 222 17 [.ref 35, .int a0, .int a1] (r.toList ++ []) h1 (cz + c1) (kz + k1) := by
  intro G
  rfl
set_option maxRecDepth 100000 in
theorem sq_r23 {a0 : Int32} {a1 : Int32} : ∀ G : ez_F, fx_up X 2 G 222 8 [.ref 35, .int a0, .int a1] [] (ev_hp I J R T) cz kz = some (some (.long (18446744073709551614 : Int64)), (ev_hp I J R T), cz, kz) := by
  intro G
  rfl
theorem mt_0 {x y : Int32}
    (H : ((¬ (ev_il x.toInt64 (0 : Int64) ((I 35 3) - (1 : Int32)).toInt64) = (0 : Int32) → (∃ Q1 : pw_Q, pe N X 190 [.ref 35, .int x] (ev_hp I J R T) Q1 ∧ ∀ (r : Option Value) (h1 : ez_H), Q1 r h1 → pw N X 222 17 [.ref 35, .int x, .int y] (r.toList ++ []) h1 Q)) ∧ (¬ (¬ (ev_il x.toInt64 (0 : Int64) ((I 35 3) - (1 : Int32)).toInt64) = (0 : Int32)) → Q (some (.long (18446744073709551614 : Int64))) (ev_hp I J R T)))) : pw (N + 1) X 222 0 [.ref 35, .int x, .int y] [] (ev_hp I J R T) Q := by
  refine pw_callp (by decide) (fun _ _ => sq_r20) (pe_is (em_isShip _ _ _ _ _ _)) ?_
  refine pw_p (pw_if (by decide) (fun _ _ => sq_r21) (fun w1 => ?_) (fun w1 => ?_))
  · have h1 := H.1 w1
    obtain ⟨Q1, hc, hk⟩ := h1
    exact pw_p (pw_call (by decide) (fun _ _ => sq_r22) hc hk)
  · have h1 := H.2 w1
    exact pw_p (pw_ret (by decide) (fun _ _ => sq_r23) h1)
set_option maxRecDepth 100000 in
theorem sq_r24 {a0 : Int32} {a1 : Int32} : ∀ G : ez_F, fx_up X 6 G 222 17 [.ref 35, .int a0, .int a1] [] (ev_hp I J R T) cz kz = G 222 25 [.ref 35, .int a0, .int a1] [.int a0, .ref 38, .long (0 : Int64), .long a1.toInt64] (ev_hp I J R T) cz kz := by
  intro G
  rfl
set_option maxRecDepth 100000 in
theorem sq_r25 {a0 : Int32} {a1 : Int32} {a2 : Int32} {a3 : Int64} {a4 : Int64} : ∀ G : ez_F, fx_up X 4 G 222 26 [.ref 35, .int a0, .int a1] [.int a2, .long a3, .long a4] (ev_hp I J R T) cz kz = ev_C G 198 [.long a4, .long a3, .long (a2 - (1 : Int32)).toInt64] (ev_hp I J R T) fun r h1 c1 k1 => G 222 32 [.ref 35, .int a0, .int a1] (r.toList ++ []) h1 (cz + c1) (kz + k1) := by
  intro G
  rfl
set_option maxRecDepth 100000 in
theorem sq_r26 {a0 : Int32} {a1 : Int32} {a2 : Int32} : ∀ G : ez_F, fx_up X 1 G 222 32 [.ref 35, .int a0, .int a1] [.int a2] (ev_hp I J R T) cz kz = bif decide (a2 = (0 : Int32)) then G 222 50 [.ref 35, .int a0, .int a1] [] (ev_hp I J R T) cz kz else G 222 35 [.ref 35, .int a0, .int a1] [] (ev_hp I J R T) cz kz := by
  intro G
  rfl
set_option maxRecDepth 100000 in
theorem sq_r27 {a0 : Int32} {a1 : Int32} : ∀ G : ez_F, fx_up X 2 G 222 50 [.ref 35, .int a0, .int a1] [] (ev_hp I J R T) cz kz = some (some (.long (18446744073709551613 : Int64)), (ev_hp I J R T), cz, kz) := by
  intro G
  rfl
set_option maxRecDepth 100000 in
theorem sq_r28 {a0 : Int32} {a1 : Int32} : ∀ G : ez_F, fx_up X 7 G 222 35 [.ref 35, .int a0, .int a1] [] (ev_hp I J R T) cz kz = G 222 46 [.ref 35, .int a0, .int a1] [.int (((300 : Int32) * a0) + a1), .ref 39] (ev_hp I J R T) cz kz := by
  intro G
  rfl
set_option maxRecDepth 100000 in
theorem sq_r29 {a0 : Int32} {a1 : Int32} {a2 : Int64} : ∀ G : ez_F, fx_up X 2 G 222 47 [.ref 35, .int a0, .int a1] [.long a2] (ev_hp I J R T) cz kz = some (some (.long a2), (ev_hp I J R T), cz, kz) := by
  intro G
  rfl
theorem mt_17 {x y : Int32}
    (H : (ev_ix x 3 → (((ev_il y.toInt64 (0 : Int64) (((I 38 x.toNatClampNeg) - (1 : Int32)).toInt64)) = (0 : Int32) → Q (some (.long (18446744073709551613 : Int64))) (ev_hp I J R T)) ∧ (¬ ((ev_il y.toInt64 (0 : Int64) (((I 38 x.toNatClampNeg) - (1 : Int32)).toInt64)) = (0 : Int32)) → (ev_ix (((300 : Int32) * x) + y) 900 → Q (some (.long (J 39 (((300 : Int32) * x) + y).toNatClampNeg))) (ev_hp I J R T)))))) : pw (N + 1) X 222 17 [.ref 35, .int x, .int y] [] (ev_hp I J R T) Q := by
  refine pw_seg (by decide) (fun _ _ => sq_r24) ?_
  refine pw_p (pw_iald (by rfl) (cx_getI (show cx_Ds[38]? = some (0, 3, []) from rfl)) (fun w1 => ?_))
  have h1 := H w1
  refine pw_p (pw_callp (by decide) (fun _ _ => sq_r25) (pe_is (ec_in _ _ _ _ _)) ?_)
  refine pw_p (pw_if (by decide) (fun _ _ => sq_r26) (fun w1 => ?_) (fun w1 => ?_))
  · have h1 := h1.1 w1
    exact pw_p (pw_ret (by decide) (fun _ _ => sq_r27) h1)
  · have h1 := h1.2 w1
    refine pw_p (pw_seg (by decide) (fun _ _ => sq_r28) ?_)
    refine pw_p (pw_lald (by rfl) (cx_getJ (show cx_Ds[39]? = some (1, 900, []) from rfl)) (fun w2 => ?_))
    have h2 := h1 w2
    exact pw_p (pw_ret (by decide) (fun _ _ => sq_r29) h2)
end
/-- a ship behind the class's call -/
def sx_Q (I : Nat → Nat → Int32) (J : Nat → Nat → Int64) (x y : Int32) : pw_Q := fun _ h => ∃ I' J' R' T', h = ev_hp I' J' R' T' ∧ ((I' 5 = I 5 ∧ J' 4 = J 4 ∧ I' 3 3 = I 3 3) ∨
  ∃ sh tn ns : Nat, x = Int32.ofNat sh ∧ sh < 65536 ∧ y = Int32.ofNat tn ∧ tn < 3 ∧ ns < 3 ∧ I 3 3 = Int32.ofNat ns ∧ I' 3 3 = Int32.ofNat (ns + 1) ∧ ∃ I2 J2, fl I J ns (sp_M (I 1 3) (I 1 4) (I 1 5) sh (sp_k tn)) I2 J2 ∧ I' 5 = I2 5 ∧ J' 4 = J2 4)
section
variable {N : Nat} {X : ez_X} {I : Nat → Nat → Int32} {J : Nat → Nat → Int64} {R : Nat → Nat} {T : List ez_C} {x y : Int32}
theorem wi_nat {a : Int32} {u v : Nat} (hv : v < 2147483648) (h : ¬ ev_wi a (Int32.ofNat u) (Int32.ofNat v) = 0) (hu : u < 2147483648) : ∃ n, a = Int32.ofNat n ∧ u ≤ n ∧ n ≤ v := by
  obtain ⟨h1, h2⟩ := ev_wi_ne h
  rw [io_ti hu] at h1
  rw [io_ti hv] at h2
  exact ⟨a.toInt.toNat, io_nat (by omega), by omega, by omega⟩
theorem pe_ship (hB : cx_hB cx_B0 I) : pe N X 43 [.ref 0, .int x, .int y] (ev_hp I J R T) (sx_Q I J x y) := by
  have hW := hB 1 3
  have hH := hB 1 4
  have hwr := hB 1 5
  have hns := hB 3 3
  rw [show cx_B0 1 3 = (2, 6) from rfl] at hW
  rw [show cx_B0 1 4 = (2, 6) from rfl] at hH
  rw [show cx_B0 1 5 = (0, 1) from rfl] at hwr
  rw [show cx_B0 3 3 = (0, 3) from rfl] at hns
  simp only at hW hH hwr hns
  have hwr := cx_01 hwr.1 hwr.2
  have refused : ∀ v, sx_Q I J x y (some (.int v)) (ev_hp I J R T) := fun v => ⟨I, J, R, T, rfl, Or.inl ⟨rfl, rfl, rfl⟩⟩
  refine pe_of (pw_p (sx_0 ⟨fun _ => refused _, fun h1 => ⟨fun _ => refused _, fun _ => ⟨fun h2 => ⟨fun _ => ⟨fun h3 => ?_, fun _ => refused _⟩, fun _ => refused _⟩, fun _ => refused _⟩⟩⟩))
  obtain ⟨sh, rfl, s1, s2⟩ := wi_nat (u := 1) (v := 65535) (by omega) h1 (by omega)
  obtain ⟨tn, rfl, -, t2⟩ := wi_nat (u := 0) (v := 2) (by omega) h2 (by omega)
  obtain ⟨ns, e3, n1⟩ : ∃ ns : Nat, I 3 3 = Int32.ofNat ns ∧ ns < 3 := by
    rw [Int32.lt_iff_toInt_lt, show (3 : Int32).toInt = 3 from by decide] at h3
    exact ⟨(I 3 3).toInt.toNat, io_nat hns.1, by omega⟩
  refine ⟨_, pe_build n1 e3 hwr hW hH (by omega) (by omega), ?_⟩
  rintro r h ⟨rfl, I2, J2, rfl, h2⟩
  refine pw_p (sx_66 ⟨_, pe_W (ea_S_layingsChanged_28_0 X _ _ R T), ?_⟩)
  rintro r h ⟨_, _, rfl, rfl, -⟩
  refine pw_p (sx_71 ⟨_, _, _, _, rfl, Or.inr ⟨sh, tn, ns, rfl, by omega, rfl, by omega, n1, e3, ?_, I2, J2, h2, ?_, rfl⟩⟩)
  · rw [cx_sI_n _ _ (by decide), cx_sI_n _ _ (by decide), cx_sI_n _ _ (by decide), cx_sI_n _ _ (by decide), cx_sI_s, upd_s]
  · rw [cx_sI_n _ _ (by decide), cx_sI_n _ _ (by decide), cx_sI_n _ _ (by decide), cx_sI_n _ _ (by decide), cx_sI_n _ _ (by decide)]
theorem il_ship (a b : Int32) : ev_il a.toInt64 (0 : Int64) (b - (1 : Int32)).toInt64 = ev_wi a 0 (b - 1) := il_0 a (b - 1)
def mi_spots (n : Nat → Nat) (ns : Nat) (x : Int32) : Int32 := if ev_wi x 0 (Int32.ofNat ns - 1) = 0 then -2 else Int32.ofNat (n x.toInt.toNat)
def mi_spot (n : Nat → Nat) (f : Nat → Nat → Int64) (ns : Nat) (x y : Int32) : Int64 := if ev_wi x 0 (Int32.ofNat ns - 1) = 0 then 18446744073709551614 else if ev_wi y 0 (Int32.ofNat (n x.toInt.toNat) - 1) = 0 then 18446744073709551613 else f x.toInt.toNat y.toInt.toNat
theorem wi_lt {a : Int32} {n : Nat} (hn : n < 2147483648) (h : ¬ ev_wi a 0 (Int32.ofNat n - 1) = 0) : ∃ j, a = Int32.ofNat j ∧ j < n := by
  obtain ⟨h1, h2⟩ := ev_wi_ne h
  rw [show (0 : Int32).toInt = 0 from by decide] at h1
  have hn0 : 1 ≤ n := by
    apply Classical.byContradiction
    intro hz
    obtain rfl : n = 0 := by omega
    rw [show (Int32.ofNat 0 - 1 : Int32).toInt = -1 from by decide] at h2
    omega
  rw [show (1 : Int32) = Int32.ofNat 1 from rfl, io_sub hn0, io_ti (by omega)] at h2
  exact ⟨a.toInt.toNat, io_nat h1, by omega⟩
theorem pe_spots {n : Nat → Nat} {ns : Nat} (h3 : I 3 3 = Int32.ofNat ns) (hn : ns ≤ 3) (h5 : ∀ s, s < ns → I 5 s = Int32.ofNat (n s)) : pe N X 46 [.ref 0, .int x] (ev_hp I J R T) (fun r h => r = some (.int (mi_spots n ns x)) ∧ h = ev_hp I J R T) := by
  unfold mi_spots
  refine pe_of (pw_p (sq_0 ⟨fun h => ?_, fun h => ?_⟩))
  · rw [h3] at h
    rw [if_pos h]
    exact ⟨rfl, rfl⟩
  · rw [h3] at h
    rw [if_neg h]
    obtain ⟨s, rfl, hs⟩ := wi_lt (by omega) h
    rw [sz_in h3 hs hn, h5 s hs, io_ti (by omega)]
    exact ⟨rfl, rfl⟩
theorem pe_spot {n : Nat → Nat} {f : Nat → Nat → Int64} {ns : Nat} (h3 : I 3 3 = Int32.ofNat ns) (hn : ns ≤ 3) (h5 : ∀ s, s < ns → I 5 s = Int32.ofNat (n s) ∧ n s ≤ 288) (h4 : ∀ s k, s < ns → k < n s → J 4 (288 * s + k) = f s k) :
    pe N X 44 [.ref 0, .int x, .int y] (ev_hp I J R T) (fun r h => r = some (.long (mi_spot n f ns x y)) ∧ h = ev_hp I J R T) := by
  unfold mi_spot
  refine pe_of (pw_p (sr_0 ⟨fun h => ⟨fun h2 => ?_, fun h2 => ?_⟩, fun h => ?_⟩))
  · rw [h3] at h
    rw [if_neg h]
    obtain ⟨s, rfl, hs⟩ := wi_lt (by omega) h
    rw [sz_in h3 hs hn, (h5 s hs).1] at h2
    rw [io_ti (by omega), show ((s : Nat) : Int).toNat = s from by omega, if_pos h2]
    exact ⟨rfl, rfl⟩
  · rw [h3] at h
    rw [if_neg h]
    obtain ⟨s, rfl, hs⟩ := wi_lt (by omega) h
    obtain ⟨e5, l5⟩ := h5 s hs
    rw [sz_in h3 hs hn, e5] at h2
    rw [io_ti (by omega), show ((s : Nat) : Int).toNat = s from by omega, if_neg h2]
    obtain ⟨k, rfl, hk⟩ := wi_lt (by omega) h2
    rw [cl_in h3 hs hn (by omega), h4 s k hs hk, io_ti (by omega)]
    exact ⟨rfl, rfl⟩
  · rw [h3] at h
    rw [if_pos (Classical.not_not.mp h)]
    exact ⟨rfl, rfl⟩
/-- the reference's row is the class's -/
def fi1 (I : Nat → Nat → Int32) (s sh tn : Nat) : Prop := sh < 65536 ∧ tn < 3 ∧ I 36 s = Int32.ofNat sh ∧ I 37 s = Int32.ofNat tn
def mr_row (I : Nat → Nat → Int32) (s : Nat) (n : Nat) (f : Nat → Int64) : Prop := ∃ sh tn, fi1 I s sh tn ∧ srt f 0 n ∧ n ≤ 288 ∧ ∀ w, inrow f 0 n w ↔ sp_M (I 35 0) (I 35 1) (I 35 2) sh (sp_k tn) w
theorem mr_find {s n : Nat} {f : Nat → Int64} (hB : cx_hB cx_B0 I) (hs : s < 3) (h : mr_row I s n f) : pe N X 190 [.ref 35, .int (Int32.ofNat s)] (ev_hp I J R T) (fun r h => r = none ∧ ∃ f' g, h = ev_hp (ev_sI I 38 (upd (I 38) s (Int32.ofNat n))) (ev_sJ (ev_sJ J 39 f') 40 g) R T ∧ (∀ a, a < n → f' (300 * s + a) = f a) ∧
    (∀ q, q < 300 * s ∨ 300 * s + 300 ≤ q → f' q = J 39 q ∧ g q = J 40 q) ∧ ∀ a, a < n → g (300 * s + a) = ab_F (I 35 0) (I 35 1) (I 35 2) (I 35 6) (f a)) := by
  have hW := hB 35 0
  have hH := hB 35 1
  have hwr := hB 35 2
  rw [show cx_B0 35 0 = (2, 6) from rfl] at hW
  rw [show cx_B0 35 1 = (2, 6) from rfl] at hH
  rw [show cx_B0 35 2 = (0, 1) from rfl] at hwr
  simp only at hW hH hwr
  have hwr := cx_01 hwr.1 hwr.2
  obtain ⟨sh, tn, ⟨f1, f2, f3, f4⟩, h1, h2, h3⟩ := h
  refine pe_mono (pe_find hs hwr hW hH f1 f2 f3 f4) ?_
  rintro r h ⟨rfl, n', f', g, rfl, ⟨g1, g2, g3, g4⟩, g5, g6⟩
  obtain ⟨e1, e2⟩ := srt_same g1 h1 fun v => (g3 v).trans (h3 v).symm
  subst e1
  have e3 : ∀ a, a < n' → f' (300 * s + a) = f a := fun a ha => by rw [e2 a ha, Nat.zero_add]
  exact ⟨rfl, f', g, rfl, e3, fun q hq => ⟨g4 q hq, g5 q hq⟩, fun a ha => by rw [g6 a ha, e3 a ha]⟩
theorem pe_mspots {n : Nat → Nat} {f : Nat → Nat → Int64} {ns : Nat} (hB : cx_hB cx_B0 I) (h3 : I 35 3 = Int32.ofNat ns) (hn : ns ≤ 3) (h5 : ∀ s, s < ns → mr_row I s (n s) (f s)) : pe N X 223 [.ref 35, .int x] (ev_hp I J R T) (fun r _ => r = some (.int (mi_spots n ns x))) := by
  unfold mi_spots
  refine pe_of (pw_p (ms_0 ⟨fun h => ?_, fun h => ?_⟩))
  · rw [il_ship, h3] at h
    rw [if_neg h]
    obtain ⟨s, rfl, hs⟩ := wi_lt (by omega) h
    refine ⟨_, mr_find hB (by omega) (h5 s hs), ?_⟩
    rintro r h ⟨rfl, f', g, rfl, -⟩
    refine pw_p (ms_16 fun _ => ?_)
    rw [cx_sI_s, ix_cl (by omega), upd_s, io_ti (by omega)]
    rfl
  · rw [il_ship, h3] at h
    rw [if_pos (Classical.not_not.mp h)]
theorem pe_mspot {n : Nat → Nat} {f : Nat → Nat → Int64} {ns : Nat} (hB : cx_hB cx_B0 I) (h3 : I 35 3 = Int32.ofNat ns) (hn : ns ≤ 3) (h5 : ∀ s, s < ns → mr_row I s (n s) (f s)) : pe N X 222 [.ref 35, .int x, .int y] (ev_hp I J R T) (fun r _ => r = some (.long (mi_spot n f ns x y))) := by
  unfold mi_spot
  refine pe_of (pw_p (mt_0 ⟨fun h => ?_, fun h => ?_⟩))
  · rw [il_ship, h3] at h
    rw [if_neg h]
    obtain ⟨s, rfl, hs⟩ := wi_lt (by omega) h
    have hn2 : n s ≤ 288 := by
      obtain ⟨_, _, _, _, h2, _⟩ := h5 s hs
      exact h2
    refine ⟨_, mr_find hB (by omega) (h5 s hs), ?_⟩
    rintro r h ⟨rfl, f', g, rfl, e1, e2, -⟩
    rw [io_ti (by omega), show ((s : Nat) : Int).toNat = s from by omega]
    refine pw_p (mt_17 fun _ => ⟨fun h2 => ?_, fun h2 _ => ?_⟩)
    · rw [cx_sI_s, ix_cl (by omega), upd_s, il_ship] at h2
      rw [if_pos h2]
    · rw [cx_sI_s, ix_cl (by omega), upd_s, il_ship] at h2
      rw [if_neg h2]
      obtain ⟨k, rfl, hk⟩ := wi_lt (by omega) h2
      rw [i_300, io_add, ix_cl (by omega), cx_sJ_n _ _ (by decide), cx_sJ_s, e1 k hk, io_ti (by omega)]
      rfl
  · rw [il_ship, h3] at h
    rw [if_pos (Classical.not_not.mp h)]
end
