/-! Marks at the rim, both sides. -/
section
variable {N : Nat} {X : ez_X} {I : Nat → Nat → Int32} {J : Nat → Nat → Int64} {R : Nat → Nat} {T : List ez_C} {Q : pw_Q} {cz kz : Nat}
set_option maxRecDepth 100000 in
theorem ri_r0 {a0 : Int32} : ∀ G : ez_F, fx_up X 3 G 150 0 [.ref 1, .int a0] [] (ev_hp I J R T) cz kz = G 150 5 [.ref 1, .int a0] [.int (I 1 4), .int a0] (ev_hp I J R T) cz kz := by
  intro G
  rfl
set_option maxRecDepth 100000 in
theorem ri_r1 {a0 : Int32} {a1 : Int32} {a2 : Int32} : ∀ G : ez_F, fx_up X 1 G 150 5 [.ref 1, .int a0] [.int a1, .int a2] (ev_hp I J R T) cz kz = bif decide (a1 ≤ a2) then G 150 24 [.ref 1, .int a0] [] (ev_hp I J R T) cz kz else G 150 8 [.ref 1, .int a0] [] (ev_hp I J R T) cz kz := by
  intro G
  rfl
set_option maxRecDepth 100000 in
theorem ri_r2 {a0 : Int32} : ∀ G : ez_F, fx_up X 2 G 150 24 [.ref 1, .int a0] [] (ev_hp I J R T) cz kz = G 150 28 [.ref 1, .int a0] [.long (J 1 8)] (ev_hp I J R T) cz kz := by
  intro G
  rfl
set_option maxRecDepth 100000 in
theorem ri_r3 {a0 : Int32} {a1 : Int64} : ∀ G : ez_F, fx_up X 3 G 150 28 [.ref 1, .int a0] [.long a1] (ev_hp I J R T) cz kz = G 150 33 [.ref 1, .int a0] [.int (I 1 4), .int a0, .long a1] (ev_hp I J R T) cz kz := by
  intro G
  rfl
set_option maxRecDepth 100000 in
theorem ri_r4 {a0 : Int32} {a1 : Int32} {a2 : Int32} {a3 : Int64} : ∀ G : ez_F, fx_up X 3 G 150 33 [.ref 1, .int a0] [.int a1, .int a2, .long a3] (ev_hp I J R T) cz kz = some (some (.long (a3 <<< ((a2 - a1).toInt64 &&& (63 : Int64)))), (ev_hp I J R T), cz, kz) := by
  intro G
  rfl
set_option maxRecDepth 100000 in
theorem ri_r5 {a0 : Int32} : ∀ G : ez_F, fx_up X 3 G 150 8 [.ref 1, .int a0] [] (ev_hp I J R T) cz kz = G 150 13 [.ref 1, .int a0] [.int (I 1 3), .long (1 : Int64)] (ev_hp I J R T) cz kz := by
  intro G
  rfl
set_option maxRecDepth 100000 in
theorem ri_r6 {a0 : Int32} {a1 : Int32} {a2 : Int64} : ∀ G : ez_F, fx_up X 5 G 150 13 [.ref 1, .int a0] [.int a1, .long a2] (ev_hp I J R T) cz kz = G 150 20 [.ref 1, .int a0] [.int (I 1 3), .long ((a2 <<< (a1.toInt64 &&& (63 : Int64))) - (1 : Int64))] (ev_hp I J R T) cz kz := by
  intro G
  rfl
set_option maxRecDepth 100000 in
theorem ri_r7 {a0 : Int32} {a1 : Int32} {a2 : Int64} : ∀ G : ez_F, fx_up X 4 G 150 20 [.ref 1, .int a0] [.int a1, .long a2] (ev_hp I J R T) cz kz = some (some (.long (a2 <<< ((a1 * a0).toInt64 &&& (63 : Int64)))), (ev_hp I J R T), cz, kz) := by
  intro G
  rfl
theorem ri_c0 {x : Int32}
    (H : (((I 1 4) ≤ x → Q (some (.long ((J 1 8) <<< ((x - (I 1 4)).toInt64 &&& (63 : Int64))))) (ev_hp I J R T)) ∧ (¬ ((I 1 4) ≤ x) → Q (some (.long ((((1 : Int64) <<< ((I 1 3).toInt64 &&& (63 : Int64))) - (1 : Int64)) <<< (((I 1 3) * x).toInt64 &&& (63 : Int64))))) (ev_hp I J R T)))) : pw (N + 1) X 150 0 [.ref 1, .int x] [] (ev_hp I J R T) Q := by
  refine pw_seg (by decide) (fun _ _ => ri_r0) ?_
  refine pw_p (pw_if (by decide) (fun _ _ => ri_r1) (fun w1 => ?_) (fun w1 => ?_))
  · have h1 := H.1 w1
    refine pw_p (pw_seg (by decide) (fun _ _ => ri_r2) ?_)
    refine pw_p (pw_seg (by decide) (fun _ _ => ri_r3) ?_)
    exact pw_p (pw_ret (by decide) (fun _ _ => ri_r4) h1)
  · have h1 := H.2 w1
    refine pw_p (pw_seg (by decide) (fun _ _ => ri_r5) ?_)
    refine pw_p (pw_seg (by decide) (fun _ _ => ri_r6) ?_)
    exact pw_p (pw_ret (by decide) (fun _ _ => ri_r7) h1)
set_option maxRecDepth 100000 in
theorem ri_r8  : ∀ G : ez_F, fx_up X 2 G 179 0 [.ref 35] [] (ev_hp I J R T) cz kz = G 179 4 [.ref 35] [.int (I 35 0)] (ev_hp I J R T) cz kz := by
  intro G
  rfl
set_option maxRecDepth 100000 in
theorem ri_r9 {a0 : Int32} : ∀ G : ez_F, fx_up X 2 G 179 4 [.ref 35] [.int a0] (ev_hp I J R T) cz kz = G 179 8 [.ref 35] [.int (I 35 1), .int a0] (ev_hp I J R T) cz kz := by
  intro G
  rfl
set_option maxRecDepth 100000 in
theorem ri_r10 {a0 : Int32} {a1 : Int32} : ∀ G : ez_F, fx_up X 2 G 179 8 [.ref 35] [.int a0, .int a1] (ev_hp I J R T) cz kz = some (some (.int (a1 * a0)), (ev_hp I J R T), cz, kz) := by
  intro G
  rfl
theorem ri_n0 
    (H : Q (some (.int ((I 35 0) * (I 35 1)))) (ev_hp I J R T)) : pw (N + 1) X 179 0 [.ref 35] [] (ev_hp I J R T) Q := by
  refine pw_seg (by decide) (fun _ _ => ri_r8) ?_
  refine pw_p (pw_seg (by decide) (fun _ _ => ri_r9) ?_)
  exact pw_p (pw_ret (by decide) (fun _ _ => ri_r10) H)
end
theorem pe_mcount {N : Nat} {X : ez_X} {I : Nat → Nat → Int32} {J : Nat → Nat → Int64} {R : Nat → Nat} {T : List ez_C} : pe N X 179 [.ref 35] (ev_hp I J R T) (fun r h => r = some (.int (I 35 0 * I 35 1)) ∧ h = ev_hp I J R T) := pe_of (pw_p (ri_n0 ⟨rfl, rfl⟩))
section
variable {N : Nat} {X : ez_X} {I : Nat → Nat → Int32} {J : Nat → Nat → Int64} {R : Nat → Nat} {T : List ez_C} {Q : pw_Q} {cz kz : Nat}
set_option maxRecDepth 100000 in
theorem rj_r0 {a0 : Int64} {a1 : Int32} : ∀ G : ez_F, fx_up X 4 G 183 0 [.ref 35, .long a0, ez_fill, .int a1] [] (ev_hp I J R T) cz kz = G 183 6 [.ref 35, .long a0, ez_fill, .int a1, .int (0 : Int32), .int (0 : Int32)] [] (ev_hp I J R T) cz kz := by
  intro G
  rfl
theorem rj_0 {x : Int32} {u : Int64}
    (H : pw N X 183 6 [.ref 35, .long u, ez_fill, .int x, .int (0 : Int32), .int (0 : Int32)] [] (ev_hp I J R T) Q) : pw (N + 1) X 183 0 [.ref 35, .long u, ez_fill, .int x] [] (ev_hp I J R T) Q := by
  refine pw_seg (by decide) (fun _ _ => rj_r0) ?_
  exact H
set_option maxRecDepth 100000 in
theorem rj_r1 {a0 : Int64} {a1 : Int32} {a2 : Int32} {a3 : Int32} : ∀ G : ez_F, fx_up X 3 G 183 6 [.ref 35, .long a0, ez_fill, .int a1, .int a2, .int a3] [] (ev_hp I J R T) cz kz = ev_C G 179 [.ref 35] (ev_hp I J R T) fun r h1 c1 k1 => G 183 12 [.ref 35, .long a0, ez_fill, .int a1, .int a2, .int a3] (r.toList ++ [.int a3]) h1 (cz + c1) (kz + k1) := by
  intro G
  rfl
set_option maxRecDepth 100000 in
theorem rj_r2 {a0 : Int64} {a1 : Int32} {a2 : Int32} {a3 : Int32} {a4 : Int32} {a5 : Int32} : ∀ G : ez_F, fx_up X 1 G 183 12 [.ref 35, .long a0, ez_fill, .int a1, .int a2, .int a3] [.int a4, .int a5] (ev_hp I J R T) cz kz = bif decide (a4 ≤ a5) then G 183 95 [.ref 35, .long a0, ez_fill, .int a1, .int a2, .int a3] [] (ev_hp I J R T) cz kz else G 183 15 [.ref 35, .long a0, ez_fill, .int a1, .int a2, .int a3] [] (ev_hp I J R T) cz kz := by
  intro G
  rfl
set_option maxRecDepth 100000 in
theorem rj_r3 {a0 : Int64} {a1 : Int32} {a2 : Int32} {a3 : Int32} : ∀ G : ez_F, fx_up X 2 G 183 95 [.ref 35, .long a0, ez_fill, .int a1, .int a2, .int a3] [] (ev_hp I J R T) cz kz = some (some (.int a2), (ev_hp I J R T), cz, kz) := by
  intro G
  rfl
set_option maxRecDepth 100000 in
theorem rj_r4 {a0 : Int64} {a1 : Int32} {a2 : Int32} {a3 : Int32} : ∀ G : ez_F, fx_up X 3 G 183 15 [.ref 35, .long a0, ez_fill, .int a1, .int a2, .int a3] [] (ev_hp I J R T) cz kz = G 183 20 [.ref 35, .long a0, ez_fill, .int a1, .int a2, .int a3] [.int (I 35 1), .int a1] (ev_hp I J R T) cz kz := by
  intro G
  rfl
set_option maxRecDepth 100000 in
theorem rj_r5 {a0 : Int64} {a1 : Int32} {a2 : Int32} {a3 : Int32} {a4 : Int32} {a5 : Int32} : ∀ G : ez_F, fx_up X 1 G 183 20 [.ref 35, .long a0, ez_fill, .int a1, .int a2, .int a3] [.int a4, .int a5] (ev_hp I J R T) cz kz = bif decide (a4 ≤ a5) then G 183 42 [.ref 35, .long a0, ez_fill, .int a1, .int a2, .int a3] [] (ev_hp I J R T) cz kz else G 183 23 [.ref 35, .long a0, ez_fill, .int a1, .int a2, .int a3] [] (ev_hp I J R T) cz kz := by
  intro G
  rfl
set_option maxRecDepth 100000 in
theorem rj_r6 {a0 : Int64} {a1 : Int32} {a2 : Int32} {a3 : Int32} : ∀ G : ez_F, fx_up X 3 G 183 42 [.ref 35, .long a0, ez_fill, .int a1, .int a2, .int a3] [] (ev_hp I J R T) cz kz = G 183 48 [.ref 35, .long a0, ez_fill, .int a1, .int a2, .int a3] [.int (I 35 0), .int a3] (ev_hp I J R T) cz kz := by
  intro G
  rfl
set_option maxRecDepth 100000 in
theorem rj_r7 {a0 : Int64} {a1 : Int32} {a2 : Int32} {a3 : Int32} {a4 : Int32} : ∀ G : ez_F, fx_up X 3 G 183 49 [.ref 35, .long a0, ez_fill, .int a1, .int a2, .int a3] [.int a4] (ev_hp I J R T) cz kz = G 183 54 [.ref 35, .long a0, ez_fill, .int a1, .int a2, .int a3] [.int (I 35 1), .int a1, .int a4] (ev_hp I J R T) cz kz := by
  intro G
  rfl
set_option maxRecDepth 100000 in
theorem rj_r8 {a0 : Int64} {a1 : Int32} {a2 : Int32} {a3 : Int32} {a4 : Int32} {a5 : Int32} {a6 : Int32} : ∀ G : ez_F, fx_up X 2 G 183 54 [.ref 35, .long a0, ez_fill, .int a1, .int a2, .int a3] [.int a4, .int a5, .int a6] (ev_hp I J R T) cz kz = bif decide (¬ a6 = (a5 - a4)) then G 183 62 [.ref 35, .long a0, ez_fill, .int a1, .int a2, .int a3] [] (ev_hp I J R T) cz kz else G 183 58 [.ref 35, .long a0, ez_fill, .int a1, .int a2, .int a3] [] (ev_hp I J R T) cz kz := by
  intro G
  rfl
set_option maxRecDepth 100000 in
theorem rj_r9 {a0 : Int64} {a1 : Int32} {a2 : Int32} {a3 : Int32} : ∀ G : ez_F, fx_up X 5 G 183 62 [.ref 35, .long a0, ez_fill, .int a1, .int a2, .int a3] [] (ev_hp I J R T) cz kz = bif decide ((0 : Int32) = (0 : Int32)) then G 183 85 [.ref 35, .long a0, ez_fill, .int a1, .int a2, .int a3, .int (0 : Int32)] [.int a2] (ev_hp I J R T) cz kz else G 183 72 [.ref 35, .long a0, ez_fill, .int a1, .int a2, .int a3, .int (0 : Int32)] [.int a2] (ev_hp I J R T) cz kz := by
  intro G
  rfl
set_option maxRecDepth 100000 in
theorem rj_r10 {a0 : Int64} {a1 : Int32} {a2 : Int32} {a3 : Int32} {a4 : Int32} {a5 : Int32} : ∀ G : ez_F, fx_up X 5 G 183 85 [.ref 35, .long a0, ez_fill, .int a1, .int a2, .int a3, .int a4] [.int a5] (ev_hp I J R T) cz kz = G 183 6 [.ref 35, .long a0, ez_fill, .int a1, .int (a5 + (0 : Int32)), .int (a3 + (1 : Int32)), .int a4] [] (ev_hp I J R T) cz kz := by
  intro G
  rfl
set_option maxRecDepth 100000 in
theorem rj_r11 {a0 : Int64} {a1 : Int32} {a2 : Int32} {a3 : Int32} : ∀ G : ez_F, fx_up X 6 G 183 58 [.ref 35, .long a0, ez_fill, .int a1, .int a2, .int a3] [] (ev_hp I J R T) cz kz = bif decide ((1 : Int32) = (0 : Int32)) then G 183 85 [.ref 35, .long a0, ez_fill, .int a1, .int a2, .int a3, .int (1 : Int32)] [.int a2] (ev_hp I J R T) cz kz else G 183 72 [.ref 35, .long a0, ez_fill, .int a1, .int a2, .int a3, .int (1 : Int32)] [.int a2] (ev_hp I J R T) cz kz := by
  intro G
  rfl
set_option maxRecDepth 100000 in
theorem rj_r12 {a0 : Int64} {a1 : Int32} {a2 : Int32} {a3 : Int32} {a4 : Int32} {a5 : Int32} : ∀ G : ez_F, fx_up X 3 G 183 72 [.ref 35, .long a0, ez_fill, .int a1, .int a2, .int a3, .int a4] [.int a5] (ev_hp I J R T) cz kz = ev_C G 197 [.long a0, .int a3] (ev_hp I J R T) fun r h1 c1 k1 => G 183 78 [.ref 35, .long a0, ez_fill, .int a1, .int a2, .int a3, .int a4] (r.toList ++ [.int a5]) h1 (cz + c1) (kz + k1) := by
  intro G
  rfl
set_option maxRecDepth 100000 in
theorem rj_r13 {a0 : Int64} {a1 : Int32} {a2 : Int32} {a3 : Int32} {a4 : Int32} {a5 : Int32} {a6 : Int32} : ∀ G : ez_F, fx_up X 1 G 183 78 [.ref 35, .long a0, ez_fill, .int a1, .int a2, .int a3, .int a4] [.int a5, .int a6] (ev_hp I J R T) cz kz = bif decide (a5 = (0 : Int32)) then G 183 85 [.ref 35, .long a0, ez_fill, .int a1, .int a2, .int a3, .int a4] [.int a6] (ev_hp I J R T) cz kz else G 183 81 [.ref 35, .long a0, ez_fill, .int a1, .int a2, .int a3, .int a4] [.int a6] (ev_hp I J R T) cz kz := by
  intro G
  rfl
set_option maxRecDepth 100000 in
theorem rj_r14 {a0 : Int64} {a1 : Int32} {a2 : Int32} {a3 : Int32} {a4 : Int32} {a5 : Int32} : ∀ G : ez_F, fx_up X 6 G 183 81 [.ref 35, .long a0, ez_fill, .int a1, .int a2, .int a3, .int a4] [.int a5] (ev_hp I J R T) cz kz = G 183 6 [.ref 35, .long a0, ez_fill, .int a1, .int (a5 + (1 : Int32)), .int (a3 + (1 : Int32)), .int a4] [] (ev_hp I J R T) cz kz := by
  intro G
  rfl
set_option maxRecDepth 100000 in
theorem rj_r15 {a0 : Int64} {a1 : Int32} {a2 : Int32} {a3 : Int32} : ∀ G : ez_F, fx_up X 3 G 183 23 [.ref 35, .long a0, ez_fill, .int a1, .int a2, .int a3] [] (ev_hp I J R T) cz kz = G 183 29 [.ref 35, .long a0, ez_fill, .int a1, .int a2, .int a3] [.int (I 35 0), .int a3] (ev_hp I J R T) cz kz := by
  intro G
  rfl
set_option maxRecDepth 100000 in
theorem rj_r16 {a0 : Int64} {a1 : Int32} {a2 : Int32} {a3 : Int32} {a4 : Int32} : ∀ G : ez_F, fx_up X 2 G 183 30 [.ref 35, .long a0, ez_fill, .int a1, .int a2, .int a3] [.int a4] (ev_hp I J R T) cz kz = bif decide (¬ a4 = a1) then G 183 38 [.ref 35, .long a0, ez_fill, .int a1, .int a2, .int a3] [] (ev_hp I J R T) cz kz else G 183 34 [.ref 35, .long a0, ez_fill, .int a1, .int a2, .int a3] [] (ev_hp I J R T) cz kz := by
  intro G
  rfl
set_option maxRecDepth 100000 in
theorem rj_r17 {a0 : Int64} {a1 : Int32} {a2 : Int32} {a3 : Int32} : ∀ G : ez_F, fx_up X 6 G 183 38 [.ref 35, .long a0, ez_fill, .int a1, .int a2, .int a3] [] (ev_hp I J R T) cz kz = bif decide ((0 : Int32) = (0 : Int32)) then G 183 85 [.ref 35, .long a0, ez_fill, .int a1, .int a2, .int a3, .int (0 : Int32)] [.int a2] (ev_hp I J R T) cz kz else G 183 72 [.ref 35, .long a0, ez_fill, .int a1, .int a2, .int a3, .int (0 : Int32)] [.int a2] (ev_hp I J R T) cz kz := by
  intro G
  rfl
set_option maxRecDepth 100000 in
theorem rj_r18 {a0 : Int64} {a1 : Int32} {a2 : Int32} {a3 : Int32} : ∀ G : ez_F, fx_up X 6 G 183 34 [.ref 35, .long a0, ez_fill, .int a1, .int a2, .int a3] [] (ev_hp I J R T) cz kz = bif decide ((1 : Int32) = (0 : Int32)) then G 183 85 [.ref 35, .long a0, ez_fill, .int a1, .int a2, .int a3, .int (1 : Int32)] [.int a2] (ev_hp I J R T) cz kz else G 183 72 [.ref 35, .long a0, ez_fill, .int a1, .int a2, .int a3, .int (1 : Int32)] [.int a2] (ev_hp I J R T) cz kz := by
  intro G
  rfl
theorem rj_6 {x y z : Int32} {u : Int64}
    (H : ((((I 35 0) * (I 35 1)) ≤ z → Q (some (.int y)) (ev_hp I J R T)) ∧ (¬ (((I 35 0) * (I 35 1)) ≤ z) → (((I 35 1) ≤ x → (¬ (I 35 0) = 0 → ((¬ (z - z / (I 35 0) * (I 35 0)) = (x - (I 35 1)) → pw N X 183 6 [.ref 35, .long u, ez_fill, .int x, .int (y + (0 : Int32)), .int (z + (1 : Int32))] [] (ev_hp I J R T) Q) ∧ (¬ (¬ (z - z / (I 35 0) * (I 35 0)) = (x - (I 35 1))) → (((ev_has u z) = (0 : Int32) → pw N X 183 6 [.ref 35, .long u, ez_fill, .int x, .int (y + (0 : Int32)), .int (z + (1 : Int32))] [] (ev_hp I J R T) Q) ∧ (¬ ((ev_has u z) = (0 : Int32)) → pw N X 183 6 [.ref 35, .long u, ez_fill, .int x, .int (y + (1 : Int32)), .int (z + (1 : Int32))] [] (ev_hp I J R T) Q)))))) ∧ (¬ ((I 35 1) ≤ x) → (¬ (I 35 0) = 0 → ((¬ (z / (I 35 0)) = x → pw N X 183 6 [.ref 35, .long u, ez_fill, .int x, .int (y + (0 : Int32)), .int (z + (1 : Int32))] [] (ev_hp I J R T) Q) ∧ (¬ (¬ (z / (I 35 0)) = x) → (((ev_has u z) = (0 : Int32) → pw N X 183 6 [.ref 35, .long u, ez_fill, .int x, .int (y + (0 : Int32)), .int (z + (1 : Int32))] [] (ev_hp I J R T) Q) ∧ (¬ ((ev_has u z) = (0 : Int32)) → pw N X 183 6 [.ref 35, .long u, ez_fill, .int x, .int (y + (1 : Int32)), .int (z + (1 : Int32))] [] (ev_hp I J R T) Q)))))))))) : pw (N + 1) X 183 6 [.ref 35, .long u, ez_fill, .int x, .int y, .int z] [] (ev_hp I J R T) Q := by
  refine pw_callp (by decide) (fun _ _ => rj_r1) (pe_mcount) ?_
  refine pw_p (pw_if (by decide) (fun _ _ => rj_r2) (fun w1 => ?_) (fun w1 => ?_))
  · have h1 := H.1 w1
    exact pw_p (pw_ret (by decide) (fun _ _ => rj_r3) h1)
  · have h1 := H.2 w1
    refine pw_p (pw_seg (by decide) (fun _ _ => rj_r4) ?_)
    refine pw_p (pw_if (by decide) (fun _ _ => rj_r5) (fun w2 => ?_) (fun w2 => ?_))
    · have h2 := h1.1 w2
      refine pw_p (pw_seg (by decide) (fun _ _ => rj_r6) ?_)
      refine pw_p (pw_irem (by rfl) (fun w3 => ?_))
      have h3 := h2 w3
      refine pw_p (pw_seg (by decide) (fun _ _ => rj_r7) ?_)
      refine pw_p (pw_if (by decide) (fun _ _ => rj_r8) (fun w3 => ?_) (fun w3 => ?_))
      · have h3 := h3.1 w3
        refine pw_p (pw_if (by decide) (fun _ _ => rj_r9) (fun w4 => ?_) (fun w4 => ?_))
        rotate_left
        · exact absurd (by decide) w4
        refine pw_p (pw_seg (by decide) (fun _ _ => rj_r10) ?_)
        refine pw_cutl (by rfl) ?_
        exact h3
      · have h3 := h3.2 w3
        refine pw_p (pw_if (by decide) (fun _ _ => rj_r11) (fun w4 => ?_) (fun w4 => ?_))
        · exact absurd w4 (by decide)
        refine pw_p (pw_callp (by decide) (fun _ _ => rj_r12) (pe_is (em_has _ _ _ _)) ?_)
        refine pw_p (pw_if (by decide) (fun _ _ => rj_r13) (fun w4 => ?_) (fun w4 => ?_))
        · have h4 := h3.1 w4
          refine pw_p (pw_seg (by decide) (fun _ _ => rj_r10) ?_)
          refine pw_cutl (by rfl) ?_
          exact h4
        · have h4 := h3.2 w4
          refine pw_p (pw_seg (by decide) (fun _ _ => rj_r14) ?_)
          refine pw_cutl (by rfl) ?_
          exact h4
    · have h2 := h1.2 w2
      refine pw_p (pw_seg (by decide) (fun _ _ => rj_r15) ?_)
      refine pw_p (pw_idiv (by rfl) (fun w3 => ?_))
      have h3 := h2 w3
      refine pw_p (pw_if (by decide) (fun _ _ => rj_r16) (fun w3 => ?_) (fun w3 => ?_))
      · have h3 := h3.1 w3
        refine pw_p (pw_if (by decide) (fun _ _ => rj_r17) (fun w4 => ?_) (fun w4 => ?_))
        rotate_left
        · exact absurd (by decide) w4
        refine pw_p (pw_seg (by decide) (fun _ _ => rj_r10) ?_)
        refine pw_cutl (by rfl) ?_
        exact h3
      · have h3 := h3.2 w3
        refine pw_p (pw_if (by decide) (fun _ _ => rj_r18) (fun w4 => ?_) (fun w4 => ?_))
        · exact absurd w4 (by decide)
        refine pw_p (pw_callp (by decide) (fun _ _ => rj_r12) (pe_is (em_has _ _ _ _)) ?_)
        refine pw_p (pw_if (by decide) (fun _ _ => rj_r13) (fun w4 => ?_) (fun w4 => ?_))
        · have h4 := h3.1 w4
          refine pw_p (pw_seg (by decide) (fun _ _ => rj_r10) ?_)
          refine pw_cutl (by rfl) ?_
          exact h4
        · have h4 := h3.2 w4
          refine pw_p (pw_seg (by decide) (fun _ _ => rj_r14) ?_)
          refine pw_cutl (by rfl) ?_
          exact h4
end
section
variable {N : Nat} {X : ez_X} {I : Nat → Nat → Int32} {J : Nat → Nat → Int64} {R : Nat → Nat} {T : List ez_C} {Q : pw_Q} {cz kz : Nat}
set_option maxRecDepth 100000 in
theorem rk_r0 {a0 : Int64} {a1 : Int32} : ∀ G : ez_F, fx_up X 5 G 73 0 [.ref 32, .long a0, ez_fill, .int a1] [] (ev_hp I J R T) cz kz = ev_C G 150 [.ref 1, .int a1] (ev_hp I J R T) fun r h1 c1 k1 => G 73 9 [.ref 32, .long a0, ez_fill, .int a1] (r.toList ++ [.long a0]) h1 (cz + c1) (kz + k1) := by
  intro G
  rfl
theorem rk_0 {x : Int32} {u : Int64}
    (H : (∃ Q1 : pw_Q, pe N X 150 [.ref 1, .int x] (ev_hp I J R T) Q1 ∧ ∀ (r : Option Value) (h1 : ez_H), Q1 r h1 → pw N X 73 9 [.ref 32, .long u, ez_fill, .int x] (r.toList ++ [.long u]) h1 Q)) : pw (N + 1) X 73 0 [.ref 32, .long u, ez_fill, .int x] [] (ev_hp I J R T) Q := by
  obtain ⟨Q1, hc, hk⟩ := H
  exact pw_call (by decide) (fun _ _ => rk_r0) hc hk
set_option maxRecDepth 100000 in
theorem rk_r1 {a0 : Int64} {a1 : Int32} {a2 : Int64} {a3 : Int64} : ∀ G : ez_F, fx_up X 2 G 73 9 [.ref 32, .long a0, ez_fill, .int a1] [.long a2, .long a3] (ev_hp I J R T) cz kz = ev_C G 237 [.long (a3 &&& a2)] (ev_hp I J R T) fun r h1 c1 k1 => G 73 13 [.ref 32, .long a0, ez_fill, .int a1] (r.toList ++ []) h1 (cz + c1) (kz + k1) := by
  intro G
  rfl
set_option maxRecDepth 100000 in
theorem rk_r2 {a0 : Int64} {a1 : Int32} {a2 : Int32} : ∀ G : ez_F, fx_up X 1 G 73 13 [.ref 32, .long a0, ez_fill, .int a1] [.int a2] (ev_hp I J R T) cz kz = some (some (.int a2), (ev_hp I J R T), cz, kz) := by
  intro G
  rfl
theorem rk_9 {x : Int32} {u v : Int64}
    (H : Q (some (.int (ev_bcJ (u &&& v)))) (ev_hp I J R T)) : pw (N + 1) X 73 9 [.ref 32, .long u, ez_fill, .int x] [.long v, .long u] (ev_hp I J R T) Q := by
  refine pw_callp (by decide) (fun _ _ => rk_r1) (pe_is (ec_bcJ _ _ _)) ?_
  exact pw_p (pw_ret (by decide) (fun _ _ => rk_r2) H)
end
def cq (p : Nat → Bool) : Nat → Nat
  | 0 => 0
  | k + 1 => cq p k + (bif p k then 1 else 0)
theorem cq_c {p q : Nat → Bool} : ∀ k, (∀ i, i < k → p i = q i) → cq p k = cq q k := by
  intro k
  induction k with
  | zero => intro _; rfl
  | succ k ih =>
    intro h
    unfold cq
    rw [ih fun i hi => h i (by omega), h k (Nat.lt_succ_self k)]
theorem cq_pad {p : Nat → Bool} {k : Nat} (h : ∀ i, k ≤ i → p i = false) : ∀ d, cq p (k + d) = cq p k := by
  intro d
  induction d with
  | zero => rfl
  | succ d ih =>
    show cq p (k + d) + (bif p (k + d) then 1 else 0) = _
    rw [h (k + d) (by omega), ih]
    rfl
theorem cq_le (p : Nat → Bool) : ∀ k, cq p k ≤ k := by
  intro k
  induction k with
  | zero => exact Nat.le_refl 0
  | succ k ih =>
    unfold cq
    cases p k
    · simp only [cond_false]; omega
    · simp only [cond_true]; omega
theorem pc_cq (n : Nat) : ∀ k, pc k n = cq (fun i => n.testBit i) k := by
  intro k
  induction k with
  | zero => rfl
  | succ k ih => rw [pc_top, ih]; rfl
theorem pcJ_cq (z : Int64) : pcJ z = cq (kb z) 64 := pc_cq z.toBitVec.toNat 64
def rmp (w h r i : Nat) : Bool := Nat.blt i (w * h) && (bif Nat.blt r h then Nat.beq (i / w) r else Nat.beq (i % w) (r - h))
def rimF (W H : Int32) (F : Int64) (x : Int32) : Int64 := if H ≤ x then F <<< ((x - H).toInt64 &&& (63 : Int64)) else (((1 : Int64) <<< (W.toInt64 &&& (63 : Int64))) - (1 : Int64)) <<< ((W * x).toInt64 &&& (63 : Int64))
set_option maxRecDepth 100000 in
theorem rim_tab : ((List.range 5).all fun w => (List.range 5).all fun h => (List.range (w + h + 4)).all fun r => (List.range 64).all fun i => (kb (rimF (Int32.ofNat (w + 2)) (Int32.ofNat (h + 2)) (fc_F (Int32.ofNat (w + 2)) (Int32.ofNat (h + 2))) (Int32.ofNat r)) i) == rmp (w + 2) (h + 2) r i) = true := by decide +kernel
theorem rim_kb {w h r i : Nat} (hw : 2 ≤ w ∧ w ≤ 6) (hh : 2 ≤ h ∧ h ≤ 6) (hr : r < w + h) (hi : i < 64) : kb (rimF (Int32.ofNat w) (Int32.ofNat h) (fc_F (Int32.ofNat w) (Int32.ofNat h)) (Int32.ofNat r)) i = rmp w h r i := by
  have h1 := List.all_eq_true.mp rim_tab (w - 2) (List.mem_range.mpr (by omega))
  have h2 := List.all_eq_true.mp h1 (h - 2) (List.mem_range.mpr (by omega))
  have h3 := List.all_eq_true.mp h2 r (List.mem_range.mpr (by omega))
  have h4 := List.all_eq_true.mp h3 i (List.mem_range.mpr hi)
  rw [show w - 2 + 2 = w by omega, show h - 2 + 2 = h by omega] at h4
  exact eq_of_beq h4
theorem io_div {a b : Nat} (ha : a < 2147483648) (hb : b < 2147483648) : Int32.ofNat a / Int32.ofNat b = Int32.ofNat (a / b) := by
  have h : a / b ≤ a := Nat.div_le_self _ _
  apply Int32.toInt_inj.mp
  rw [Int32.toInt_div, io_ti ha, io_ti hb, io_ti (by omega), show ((a : Int).tdiv (b : Int)) = ((a / b : Nat) : Int) from rfl]
  generalize a / b = q at h ⊢
  rw [cx_bm32]
  simp only [cx_i32]
  omega
section
variable {N : Nat} {X : ez_X} {I : Nat → Nat → Int32} {J : Nat → Nat → Int64} {R : Nat → Nat} {T : List ez_C} {x : Int32} {u : Int64}
def rq (w h r : Nat) (u : Int64) : Nat := cq (fun i => kb u i && rmp w h r i) 64
theorem pe_rimCells : pe N X 150 [.ref 1, .int x] (ev_hp I J R T) (fun r h => r = some (.long (rimF (I 1 3) (I 1 4) (J 1 8) x)) ∧ h = ev_hp I J R T) := by
  refine pe_of (pw_p (ri_c0 ⟨fun h => ⟨?_, rfl⟩, fun h => ⟨?_, rfl⟩⟩))
  · unfold rimF
    rw [if_pos h]
  · unfold rimF
    rw [if_neg h]
theorem pe_countIn {w h r : Nat} (e3 : I 1 3 = Int32.ofNat w) (e4 : I 1 4 = Int32.ofNat h) (e8 : J 1 8 = fc_F (I 1 3) (I 1 4)) (hw : 2 ≤ w ∧ w ≤ 6) (hh : 2 ≤ h ∧ h ≤ 6) (hr : r < w + h) (hx : x = Int32.ofNat r) : pe N X 73 [.ref 32, .long u, .int x] (ev_hp I J R T) (fun q hp => q = some (.int (Int32.ofNat (rq w h r u))) ∧ hp = ev_hp I J R T) := by
  refine pe_of (pw_p (rk_0 ⟨_, pe_rimCells, ?_⟩))
  rintro q hp ⟨rfl, rfl⟩
  refine pw_p (rk_9 ⟨?_, rfl⟩)
  rw [pcJ_bc, pcJ_cq, e8, e3, e4, hx]
  congr 3
  unfold rq
  exact cq_c 64 fun i hi => by rw [kb_and, rim_kb hw hh hr hi]
theorem pe_countOf {w h r : Nat} (e0 : I 35 0 = Int32.ofNat w) (e1 : I 35 1 = Int32.ofNat h) (hw : 2 ≤ w ∧ w ≤ 6) (hh : 2 ≤ h ∧ h ≤ 6) (hr : r < w + h) (hx : x = Int32.ofNat r) : pe N X 183 [.ref 35, .long u, .int x] (ev_hp I J R T) (fun q hp => q = some (.int (Int32.ofNat (rq w h r u))) ∧ hp = ev_hp I J R T) := by
  subst hx
  have hwh : w * h ≤ 36 := Nat.le_trans (Nat.mul_le_mul hw.2 hh.2) (by decide)
  have hend : rq w h r u = cq (fun i => kb u i && rmp w h r i) (w * h) := by
    unfold rq
    rw [show 64 = w * h + (64 - w * h) by omega]
    refine cq_pad (fun i hi => ?_) _
    unfold rmp
    rw [show Nat.blt i (w * h) = false from by
      cases hz : Nat.blt i (w * h) with
      | false => rfl
      | true => exact absurd (Nat.le_of_ble_eq_true hz) (by omega), Bool.false_and, Bool.and_false]
  have loop : ∀ (d i : Nat), i + d = w * h → ∀ N, pw N X 183 6 [.ref 35, .long u, ez_fill, .int (Int32.ofNat r), .int (Int32.ofNat (cq (fun i => kb u i && rmp w h r i) i)), .int (Int32.ofNat i)] [] (ev_hp I J R T) (fun q hp => q = some (.int (Int32.ofNat (rq w h r u))) ∧ hp = ev_hp I J R T) := by
    intro d
    induction d with
    | zero =>
      intro i hi N
      obtain rfl : i = w * h := by omega
      refine pw_p (rj_6 ⟨fun _ => ⟨by rw [hend], rfl⟩, fun g => ?_⟩)
      rw [e0, e1, io_mul] at g
      exact absurd (Int32.le_refl _) g
    | succ d ih =>
      intro i hi N
      have hb : Nat.blt i (w * h) = true := Nat.ble_eq_true_of_le (by omega)
      have hq : cq (fun i => kb u i && rmp w h r i) (i + 1) = cq (fun i => kb u i && rmp w h r i) i + (bif kb u i && rmp w h r i then 1 else 0) := rfl
      have hc := cq_le (fun i => kb u i && rmp w h r i) i
      have hdm := Nat.div_add_mod i w
      have hdl : i / w ≤ i := Nat.div_le_self _ _
      have hml : i % w < w := Nat.mod_lt _ (by omega)
      have next0 : rmp w h r i = false ∨ kb u i = false → pw N X 183 6 [.ref 35, .long u, ez_fill, .int (Int32.ofNat r), .int (Int32.ofNat (cq (fun i => kb u i && rmp w h r i) i) + (0 : Int32)), .int (Int32.ofNat i + (1 : Int32))] [] (ev_hp I J R T) (fun q hp => q = some (.int (Int32.ofNat (rq w h r u))) ∧ hp = ev_hp I J R T) := by
        intro g
        have hz : (kb u i && rmp w h r i) = false := by
          rcases g with g | g
          · rw [g, Bool.and_false]
          · rw [g, Bool.false_and]
        rw [hz] at hq
        have h5 := ih (i + 1) (by omega) N
        rw [hq] at h5
        rw [io_1, show (0 : Int32) = Int32.ofNat 0 from rfl, io_add]
        exact h5
      have next1 : rmp w h r i = true → kb u i = true → pw N X 183 6 [.ref 35, .long u, ez_fill, .int (Int32.ofNat r), .int (Int32.ofNat (cq (fun i => kb u i && rmp w h r i) i) + (1 : Int32)), .int (Int32.ofNat i + (1 : Int32))] [] (ev_hp I J R T) (fun q hp => q = some (.int (Int32.ofNat (rq w h r u))) ∧ hp = ev_hp I J R T) := by
        intro g1 g2
        rw [g1, g2] at hq
        have h5 := ih (i + 1) (by omega) N
        rw [hq] at h5
        rw [io_1, io_1]
        exact h5
      have hr1 : h ≤ r → rmp w h r i = Nat.beq (i % w) (r - h) := by
        intro g
        unfold rmp
        rw [hb, show Nat.blt r h = false from by
          cases hz : Nat.blt r h with
          | false => rfl
          | true => exact absurd (Nat.le_of_ble_eq_true hz) (by omega)]
        rfl
      have hr2 : ¬ h ≤ r → rmp w h r i = Nat.beq (i / w) r := by
        intro g
        unfold rmp
        rw [hb, show Nat.blt r h = true from Nat.ble_eq_true_of_le (by omega)]
        rfl
      have beqt : ∀ a b : Nat, a = b → Nat.beq a b = true := fun a b e => by rw [e]; exact Nat.beq_refl b
      have beqf : ∀ a b : Nat, ¬ a = b → Nat.beq a b = false := fun a b e => cx_beqf e
      have kbt : ¬ ev_has u (Int32.ofNat i) = 0 → kb u i = true := fun g => by
        cases hz : kb u i with
        | true => rfl
        | false => exact absurd ((has_kb u (by omega)).mpr hz) g
      have hmod : Int32.ofNat i - Int32.ofNat i / Int32.ofNat w * Int32.ofNat w = Int32.ofNat (i % w) := by
        rw [io_div (by omega) (by omega), io_mul, io_sub (by rw [Nat.mul_comm]; omega)]
        congr 1
        rw [Nat.mul_comm]
        omega
      refine pw_p (rj_6 ?_)
      rw [e0, e1, hmod, io_div (by omega) (by omega)]
      refine ⟨fun g => ?_, fun _ => ⟨fun g _ => ⟨fun g2 => ?_, fun g2 => ⟨fun g3 => ?_, fun g3 => ?_⟩⟩, fun g _ => ⟨fun g2 => ?_, fun g2 => ⟨fun g3 => ?_, fun g3 => ?_⟩⟩⟩⟩
      · rw [io_mul, io_le (by omega) (by omega)] at g
        omega
      · rw [io_le (by omega) (by omega)] at g
        rw [io_sub g, io_eq (by omega) (by omega)] at g2
        exact next0 (Or.inl ((hr1 g).trans (beqf _ _ g2)))
      · exact next0 (Or.inr ((has_kb u (by omega)).mp g3))
      · rw [io_le (by omega) (by omega)] at g
        rw [io_sub g, io_eq (by omega) (by omega)] at g2
        exact next1 ((hr1 g).trans (beqt _ _ (Classical.not_not.mp g2))) (kbt g3)
      · rw [io_le (by omega) (by omega)] at g
        rw [io_eq (by omega) (by omega)] at g2
        exact next0 (Or.inl ((hr2 g).trans (beqf _ _ g2)))
      · exact next0 (Or.inr ((has_kb u (by omega)).mp g3))
      · rw [io_le (by omega) (by omega)] at g
        rw [io_eq (by omega) (by omega)] at g2
        exact next1 ((hr2 g).trans (beqt _ _ (Classical.not_not.mp g2))) (kbt g3)
  exact pe_of (pw_p (rj_0 (loop (w * h) 0 (by omega) _)))
end
