section
/-! The easy calls of the reference, by all their ends. -/
noncomputable def ev_has (s : Int64) (k : Int32) : Int32 := if ¬ lg_cmp ((s >>> ((k : Int32).toInt64 &&& 63)) &&& (1 : Int64)) 1 = 0 then 0 else 1
theorem ev_has_01 (s : Int64) (k : Int32) : ev_has s k = 0 ∨ ev_has s k = 1 := by
  unfold ev_has
  split
  · exact Or.inl rfl
  · exact Or.inr rfl
noncomputable def ev_bitsF (s : Int64) : Nat → Int32 → Int32 → Int32
  | 0, _, n => n
  | r + 1, k, n => ev_bitsF s r (k + 1) (n + ev_has s k)
noncomputable def ev_bits (s : Int64) : Int32 := ev_bitsF s 36 0 0
set_option maxRecDepth 100000 in
set_option maxHeartbeats 100000 in
theorem ea_SModel_cells_179_35_r1 (X : ez_X) (I : Nat → Nat → Int32) (J : Nat → Nat → Int64) (R : Nat → Nat) (T : List ez_C) (cz kz : Nat) : ∀ G : ez_F, fx_up X 6 G 179 0 [.ref 35] [] (ev_hp I J R T) cz kz = some (some (.int ((I 35 0) * (I 35 1))), (ev_hp I J R T), cz, kz) := by
  intro G
  rfl
theorem ea_SModel_cells_179_35 (X : ez_X) (I : Nat → Nat → Int32) (J : Nat → Nat → Int64) (R : Nat → Nat) (T : List ez_C)  : ev_W X 179 0 (ez_lay [.ref 35]) [] (ev_hp I J R T) 0 0 (fun r h1 c1 k1 => (r = some (.int ((I 35 0) * (I 35 1))) ∧ h1 = (ev_hp I J R T) ∧ c1 = 0 ∧ k1 = 0)) := by
  refine ev_ret (ea_SModel_cells_179_35_r1 X I J R T _ _) ?_
  exact ⟨rfl, rfl, rfl, rfl⟩
set_option maxRecDepth 100000 in
set_option maxHeartbeats 100000 in
theorem em_has_r1 (X : ez_X) (h : ez_H) (s : Int64) (k : Int32) (cz kz : Nat) : ∀ G : ez_F, fx_up X 8 G 197 0 [.long s, ez_fill, .int k] [] h cz kz = bif decide (¬ (lg_cmp ((s >>> ((k : Int32).toInt64 &&& 63)) &&& (1 : Int64)) 1) = 0) then G 197 14 [.long s, ez_fill, .int k] [] h cz kz else G 197 10 [.long s, ez_fill, .int k] [] h cz kz := by
  intro G
  rfl
set_option maxRecDepth 100000 in
set_option maxHeartbeats 100000 in
theorem em_has_r2 (X : ez_X) (h : ez_H) (s : Int64) (k : Int32) (cz kz : Nat) : ∀ G : ez_F, fx_up X 2 G 197 14 [.long s, ez_fill, .int k] [] h cz kz = some (some (.int 0), h, cz, kz) := by
  intro G
  rfl
set_option maxRecDepth 100000 in
set_option maxHeartbeats 100000 in
theorem em_has_r3 (X : ez_X) (h : ez_H) (s : Int64) (k : Int32) (cz kz : Nat) : ∀ G : ez_F, fx_up X 3 G 197 10 [.long s, ez_fill, .int k] [] h cz kz = some (some (.int 1), h, cz, kz) := by
  intro G
  rfl
theorem em_has (X : ez_X) (h : ez_H) (s : Int64) (k : Int32)  : ev_W X 197 0 (ez_lay [.long s, .int k]) [] h 0 0 (ev_is (some (.int (ev_has s k))) h) := by
  refine ev_if (em_has_r1 X h s k _ _) (fun b1 => ?_) (fun b1 => ?_)
  · replace b1 := of_decide_eq_true b1
    refine ev_ret (em_has_r2 X h s k _ _) ?_
    exact ⟨by rw [ev_has, if_pos b1], rfl, rfl, rfl⟩
  · replace b1 := of_decide_eq_false b1
    refine ev_ret (em_has_r3 X h s k _ _) ?_
    exact ⟨by rw [ev_has, if_neg b1], rfl, rfl, rfl⟩
set_option maxRecDepth 100000 in
set_option maxHeartbeats 100000 in
theorem em_bits_l_r1 (X : ez_X) (h : ez_H) (s : Int64) (k : Int32) (n : Int32) (cz kz : Nat) : ∀ G : ez_F, fx_up X 3 G 171 4 [.long s, ez_fill, .int n, .int k] [] h cz kz = bif decide (36 ≤ k) then G 171 32 [.long s, ez_fill, .int n, .int k] [] h cz kz else G 171 10 [.long s, ez_fill, .int n, .int k] [] h cz kz := by
  intro G
  rfl
set_option maxRecDepth 100000 in
set_option maxHeartbeats 100000 in
theorem em_bits_l_r2 (X : ez_X) (h : ez_H) (s : Int64) (k : Int32) (n : Int32) (cz kz : Nat) : ∀ G : ez_F, fx_up X 2 G 171 32 [.long s, ez_fill, .int n, .int k] [] h cz kz = some (some (.int n), h, cz, kz) := by
  intro G
  rfl
set_option maxRecDepth 100000 in
set_option maxHeartbeats 100000 in
theorem em_bits_l_r3 (X : ez_X) (h : ez_H) (s : Int64) (k : Int32) (n : Int32) (cz kz : Nat) : ∀ G : ez_F, fx_up X 3 G 171 4 [.long s, ez_fill, .int n, .int k] [] h cz kz = bif decide (36 ≤ k) then G 171 32 [.long s, ez_fill, .int n, .int k] [] h cz kz else G 171 10 [.long s, ez_fill, .int n, .int k] [] h cz kz := by
  intro G
  rfl
set_option maxRecDepth 100000 in
set_option maxHeartbeats 100000 in
theorem em_bits_l_r4 (X : ez_X) (h : ez_H) (s : Int64) (k : Int32) (n : Int32) (cz kz : Nat) : ∀ G : ez_F, fx_up X 4 G 171 10 [.long s, ez_fill, .int n, .int k] [] h cz kz = ev_C G 197 [.long s, .int k] h fun r h1 c1 k1 => G 171 16 [.long s, ez_fill, .int n, .int k] (r.toList ++ [.int n]) h1 (cz + c1) (kz + k1) := by
  intro G
  rfl
set_option maxRecDepth 100000 in
set_option maxHeartbeats 100000 in
theorem em_bits_l_r5 (X : ez_X) (h : ez_H) (s : Int64) (k : Int32) (n : Int32) (q44 : Int32) (cz kz : Nat) : ∀ G : ez_F, fx_up X 1 G 171 16 [.long s, ez_fill, .int n, .int k] [.int q44, .int n] h cz kz = bif decide (q44 = 0) then G 171 23 [.long s, ez_fill, .int n, .int k] [.int n] h cz kz else G 171 19 [.long s, ez_fill, .int n, .int k] [.int n] h cz kz := by
  intro G
  rfl
set_option maxRecDepth 100000 in
set_option maxHeartbeats 100000 in
theorem em_bits_l_r6 (X : ez_X) (h : ez_H) (s : Int64) (k : Int32) (n : Int32) (q44 : Int32) (cz kz : Nat) : ∀ G : ez_F, fx_up X 5 G 171 23 [.long s, ez_fill, .int n, .int k] [.int n] h cz kz = G 171 4 [.long s, ez_fill, .int (n + (0 : Int32)), .int (k + (1 : Int32))] [] h cz kz := by
  intro G
  rfl
set_option maxRecDepth 100000 in
set_option maxHeartbeats 100000 in
theorem em_bits_l_r7 (X : ez_X) (h : ez_H) (s : Int64) (k : Int32) (n : Int32) (q44 : Int32) (cz kz : Nat) : ∀ G : ez_F, fx_up X 6 G 171 19 [.long s, ez_fill, .int n, .int k] [.int n] h cz kz = G 171 4 [.long s, ez_fill, .int (n + (1 : Int32)), .int (k + (1 : Int32))] [] h cz kz := by
  intro G
  rfl
theorem em_bits_l (X : ez_X) (h : ez_H) (s : Int64) : ∀ (r : Nat) (k n : Int32), k.toInt + r = 36 → ev_W X 171 4 [.long s, ez_fill, .int n, .int k] [] h 0 0 (ev_is (some (.int (ev_bitsF s r k n))) h) := by
  intro r
  induction r with
  | zero =>
    intro k n hk
    refine ev_if (em_bits_l_r1 X h s k n _ _) (fun b1 => ?_) (fun b1 => ?_)
    · replace b1 := of_decide_eq_true b1
      refine ev_ret (em_bits_l_r2 X h s k n _ _) ?_
      exact ⟨rfl, rfl, rfl, rfl⟩
    · replace b1 := of_decide_eq_false b1
      exact absurd (Int32.le_iff_toInt_le.mpr (by have e : (36 : Int32).toInt = 36 := (by decide); omega)) b1
  | succ r ih =>
    intro k n hk
    have hk2 : ¬ (36 : Int32) ≤ k := fun z => by
      have := Int32.le_iff_toInt_le.mp z
      have e : (36 : Int32).toInt = 36 := by decide
      omega
    refine ev_if (em_bits_l_r3 X h s k n _ _) (fun b2 => ?_) (fun b2 => ?_)
    · replace b2 := of_decide_eq_true b2
      exact absurd b2 hk2
    · replace b2 := of_decide_eq_false b2
      refine ev_call (em_bits_l_r4 X h s k n _ _) (em_has X h s k) ?_
      rintro _ _ _ _ ⟨rfl, hh0, rfl, rfl⟩
      obtain rfl := hh0.symm
      generalize hq44 : (ev_has s k) = q44
      refine ev_if (em_bits_l_r5 X h s k n q44 _ _) (fun b3 => ?_) (fun b3 => ?_)
      · replace b3 := of_decide_eq_true b3
        refine ev_seg (em_bits_l_r6 X h s k n q44 _ _) ?_
        have e1 := ih (k + 1) (n + (0 : Int32)) (by rw [ev_inc (Int32.not_le.mp hk2)]; omega)
        rw [show ev_bitsF s (r + 1) k n = ev_bitsF s r (k + 1) (n + (0 : Int32)) from by
          show ev_bitsF s r (k + 1) (n + ev_has s k) = _
          rcases ev_has_01 s k with hz | hz <;> simp_all]
        exact e1
      · replace b3 := of_decide_eq_false b3
        refine ev_seg (em_bits_l_r7 X h s k n q44 _ _) ?_
        have e1 := ih (k + 1) (n + (1 : Int32)) (by rw [ev_inc (Int32.not_le.mp hk2)]; omega)
        rw [show ev_bitsF s (r + 1) k n = ev_bitsF s r (k + 1) (n + (1 : Int32)) from by
          show ev_bitsF s r (k + 1) (n + ev_has s k) = _
          rcases ev_has_01 s k with hz | hz <;> simp_all]
        exact e1
set_option maxRecDepth 100000 in
set_option maxHeartbeats 100000 in
theorem em_bits_r1 (X : ez_X) (h : ez_H) (s : Int64) (cz kz : Nat) : ∀ G : ez_F, fx_up X 4 G 171 0 [.long s, ez_fill] [] h cz kz = G 171 4 [.long s, ez_fill, .int 0, .int 0] [] h cz kz := by
  intro G
  rfl
theorem em_bits (X : ez_X) (h : ez_H) (s : Int64)  : ev_W X 171 0 (ez_lay [.long s]) [] h 0 0 (ev_is (some (.int (ev_bits s))) h) := by
  refine ev_seg (em_bits_r1 X h s _ _) ?_
  exact em_bits_l X h s 36 0 0 (by decide)
set_option maxRecDepth 100000 in
set_option maxHeartbeats 100000 in
theorem em_grid0_r1 (X : ez_X) (I : Nat → Nat → Int32) (J : Nat → Nat → Int64) (R : Nat → Nat) (T : List ez_C) (w : Int32) (h : Int32) (cz kz : Nat) : ∀ G : ez_F, fx_up X 5 G 195 0 [.ref 35, .int w, .int h, .int 0] [] (ev_hp I J R T) cz kz = ev_C G 198 [.long (w.toInt64), .long 2, .long 6] (ev_hp I J R T) fun r h1 c1 k1 => G 195 11 [.ref 35, .int w, .int h, .int 0] (r.toList ++ []) h1 (cz + c1) (kz + k1) := by
  intro G
  rfl
set_option maxRecDepth 100000 in
set_option maxHeartbeats 100000 in
theorem em_grid0_r2 (X : ez_X) (I : Nat → Nat → Int32) (J : Nat → Nat → Int64) (R : Nat → Nat) (T : List ez_C) (w : Int32) (h : Int32) (q45 : Int32) (cz kz : Nat) : ∀ G : ez_F, fx_up X 1 G 195 11 [.ref 35, .int w, .int h, .int 0] [.int q45] (ev_hp I J R T) cz kz = bif decide (q45 = 0) then G 195 28 [.ref 35, .int w, .int h, .int 0] [] (ev_hp I J R T) cz kz else G 195 14 [.ref 35, .int w, .int h, .int 0] [] (ev_hp I J R T) cz kz := by
  intro G
  rfl
set_option maxRecDepth 100000 in
set_option maxHeartbeats 100000 in
theorem em_grid0_r3 (X : ez_X) (I : Nat → Nat → Int32) (J : Nat → Nat → Int64) (R : Nat → Nat) (T : List ez_C) (w : Int32) (h : Int32) (q45 : Int32) (cz kz : Nat) : ∀ G : ez_F, fx_up X 2 G 195 28 [.ref 35, .int w, .int h, .int 0] [] (ev_hp I J R T) cz kz = some (some (.int (-3)), (ev_hp I J R T), cz, kz) := by
  intro G
  rfl
set_option maxRecDepth 100000 in
set_option maxHeartbeats 100000 in
theorem em_grid0_r4 (X : ez_X) (I : Nat → Nat → Int32) (J : Nat → Nat → Int64) (R : Nat → Nat) (T : List ez_C) (w : Int32) (h : Int32) (q45 : Int32) (cz kz : Nat) : ∀ G : ez_F, fx_up X 5 G 195 14 [.ref 35, .int w, .int h, .int 0] [] (ev_hp I J R T) cz kz = ev_C G 198 [.long (h.toInt64), .long 2, .long 6] (ev_hp I J R T) fun r h1 c1 k1 => G 195 25 [.ref 35, .int w, .int h, .int 0] (r.toList ++ []) h1 (cz + c1) (kz + k1) := by
  intro G
  rfl
set_option maxRecDepth 100000 in
set_option maxHeartbeats 100000 in
theorem em_grid0_r5 (X : ez_X) (I : Nat → Nat → Int32) (J : Nat → Nat → Int64) (R : Nat → Nat) (T : List ez_C) (w : Int32) (h : Int32) (q45 : Int32) (q46 : Int32) (cz kz : Nat) : ∀ G : ez_F, fx_up X 1 G 195 25 [.ref 35, .int w, .int h, .int 0] [.int q46] (ev_hp I J R T) cz kz = bif decide (¬ q46 = 0) then G 195 31 [.ref 35, .int w, .int h, .int 0] [] (ev_hp I J R T) cz kz else G 195 28 [.ref 35, .int w, .int h, .int 0] [] (ev_hp I J R T) cz kz := by
  intro G
  rfl
set_option maxRecDepth 100000 in
set_option maxHeartbeats 100000 in
theorem em_grid0_r6 (X : ez_X) (I : Nat → Nat → Int32) (J : Nat → Nat → Int64) (R : Nat → Nat) (T : List ez_C) (w : Int32) (h : Int32) (q45 : Int32) (q46 : Int32) (cz kz : Nat) : ∀ G : ez_F, fx_up X 24 G 195 31 [.ref 35, .int w, .int h, .int 0] [] (ev_hp I J R T) cz kz = G 195 71 [.ref 35, .int w, .int h, .int 0, .int 0] [.int 0] (ev_hp (ev_sI I 35 (upd (upd (upd (upd (upd (upd (upd (I 35) 0 w) 1 h) 2 0) 3 0) 16 0) 9 0) 10 0)) J R T) cz kz := by
  intro G
  rfl
set_option maxRecDepth 100000 in
set_option maxHeartbeats 100000 in
theorem em_grid0_r7 (X : ez_X) (I : Nat → Nat → Int32) (J : Nat → Nat → Int64) (R : Nat → Nat) (T : List ez_C) (w : Int32) (h : Int32) (q45 : Int32) (q46 : Int32) (cz kz : Nat) : ∀ G : ez_F, fx_up X 24 G 195 71 [.ref 35, .int w, .int h, .int 0, .int 0] [.int 0] (ev_hp (ev_sI I 35 (upd (upd (upd (upd (upd (upd (upd (I 35) 0 w) 1 h) 2 0) 3 0) 16 0) 9 0) 10 0)) J R T) cz kz = G 195 80 [.ref 35, .int w, .int h, .int 0, .int 2] [.ref 61] (ev_hp (ev_sI (ev_sI I 35 (upd (upd (upd (upd (upd (upd (upd (I 35) 0 w) 1 h) 2 0) 3 0) 16 0) 9 0) 10 0)) 61 (upd (upd (I 61) 0 (-1)) 1 (-1))) J R T) cz kz := by
  intro G
  rfl
set_option maxRecDepth 100000 in
set_option maxHeartbeats 100000 in
theorem em_grid0_r8 (X : ez_X) (I : Nat → Nat → Int32) (J : Nat → Nat → Int64) (R : Nat → Nat) (T : List ez_C) (w : Int32) (h : Int32) (q45 : Int32) (q46 : Int32) (cz kz : Nat) : ∀ G : ez_F, fx_up X 24 G 195 80 [.ref 35, .int w, .int h, .int 0, .int 2] [.ref 61] (ev_hp (ev_sI (ev_sI I 35 (upd (upd (upd (upd (upd (upd (upd (I 35) 0 w) 1 h) 2 0) 3 0) 16 0) 9 0) 10 0)) 61 (upd (upd (I 61) 0 (-1)) 1 (-1))) J R T) cz kz = G 195 87 [.ref 35, .int w, .int h, .int 0, .int 5] [] (ev_hp (ev_sI (ev_sI I 35 (upd (upd (upd (upd (upd (upd (upd (I 35) 0 w) 1 h) 2 0) 3 0) 16 0) 9 0) 10 0)) 61 (upd (upd (upd (upd (upd (I 61) 0 (-1)) 1 (-1)) 2 (-1)) 3 (-1)) 4 (-1))) J R T) cz kz := by
  intro G
  rfl
set_option maxRecDepth 100000 in
set_option maxHeartbeats 100000 in
theorem em_grid0_r9 (X : ez_X) (I : Nat → Nat → Int32) (J : Nat → Nat → Int64) (R : Nat → Nat) (T : List ez_C) (w : Int32) (h : Int32) (q45 : Int32) (q46 : Int32) (cz kz : Nat) : ∀ G : ez_F, fx_up X 24 G 195 87 [.ref 35, .int w, .int h, .int 0, .int 5] [] (ev_hp (ev_sI (ev_sI I 35 (upd (upd (upd (upd (upd (upd (upd (I 35) 0 w) 1 h) 2 0) 3 0) 16 0) 9 0) 10 0)) 61 (upd (upd (upd (upd (upd (I 61) 0 (-1)) 1 (-1)) 2 (-1)) 3 (-1)) 4 (-1))) J R T) cz kz = G 195 76 [.ref 35, .int w, .int h, .int 0, .int 7] [] (ev_hp (ev_sI (ev_sI I 35 (upd (upd (upd (upd (upd (upd (upd (I 35) 0 w) 1 h) 2 0) 3 0) 16 0) 9 0) 10 0)) 61 (upd (upd (upd (upd (upd (upd (upd (I 61) 0 (-1)) 1 (-1)) 2 (-1)) 3 (-1)) 4 (-1)) 5 (-1)) 6 (-1))) J R T) cz kz := by
  intro G
  rfl
set_option maxRecDepth 100000 in
set_option maxHeartbeats 100000 in
theorem em_grid0_r10 (X : ez_X) (I : Nat → Nat → Int32) (J : Nat → Nat → Int64) (R : Nat → Nat) (T : List ez_C) (w : Int32) (h : Int32) (q45 : Int32) (q46 : Int32) (cz kz : Nat) : ∀ G : ez_F, fx_up X 24 G 195 76 [.ref 35, .int w, .int h, .int 0, .int 7] [] (ev_hp (ev_sI (ev_sI I 35 (upd (upd (upd (upd (upd (upd (upd (I 35) 0 w) 1 h) 2 0) 3 0) 16 0) 9 0) 10 0)) 61 (upd (upd (upd (upd (upd (upd (upd (I 61) 0 (-1)) 1 (-1)) 2 (-1)) 3 (-1)) 4 (-1)) 5 (-1)) 6 (-1))) J R T) cz kz = G 195 83 [.ref 35, .int w, .int h, .int 0, .int 9] [.int (-1), .int 9, .ref 61] (ev_hp (ev_sI (ev_sI I 35 (upd (upd (upd (upd (upd (upd (upd (I 35) 0 w) 1 h) 2 0) 3 0) 16 0) 9 0) 10 0)) 61 (upd (upd (upd (upd (upd (upd (upd (upd (upd (I 61) 0 (-1)) 1 (-1)) 2 (-1)) 3 (-1)) 4 (-1)) 5 (-1)) 6 (-1)) 7 (-1)) 8 (-1))) J R T) cz kz := by
  intro G
  rfl
set_option maxRecDepth 100000 in
set_option maxHeartbeats 100000 in
theorem em_grid0_r11 (X : ez_X) (I : Nat → Nat → Int32) (J : Nat → Nat → Int64) (R : Nat → Nat) (T : List ez_C) (w : Int32) (h : Int32) (q45 : Int32) (q46 : Int32) (cz kz : Nat) : ∀ G : ez_F, fx_up X 24 G 195 83 [.ref 35, .int w, .int h, .int 0, .int 9] [.int (-1), .int 9, .ref 61] (ev_hp (ev_sI (ev_sI I 35 (upd (upd (upd (upd (upd (upd (upd (I 35) 0 w) 1 h) 2 0) 3 0) 16 0) 9 0) 10 0)) 61 (upd (upd (upd (upd (upd (upd (upd (upd (upd (I 61) 0 (-1)) 1 (-1)) 2 (-1)) 3 (-1)) 4 (-1)) 5 (-1)) 6 (-1)) 7 (-1)) 8 (-1))) J R T) cz kz = G 195 71 [.ref 35, .int w, .int h, .int 0, .int 12] [.int 12] (ev_hp (ev_sI (ev_sI I 35 (upd (upd (upd (upd (upd (upd (upd (I 35) 0 w) 1 h) 2 0) 3 0) 16 0) 9 0) 10 0)) 61 (upd (upd (upd (upd (upd (upd (upd (upd (upd (upd (upd (upd (I 61) 0 (-1)) 1 (-1)) 2 (-1)) 3 (-1)) 4 (-1)) 5 (-1)) 6 (-1)) 7 (-1)) 8 (-1)) 9 (-1)) 10 (-1)) 11 (-1))) J R T) cz kz := by
  intro G
  rfl
set_option maxRecDepth 100000 in
set_option maxHeartbeats 100000 in
theorem em_grid0_r12 (X : ez_X) (I : Nat → Nat → Int32) (J : Nat → Nat → Int64) (R : Nat → Nat) (T : List ez_C) (w : Int32) (h : Int32) (q45 : Int32) (q46 : Int32) (cz kz : Nat) : ∀ G : ez_F, fx_up X 4 G 195 71 [.ref 35, .int w, .int h, .int 0, .int 12] [.int 12] (ev_hp (ev_sI (ev_sI I 35 (upd (upd (upd (upd (upd (upd (upd (I 35) 0 w) 1 h) 2 0) 3 0) 16 0) 9 0) 10 0)) 61 (upd (upd (upd (upd (upd (upd (upd (upd (upd (upd (upd (upd (I 61) 0 (-1)) 1 (-1)) 2 (-1)) 3 (-1)) 4 (-1)) 5 (-1)) 6 (-1)) 7 (-1)) 8 (-1)) 9 (-1)) 10 (-1)) 11 (-1))) J R T) cz kz = ev_C G 179 [.ref 35] (ev_hp (ev_sI (ev_sI I 35 (upd (upd (upd (upd (upd (upd (upd (I 35) 0 w) 1 h) 2 0) 3 0) 16 0) 9 0) 10 0)) 61 (upd (upd (upd (upd (upd (upd (upd (upd (upd (upd (upd (upd (I 61) 0 (-1)) 1 (-1)) 2 (-1)) 3 (-1)) 4 (-1)) 5 (-1)) 6 (-1)) 7 (-1)) 8 (-1)) 9 (-1)) 10 (-1)) 11 (-1))) J R T) fun r h1 c1 k1 => G 195 94 [.ref 35, .int w, .int h, .int 0, .int 12] (r.toList ++ []) h1 (cz + c1) (kz + k1) := by
  intro G
  rfl
set_option maxRecDepth 100000 in
set_option maxHeartbeats 100000 in
theorem em_grid0_r13 (X : ez_X) (I : Nat → Nat → Int32) (J : Nat → Nat → Int64) (R : Nat → Nat) (T : List ez_C) (w : Int32) (h : Int32) (q45 : Int32) (q46 : Int32) (q47 : Int32) (cz kz : Nat) : ∀ G : ez_F, fx_up X 1 G 195 94 [.ref 35, .int w, .int h, .int 0, .int 12] [.int q47] (ev_hp (ev_sI (ev_sI I 35 (upd (upd (upd (upd (upd (upd (upd (I 35) 0 w) 1 h) 2 0) 3 0) 16 0) 9 0) 10 0)) 61 (upd (upd (upd (upd (upd (upd (upd (upd (upd (upd (upd (upd (I 61) 0 (-1)) 1 (-1)) 2 (-1)) 3 (-1)) 4 (-1)) 5 (-1)) 6 (-1)) 7 (-1)) 8 (-1)) 9 (-1)) 10 (-1)) 11 (-1))) J R T) cz kz = some (some (.int q47), (ev_hp (ev_sI (ev_sI I 35 (upd (upd (upd (upd (upd (upd (upd (I 35) 0 w) 1 h) 2 0) 3 0) 16 0) 9 0) 10 0)) 61 (upd (upd (upd (upd (upd (upd (upd (upd (upd (upd (upd (upd (I 61) 0 (-1)) 1 (-1)) 2 (-1)) 3 (-1)) 4 (-1)) 5 (-1)) 6 (-1)) 7 (-1)) 8 (-1)) 9 (-1)) 10 (-1)) 11 (-1))) J R T), cz, kz) := by
  intro G
  rfl
set_option maxRecDepth 100000 in
set_option maxHeartbeats 100000 in
theorem em_grid0_r14 (X : ez_X) (I : Nat → Nat → Int32) (J : Nat → Nat → Int64) (R : Nat → Nat) (T : List ez_C) (w : Int32) (h : Int32) (q45 : Int32) (q46 : Int32) (cz kz : Nat) : ∀ G : ez_F, fx_up X 2 G 195 28 [.ref 35, .int w, .int h, .int 0] [] (ev_hp I J R T) cz kz = some (some (.int (-3)), (ev_hp I J R T), cz, kz) := by
  intro G
  rfl
theorem em_grid0 (X : ez_X) (I : Nat → Nat → Int32) (J : Nat → Nat → Int64) (R : Nat → Nat) (T : List ez_C) (w : Int32) (h : Int32)  : ev_W X 195 0 (ez_lay [.ref 35, .int w, .int h, .int 0]) [] (ev_hp I J R T) 0 0 (fun r h1 c1 k1 => ((((ev_il (w.toInt64) 2 6)) = 0) ∧ r = some (.int (-3)) ∧ h1 = (ev_hp I J R T) ∧ c1 = 0 ∧ k1 = 0) ∨ ((¬ (((ev_il (w.toInt64) 2 6)) = 0)) ∧ (¬ ((ev_il (h.toInt64) 2 6)) = 0) ∧ r = some (.int ((w * h))) ∧ h1 = (ev_hp (ev_sI (ev_sI I 35 (upd (upd (upd (upd (upd (upd (upd (I 35) 0 w) 1 h) 2 0) 3 0) 16 0) 9 0) 10 0)) 61 (upd (upd (upd (upd (upd (upd (upd (upd (upd (upd (upd (upd (I 61) 0 (-1)) 1 (-1)) 2 (-1)) 3 (-1)) 4 (-1)) 5 (-1)) 6 (-1)) 7 (-1)) 8 (-1)) 9 (-1)) 10 (-1)) 11 (-1))) J R T) ∧ c1 = 0 ∧ k1 = 0) ∨ ((¬ (((ev_il (w.toInt64) 2 6)) = 0)) ∧ (¬ (¬ ((ev_il (h.toInt64) 2 6)) = 0)) ∧ r = some (.int (-3)) ∧ h1 = (ev_hp I J R T) ∧ c1 = 0 ∧ k1 = 0)) := by
  refine ev_call (em_grid0_r1 X I J R T w h _ _) (ec_in X (ev_hp I J R T) (w.toInt64) 2 6) ?_
  rintro _ _ _ _ ⟨rfl, rfl, rfl, rfl⟩
  generalize hq45 : (ev_il (w.toInt64) 2 6) = q45
  refine ev_if (em_grid0_r2 X I J R T w h q45 _ _) (fun b1 => ?_) (fun b1 => ?_)
  · replace b1 := of_decide_eq_true b1
    refine ev_ret (em_grid0_r3 X I J R T w h q45 _ _) ?_
    subst hq45
    exact Or.inl ⟨b1, rfl, rfl, rfl, rfl⟩
  · replace b1 := of_decide_eq_false b1
    refine ev_call (em_grid0_r4 X I J R T w h q45 _ _) (ec_in X (ev_hp I J R T) (h.toInt64) 2 6) ?_
    rintro _ _ _ _ ⟨rfl, rfl, rfl, rfl⟩
    generalize hq46 : (ev_il (h.toInt64) 2 6) = q46
    refine ev_if (em_grid0_r5 X I J R T w h q45 q46 _ _) (fun b2 => ?_) (fun b2 => ?_)
    · replace b2 := of_decide_eq_true b2
      refine ev_seg (em_grid0_r6 X I J R T w h q45 q46 _ _) ?_
      refine ev_seg (em_grid0_r7 X I J R T w h q45 q46 _ _) ?_
      refine ev_seg (em_grid0_r8 X I J R T w h q45 q46 _ _) ?_
      refine ev_seg (em_grid0_r9 X I J R T w h q45 q46 _ _) ?_
      refine ev_seg (em_grid0_r10 X I J R T w h q45 q46 _ _) ?_
      refine ev_seg (em_grid0_r11 X I J R T w h q45 q46 _ _) ?_
      refine ev_call (em_grid0_r12 X I J R T w h q45 q46 _ _) (ea_SModel_cells_179_35 X (ev_sI (ev_sI I 35 (upd (upd (upd (upd (upd (upd (upd (I 35) 0 w) 1 h) 2 0) 3 0) 16 0) 9 0) 10 0)) 61 (upd (upd (upd (upd (upd (upd (upd (upd (upd (upd (upd (upd (I 61) 0 (-1)) 1 (-1)) 2 (-1)) 3 (-1)) 4 (-1)) 5 (-1)) 6 (-1)) 7 (-1)) 8 (-1)) 9 (-1)) 10 (-1)) 11 (-1))) J R T) ?_
      rintro r0 _ _ _ (⟨hr0, rfl, rfl, rfl⟩)
      obtain ⟨q47, hq47⟩ : ∃ z : Int32, (w * h) = z := ⟨_, rfl⟩
      have eq47 : r0 = some (.int q47) := hr0.trans (by subst hq47; rfl)
      subst eq47
      refine ev_ret (em_grid0_r13 X I J R T w h q45 q46 q47 _ _) ?_
      subst hq47
      subst hq46
      subst hq45
      exact Or.inr (Or.inl ⟨b1, b2, rfl, rfl, rfl, rfl⟩)
    · replace b2 := of_decide_eq_false b2
      refine ev_ret (em_grid0_r14 X I J R T w h q45 q46 _ _) ?_
      subst hq46
      subst hq45
      exact Or.inr (Or.inr (⟨b1, b2, rfl, rfl, rfl, rfl⟩))
set_option maxRecDepth 100000 in
set_option maxHeartbeats 100000 in
theorem em_grid1_r1 (X : ez_X) (I : Nat → Nat → Int32) (J : Nat → Nat → Int64) (R : Nat → Nat) (T : List ez_C) (w : Int32) (h : Int32) (cz kz : Nat) : ∀ G : ez_F, fx_up X 5 G 195 0 [.ref 35, .int w, .int h, .int 1] [] (ev_hp I J R T) cz kz = ev_C G 198 [.long (w.toInt64), .long 2, .long 6] (ev_hp I J R T) fun r h1 c1 k1 => G 195 11 [.ref 35, .int w, .int h, .int 1] (r.toList ++ []) h1 (cz + c1) (kz + k1) := by
  intro G
  rfl
set_option maxRecDepth 100000 in
set_option maxHeartbeats 100000 in
theorem em_grid1_r2 (X : ez_X) (I : Nat → Nat → Int32) (J : Nat → Nat → Int64) (R : Nat → Nat) (T : List ez_C) (w : Int32) (h : Int32) (q48 : Int32) (cz kz : Nat) : ∀ G : ez_F, fx_up X 1 G 195 11 [.ref 35, .int w, .int h, .int 1] [.int q48] (ev_hp I J R T) cz kz = bif decide (q48 = 0) then G 195 28 [.ref 35, .int w, .int h, .int 1] [] (ev_hp I J R T) cz kz else G 195 14 [.ref 35, .int w, .int h, .int 1] [] (ev_hp I J R T) cz kz := by
  intro G
  rfl
set_option maxRecDepth 100000 in
set_option maxHeartbeats 100000 in
theorem em_grid1_r3 (X : ez_X) (I : Nat → Nat → Int32) (J : Nat → Nat → Int64) (R : Nat → Nat) (T : List ez_C) (w : Int32) (h : Int32) (q48 : Int32) (cz kz : Nat) : ∀ G : ez_F, fx_up X 2 G 195 28 [.ref 35, .int w, .int h, .int 1] [] (ev_hp I J R T) cz kz = some (some (.int (-3)), (ev_hp I J R T), cz, kz) := by
  intro G
  rfl
set_option maxRecDepth 100000 in
set_option maxHeartbeats 100000 in
theorem em_grid1_r4 (X : ez_X) (I : Nat → Nat → Int32) (J : Nat → Nat → Int64) (R : Nat → Nat) (T : List ez_C) (w : Int32) (h : Int32) (q48 : Int32) (cz kz : Nat) : ∀ G : ez_F, fx_up X 5 G 195 14 [.ref 35, .int w, .int h, .int 1] [] (ev_hp I J R T) cz kz = ev_C G 198 [.long (h.toInt64), .long 2, .long 6] (ev_hp I J R T) fun r h1 c1 k1 => G 195 25 [.ref 35, .int w, .int h, .int 1] (r.toList ++ []) h1 (cz + c1) (kz + k1) := by
  intro G
  rfl
set_option maxRecDepth 100000 in
set_option maxHeartbeats 100000 in
theorem em_grid1_r5 (X : ez_X) (I : Nat → Nat → Int32) (J : Nat → Nat → Int64) (R : Nat → Nat) (T : List ez_C) (w : Int32) (h : Int32) (q48 : Int32) (q49 : Int32) (cz kz : Nat) : ∀ G : ez_F, fx_up X 1 G 195 25 [.ref 35, .int w, .int h, .int 1] [.int q49] (ev_hp I J R T) cz kz = bif decide (¬ q49 = 0) then G 195 31 [.ref 35, .int w, .int h, .int 1] [] (ev_hp I J R T) cz kz else G 195 28 [.ref 35, .int w, .int h, .int 1] [] (ev_hp I J R T) cz kz := by
  intro G
  rfl
set_option maxRecDepth 100000 in
set_option maxHeartbeats 100000 in
theorem em_grid1_r6 (X : ez_X) (I : Nat → Nat → Int32) (J : Nat → Nat → Int64) (R : Nat → Nat) (T : List ez_C) (w : Int32) (h : Int32) (q48 : Int32) (q49 : Int32) (cz kz : Nat) : ∀ G : ez_F, fx_up X 24 G 195 31 [.ref 35, .int w, .int h, .int 1] [] (ev_hp I J R T) cz kz = G 195 71 [.ref 35, .int w, .int h, .int 1, .int 0] [.int 0] (ev_hp (ev_sI I 35 (upd (upd (upd (upd (upd (upd (upd (I 35) 0 w) 1 h) 2 1) 3 0) 16 0) 9 0) 10 0)) J R T) cz kz := by
  intro G
  rfl
set_option maxRecDepth 100000 in
set_option maxHeartbeats 100000 in
theorem em_grid1_r7 (X : ez_X) (I : Nat → Nat → Int32) (J : Nat → Nat → Int64) (R : Nat → Nat) (T : List ez_C) (w : Int32) (h : Int32) (q48 : Int32) (q49 : Int32) (cz kz : Nat) : ∀ G : ez_F, fx_up X 24 G 195 71 [.ref 35, .int w, .int h, .int 1, .int 0] [.int 0] (ev_hp (ev_sI I 35 (upd (upd (upd (upd (upd (upd (upd (I 35) 0 w) 1 h) 2 1) 3 0) 16 0) 9 0) 10 0)) J R T) cz kz = G 195 80 [.ref 35, .int w, .int h, .int 1, .int 2] [.ref 61] (ev_hp (ev_sI (ev_sI I 35 (upd (upd (upd (upd (upd (upd (upd (I 35) 0 w) 1 h) 2 1) 3 0) 16 0) 9 0) 10 0)) 61 (upd (upd (I 61) 0 (-1)) 1 (-1))) J R T) cz kz := by
  intro G
  rfl
set_option maxRecDepth 100000 in
set_option maxHeartbeats 100000 in
theorem em_grid1_r8 (X : ez_X) (I : Nat → Nat → Int32) (J : Nat → Nat → Int64) (R : Nat → Nat) (T : List ez_C) (w : Int32) (h : Int32) (q48 : Int32) (q49 : Int32) (cz kz : Nat) : ∀ G : ez_F, fx_up X 24 G 195 80 [.ref 35, .int w, .int h, .int 1, .int 2] [.ref 61] (ev_hp (ev_sI (ev_sI I 35 (upd (upd (upd (upd (upd (upd (upd (I 35) 0 w) 1 h) 2 1) 3 0) 16 0) 9 0) 10 0)) 61 (upd (upd (I 61) 0 (-1)) 1 (-1))) J R T) cz kz = G 195 87 [.ref 35, .int w, .int h, .int 1, .int 5] [] (ev_hp (ev_sI (ev_sI I 35 (upd (upd (upd (upd (upd (upd (upd (I 35) 0 w) 1 h) 2 1) 3 0) 16 0) 9 0) 10 0)) 61 (upd (upd (upd (upd (upd (I 61) 0 (-1)) 1 (-1)) 2 (-1)) 3 (-1)) 4 (-1))) J R T) cz kz := by
  intro G
  rfl
set_option maxRecDepth 100000 in
set_option maxHeartbeats 100000 in
theorem em_grid1_r9 (X : ez_X) (I : Nat → Nat → Int32) (J : Nat → Nat → Int64) (R : Nat → Nat) (T : List ez_C) (w : Int32) (h : Int32) (q48 : Int32) (q49 : Int32) (cz kz : Nat) : ∀ G : ez_F, fx_up X 24 G 195 87 [.ref 35, .int w, .int h, .int 1, .int 5] [] (ev_hp (ev_sI (ev_sI I 35 (upd (upd (upd (upd (upd (upd (upd (I 35) 0 w) 1 h) 2 1) 3 0) 16 0) 9 0) 10 0)) 61 (upd (upd (upd (upd (upd (I 61) 0 (-1)) 1 (-1)) 2 (-1)) 3 (-1)) 4 (-1))) J R T) cz kz = G 195 76 [.ref 35, .int w, .int h, .int 1, .int 7] [] (ev_hp (ev_sI (ev_sI I 35 (upd (upd (upd (upd (upd (upd (upd (I 35) 0 w) 1 h) 2 1) 3 0) 16 0) 9 0) 10 0)) 61 (upd (upd (upd (upd (upd (upd (upd (I 61) 0 (-1)) 1 (-1)) 2 (-1)) 3 (-1)) 4 (-1)) 5 (-1)) 6 (-1))) J R T) cz kz := by
  intro G
  rfl
set_option maxRecDepth 100000 in
set_option maxHeartbeats 100000 in
theorem em_grid1_r10 (X : ez_X) (I : Nat → Nat → Int32) (J : Nat → Nat → Int64) (R : Nat → Nat) (T : List ez_C) (w : Int32) (h : Int32) (q48 : Int32) (q49 : Int32) (cz kz : Nat) : ∀ G : ez_F, fx_up X 24 G 195 76 [.ref 35, .int w, .int h, .int 1, .int 7] [] (ev_hp (ev_sI (ev_sI I 35 (upd (upd (upd (upd (upd (upd (upd (I 35) 0 w) 1 h) 2 1) 3 0) 16 0) 9 0) 10 0)) 61 (upd (upd (upd (upd (upd (upd (upd (I 61) 0 (-1)) 1 (-1)) 2 (-1)) 3 (-1)) 4 (-1)) 5 (-1)) 6 (-1))) J R T) cz kz = G 195 83 [.ref 35, .int w, .int h, .int 1, .int 9] [.int (-1), .int 9, .ref 61] (ev_hp (ev_sI (ev_sI I 35 (upd (upd (upd (upd (upd (upd (upd (I 35) 0 w) 1 h) 2 1) 3 0) 16 0) 9 0) 10 0)) 61 (upd (upd (upd (upd (upd (upd (upd (upd (upd (I 61) 0 (-1)) 1 (-1)) 2 (-1)) 3 (-1)) 4 (-1)) 5 (-1)) 6 (-1)) 7 (-1)) 8 (-1))) J R T) cz kz := by
  intro G
  rfl
set_option maxRecDepth 100000 in
set_option maxHeartbeats 100000 in
theorem em_grid1_r11 (X : ez_X) (I : Nat → Nat → Int32) (J : Nat → Nat → Int64) (R : Nat → Nat) (T : List ez_C) (w : Int32) (h : Int32) (q48 : Int32) (q49 : Int32) (cz kz : Nat) : ∀ G : ez_F, fx_up X 24 G 195 83 [.ref 35, .int w, .int h, .int 1, .int 9] [.int (-1), .int 9, .ref 61] (ev_hp (ev_sI (ev_sI I 35 (upd (upd (upd (upd (upd (upd (upd (I 35) 0 w) 1 h) 2 1) 3 0) 16 0) 9 0) 10 0)) 61 (upd (upd (upd (upd (upd (upd (upd (upd (upd (I 61) 0 (-1)) 1 (-1)) 2 (-1)) 3 (-1)) 4 (-1)) 5 (-1)) 6 (-1)) 7 (-1)) 8 (-1))) J R T) cz kz = G 195 71 [.ref 35, .int w, .int h, .int 1, .int 12] [.int 12] (ev_hp (ev_sI (ev_sI I 35 (upd (upd (upd (upd (upd (upd (upd (I 35) 0 w) 1 h) 2 1) 3 0) 16 0) 9 0) 10 0)) 61 (upd (upd (upd (upd (upd (upd (upd (upd (upd (upd (upd (upd (I 61) 0 (-1)) 1 (-1)) 2 (-1)) 3 (-1)) 4 (-1)) 5 (-1)) 6 (-1)) 7 (-1)) 8 (-1)) 9 (-1)) 10 (-1)) 11 (-1))) J R T) cz kz := by
  intro G
  rfl
set_option maxRecDepth 100000 in
set_option maxHeartbeats 100000 in
theorem em_grid1_r12 (X : ez_X) (I : Nat → Nat → Int32) (J : Nat → Nat → Int64) (R : Nat → Nat) (T : List ez_C) (w : Int32) (h : Int32) (q48 : Int32) (q49 : Int32) (cz kz : Nat) : ∀ G : ez_F, fx_up X 4 G 195 71 [.ref 35, .int w, .int h, .int 1, .int 12] [.int 12] (ev_hp (ev_sI (ev_sI I 35 (upd (upd (upd (upd (upd (upd (upd (I 35) 0 w) 1 h) 2 1) 3 0) 16 0) 9 0) 10 0)) 61 (upd (upd (upd (upd (upd (upd (upd (upd (upd (upd (upd (upd (I 61) 0 (-1)) 1 (-1)) 2 (-1)) 3 (-1)) 4 (-1)) 5 (-1)) 6 (-1)) 7 (-1)) 8 (-1)) 9 (-1)) 10 (-1)) 11 (-1))) J R T) cz kz = ev_C G 179 [.ref 35] (ev_hp (ev_sI (ev_sI I 35 (upd (upd (upd (upd (upd (upd (upd (I 35) 0 w) 1 h) 2 1) 3 0) 16 0) 9 0) 10 0)) 61 (upd (upd (upd (upd (upd (upd (upd (upd (upd (upd (upd (upd (I 61) 0 (-1)) 1 (-1)) 2 (-1)) 3 (-1)) 4 (-1)) 5 (-1)) 6 (-1)) 7 (-1)) 8 (-1)) 9 (-1)) 10 (-1)) 11 (-1))) J R T) fun r h1 c1 k1 => G 195 94 [.ref 35, .int w, .int h, .int 1, .int 12] (r.toList ++ []) h1 (cz + c1) (kz + k1) := by
  intro G
  rfl
set_option maxRecDepth 100000 in
set_option maxHeartbeats 100000 in
theorem em_grid1_r13 (X : ez_X) (I : Nat → Nat → Int32) (J : Nat → Nat → Int64) (R : Nat → Nat) (T : List ez_C) (w : Int32) (h : Int32) (q48 : Int32) (q49 : Int32) (q50 : Int32) (cz kz : Nat) : ∀ G : ez_F, fx_up X 1 G 195 94 [.ref 35, .int w, .int h, .int 1, .int 12] [.int q50] (ev_hp (ev_sI (ev_sI I 35 (upd (upd (upd (upd (upd (upd (upd (I 35) 0 w) 1 h) 2 1) 3 0) 16 0) 9 0) 10 0)) 61 (upd (upd (upd (upd (upd (upd (upd (upd (upd (upd (upd (upd (I 61) 0 (-1)) 1 (-1)) 2 (-1)) 3 (-1)) 4 (-1)) 5 (-1)) 6 (-1)) 7 (-1)) 8 (-1)) 9 (-1)) 10 (-1)) 11 (-1))) J R T) cz kz = some (some (.int q50), (ev_hp (ev_sI (ev_sI I 35 (upd (upd (upd (upd (upd (upd (upd (I 35) 0 w) 1 h) 2 1) 3 0) 16 0) 9 0) 10 0)) 61 (upd (upd (upd (upd (upd (upd (upd (upd (upd (upd (upd (upd (I 61) 0 (-1)) 1 (-1)) 2 (-1)) 3 (-1)) 4 (-1)) 5 (-1)) 6 (-1)) 7 (-1)) 8 (-1)) 9 (-1)) 10 (-1)) 11 (-1))) J R T), cz, kz) := by
  intro G
  rfl
set_option maxRecDepth 100000 in
set_option maxHeartbeats 100000 in
theorem em_grid1_r14 (X : ez_X) (I : Nat → Nat → Int32) (J : Nat → Nat → Int64) (R : Nat → Nat) (T : List ez_C) (w : Int32) (h : Int32) (q48 : Int32) (q49 : Int32) (cz kz : Nat) : ∀ G : ez_F, fx_up X 2 G 195 28 [.ref 35, .int w, .int h, .int 1] [] (ev_hp I J R T) cz kz = some (some (.int (-3)), (ev_hp I J R T), cz, kz) := by
  intro G
  rfl
theorem em_grid1 (X : ez_X) (I : Nat → Nat → Int32) (J : Nat → Nat → Int64) (R : Nat → Nat) (T : List ez_C) (w : Int32) (h : Int32)  : ev_W X 195 0 (ez_lay [.ref 35, .int w, .int h, .int 1]) [] (ev_hp I J R T) 0 0 (fun r h1 c1 k1 => ((((ev_il (w.toInt64) 2 6)) = 0) ∧ r = some (.int (-3)) ∧ h1 = (ev_hp I J R T) ∧ c1 = 0 ∧ k1 = 0) ∨ ((¬ (((ev_il (w.toInt64) 2 6)) = 0)) ∧ (¬ ((ev_il (h.toInt64) 2 6)) = 0) ∧ r = some (.int ((w * h))) ∧ h1 = (ev_hp (ev_sI (ev_sI I 35 (upd (upd (upd (upd (upd (upd (upd (I 35) 0 w) 1 h) 2 1) 3 0) 16 0) 9 0) 10 0)) 61 (upd (upd (upd (upd (upd (upd (upd (upd (upd (upd (upd (upd (I 61) 0 (-1)) 1 (-1)) 2 (-1)) 3 (-1)) 4 (-1)) 5 (-1)) 6 (-1)) 7 (-1)) 8 (-1)) 9 (-1)) 10 (-1)) 11 (-1))) J R T) ∧ c1 = 0 ∧ k1 = 0) ∨ ((¬ (((ev_il (w.toInt64) 2 6)) = 0)) ∧ (¬ (¬ ((ev_il (h.toInt64) 2 6)) = 0)) ∧ r = some (.int (-3)) ∧ h1 = (ev_hp I J R T) ∧ c1 = 0 ∧ k1 = 0)) := by
  refine ev_call (em_grid1_r1 X I J R T w h _ _) (ec_in X (ev_hp I J R T) (w.toInt64) 2 6) ?_
  rintro _ _ _ _ ⟨rfl, rfl, rfl, rfl⟩
  generalize hq48 : (ev_il (w.toInt64) 2 6) = q48
  refine ev_if (em_grid1_r2 X I J R T w h q48 _ _) (fun b1 => ?_) (fun b1 => ?_)
  · replace b1 := of_decide_eq_true b1
    refine ev_ret (em_grid1_r3 X I J R T w h q48 _ _) ?_
    subst hq48
    exact Or.inl ⟨b1, rfl, rfl, rfl, rfl⟩
  · replace b1 := of_decide_eq_false b1
    refine ev_call (em_grid1_r4 X I J R T w h q48 _ _) (ec_in X (ev_hp I J R T) (h.toInt64) 2 6) ?_
    rintro _ _ _ _ ⟨rfl, rfl, rfl, rfl⟩
    generalize hq49 : (ev_il (h.toInt64) 2 6) = q49
    refine ev_if (em_grid1_r5 X I J R T w h q48 q49 _ _) (fun b2 => ?_) (fun b2 => ?_)
    · replace b2 := of_decide_eq_true b2
      refine ev_seg (em_grid1_r6 X I J R T w h q48 q49 _ _) ?_
      refine ev_seg (em_grid1_r7 X I J R T w h q48 q49 _ _) ?_
      refine ev_seg (em_grid1_r8 X I J R T w h q48 q49 _ _) ?_
      refine ev_seg (em_grid1_r9 X I J R T w h q48 q49 _ _) ?_
      refine ev_seg (em_grid1_r10 X I J R T w h q48 q49 _ _) ?_
      refine ev_seg (em_grid1_r11 X I J R T w h q48 q49 _ _) ?_
      refine ev_call (em_grid1_r12 X I J R T w h q48 q49 _ _) (ea_SModel_cells_179_35 X (ev_sI (ev_sI I 35 (upd (upd (upd (upd (upd (upd (upd (I 35) 0 w) 1 h) 2 1) 3 0) 16 0) 9 0) 10 0)) 61 (upd (upd (upd (upd (upd (upd (upd (upd (upd (upd (upd (upd (I 61) 0 (-1)) 1 (-1)) 2 (-1)) 3 (-1)) 4 (-1)) 5 (-1)) 6 (-1)) 7 (-1)) 8 (-1)) 9 (-1)) 10 (-1)) 11 (-1))) J R T) ?_
      rintro r0 _ _ _ (⟨hr0, rfl, rfl, rfl⟩)
      obtain ⟨q50, hq50⟩ : ∃ z : Int32, (w * h) = z := ⟨_, rfl⟩
      have eq50 : r0 = some (.int q50) := hr0.trans (by subst hq50; rfl)
      subst eq50
      refine ev_ret (em_grid1_r13 X I J R T w h q48 q49 q50 _ _) ?_
      subst hq50
      subst hq49
      subst hq48
      exact Or.inr (Or.inl ⟨b1, b2, rfl, rfl, rfl, rfl⟩)
    · replace b2 := of_decide_eq_false b2
      refine ev_ret (em_grid1_r14 X I J R T w h q48 q49 _ _) ?_
      subst hq49
      subst hq48
      exact Or.inr (Or.inr (⟨b1, b2, rfl, rfl, rfl, rfl⟩))
set_option maxRecDepth 100000 in
set_option maxHeartbeats 100000 in
theorem em_ship_r1 (X : ez_X) (I : Nat → Nat → Int32) (J : Nat → Nat → Int64) (R : Nat → Nat) (T : List ez_C) (a : Int32) (b : Int32) (cz kz : Nat) : ∀ G : ez_F, fx_up X 5 G 220 0 [.ref 35, .int a, .int b] [] (ev_hp I J R T) cz kz = ev_C G 198 [.long (a.toInt64), .long 1, .long 65535] (ev_hp I J R T) fun r h1 c1 k1 => G 220 9 [.ref 35, .int a, .int b] (r.toList ++ []) h1 (cz + c1) (kz + k1) := by
  intro G
  rfl
set_option maxRecDepth 100000 in
set_option maxHeartbeats 100000 in
theorem em_ship_r2 (X : ez_X) (I : Nat → Nat → Int32) (J : Nat → Nat → Int64) (R : Nat → Nat) (T : List ez_C) (a : Int32) (b : Int32) (q51 : Int32) (cz kz : Nat) : ∀ G : ez_F, fx_up X 1 G 220 9 [.ref 35, .int a, .int b] [.int q51] (ev_hp I J R T) cz kz = bif decide (q51 = 0) then G 220 33 [.ref 35, .int a, .int b] [] (ev_hp I J R T) cz kz else G 220 12 [.ref 35, .int a, .int b] [] (ev_hp I J R T) cz kz := by
  intro G
  rfl
set_option maxRecDepth 100000 in
set_option maxHeartbeats 100000 in
theorem em_ship_r3 (X : ez_X) (I : Nat → Nat → Int32) (J : Nat → Nat → Int64) (R : Nat → Nat) (T : List ez_C) (a : Int32) (b : Int32) (q51 : Int32) (cz kz : Nat) : ∀ G : ez_F, fx_up X 2 G 220 33 [.ref 35, .int a, .int b] [] (ev_hp I J R T) cz kz = some (some (.int (-3)), (ev_hp I J R T), cz, kz) := by
  intro G
  rfl
set_option maxRecDepth 100000 in
set_option maxHeartbeats 100000 in
theorem em_ship_r4 (X : ez_X) (I : Nat → Nat → Int32) (J : Nat → Nat → Int64) (R : Nat → Nat) (T : List ez_C) (a : Int32) (b : Int32) (q51 : Int32) (cz kz : Nat) : ∀ G : ez_F, fx_up X 3 G 220 12 [.ref 35, .int a, .int b] [] (ev_hp I J R T) cz kz = ev_C G 171 [.long (a.toInt64)] (ev_hp I J R T) fun r h1 c1 k1 => G 220 17 [.ref 35, .int a, .int b] (r.toList ++ []) h1 (cz + c1) (kz + k1) := by
  intro G
  rfl
set_option maxRecDepth 100000 in
set_option maxHeartbeats 100000 in
theorem em_ship_r5 (X : ez_X) (I : Nat → Nat → Int32) (J : Nat → Nat → Int64) (R : Nat → Nat) (T : List ez_C) (a : Int32) (b : Int32) (q51 : Int32) (q52 : Int32) (cz kz : Nat) : ∀ G : ez_F, fx_up X 2 G 220 17 [.ref 35, .int a, .int b] [.int q52] (ev_hp I J R T) cz kz = bif decide (5 < q52) then G 220 33 [.ref 35, .int a, .int b] [] (ev_hp I J R T) cz kz else G 220 21 [.ref 35, .int a, .int b] [] (ev_hp I J R T) cz kz := by
  intro G
  rfl
set_option maxRecDepth 100000 in
set_option maxHeartbeats 100000 in
theorem em_ship_r6 (X : ez_X) (I : Nat → Nat → Int32) (J : Nat → Nat → Int64) (R : Nat → Nat) (T : List ez_C) (a : Int32) (b : Int32) (q51 : Int32) (q52 : Int32) (cz kz : Nat) : ∀ G : ez_F, fx_up X 2 G 220 33 [.ref 35, .int a, .int b] [] (ev_hp I J R T) cz kz = some (some (.int (-3)), (ev_hp I J R T), cz, kz) := by
  intro G
  rfl
set_option maxRecDepth 100000 in
set_option maxHeartbeats 100000 in
theorem em_ship_r7 (X : ez_X) (I : Nat → Nat → Int32) (J : Nat → Nat → Int64) (R : Nat → Nat) (T : List ez_C) (a : Int32) (b : Int32) (q51 : Int32) (q52 : Int32) (cz kz : Nat) : ∀ G : ez_F, fx_up X 5 G 220 21 [.ref 35, .int a, .int b] [] (ev_hp I J R T) cz kz = ev_C G 198 [.long (b.toInt64), .long 0, .long 2] (ev_hp I J R T) fun r h1 c1 k1 => G 220 30 [.ref 35, .int a, .int b] (r.toList ++ []) h1 (cz + c1) (kz + k1) := by
  intro G
  rfl
set_option maxRecDepth 100000 in
set_option maxHeartbeats 100000 in
theorem em_ship_r8 (X : ez_X) (I : Nat → Nat → Int32) (J : Nat → Nat → Int64) (R : Nat → Nat) (T : List ez_C) (a : Int32) (b : Int32) (q51 : Int32) (q52 : Int32) (q53 : Int32) (cz kz : Nat) : ∀ G : ez_F, fx_up X 1 G 220 30 [.ref 35, .int a, .int b] [.int q53] (ev_hp I J R T) cz kz = bif decide (¬ q53 = 0) then G 220 36 [.ref 35, .int a, .int b] [] (ev_hp I J R T) cz kz else G 220 33 [.ref 35, .int a, .int b] [] (ev_hp I J R T) cz kz := by
  intro G
  rfl
set_option maxRecDepth 100000 in
set_option maxHeartbeats 100000 in
theorem em_ship_r9 (X : ez_X) (I : Nat → Nat → Int32) (J : Nat → Nat → Int64) (R : Nat → Nat) (T : List ez_C) (a : Int32) (b : Int32) (q51 : Int32) (q52 : Int32) (q53 : Int32) (cz kz : Nat) : ∀ G : ez_F, fx_up X 3 G 220 36 [.ref 35, .int a, .int b] [] (ev_hp I J R T) cz kz = bif decide ((I 35 16) ≤ 0) then G 220 46 [.ref 35, .int a, .int b] [] (ev_hp I J R T) cz kz else G 220 43 [.ref 35, .int a, .int b] [] (ev_hp I J R T) cz kz := by
  intro G
  rfl
set_option maxRecDepth 100000 in
set_option maxHeartbeats 100000 in
theorem em_ship_r10 (X : ez_X) (I : Nat → Nat → Int32) (J : Nat → Nat → Int64) (R : Nat → Nat) (T : List ez_C) (a : Int32) (b : Int32) (q51 : Int32) (q52 : Int32) (q53 : Int32) (cz kz : Nat) : ∀ G : ez_F, fx_up X 4 G 220 46 [.ref 35, .int a, .int b] [] (ev_hp I J R T) cz kz = bif decide (¬ (I 35 3) = 3) then G 220 57 [.ref 35, .int a, .int b] [] (ev_hp I J R T) cz kz else G 220 54 [.ref 35, .int a, .int b] [] (ev_hp I J R T) cz kz := by
  intro G
  rfl
set_option maxRecDepth 100000 in
set_option maxHeartbeats 100000 in
theorem em_ship_r11 (X : ez_X) (I : Nat → Nat → Int32) (J : Nat → Nat → Int64) (R : Nat → Nat) (T : List ez_C) (a : Int32) (b : Int32) (q51 : Int32) (q52 : Int32) (q53 : Int32) (cz kz : Nat) : ∀ G : ez_F, fx_up X 5 G 220 57 [.ref 35, .int a, .int b] [] (ev_hp I J R T) cz kz = G 220 66 [.ref 35, .int a, .int b] [.int a, .int (I 35 3), .ref 36] (ev_hp I J R T) cz kz := by
  intro G
  rfl
set_option maxRecDepth 100000 in
set_option maxHeartbeats 100000 in
theorem em_ship_r12 (X : ez_X) (I : Nat → Nat → Int32) (J : Nat → Nat → Int64) (R : Nat → Nat) (T : List ez_C) (a : Int32) (b : Int32) (q51 : Int32) (q52 : Int32) (q53 : Int32) (cz kz : Nat) : ∀ G : ez_F, fx_up X 5 G 220 67 [.ref 35, .int a, .int b] [] (ev_hp (ev_sI I 36 (upd (I 36) (I 35 3).toNatClampNeg a)) J R T) cz kz = G 220 76 [.ref 35, .int a, .int b] [.int b, .int (I 35 3), .ref 37] (ev_hp (ev_sI I 36 (upd (I 36) (I 35 3).toNatClampNeg a)) J R T) cz kz := by
  intro G
  rfl
set_option maxRecDepth 100000 in
set_option maxHeartbeats 100000 in
theorem em_ship_r13 (X : ez_X) (I : Nat → Nat → Int32) (J : Nat → Nat → Int64) (R : Nat → Nat) (T : List ez_C) (a : Int32) (b : Int32) (q51 : Int32) (q52 : Int32) (q53 : Int32) (cz kz : Nat) : ∀ G : ez_F, fx_up X 11 G 220 77 [.ref 35, .int a, .int b] [] (ev_hp (ev_sI (ev_sI I 36 (upd (I 36) (I 35 3).toNatClampNeg a)) 37 (upd (I 37) (I 35 3).toNatClampNeg b)) J R T) cz kz = some (some (.int (((I 35 3) + (1 : Int32)) - (1 : Int32))), (ev_hp (ev_sI (ev_sI (ev_sI I 35 (upd (I 35) 3 ((I 35 3) + (1 : Int32)))) 36 (upd (I 36) (I 35 3).toNatClampNeg a)) 37 (upd (I 37) (I 35 3).toNatClampNeg b)) J R T), cz, kz) := by
  intro G
  rfl
set_option maxRecDepth 100000 in
set_option maxHeartbeats 100000 in
theorem em_ship_r14 (X : ez_X) (I : Nat → Nat → Int32) (J : Nat → Nat → Int64) (R : Nat → Nat) (T : List ez_C) (a : Int32) (b : Int32) (q51 : Int32) (q52 : Int32) (q53 : Int32) (cz kz : Nat) : ∀ G : ez_F, fx_up X 2 G 220 54 [.ref 35, .int a, .int b] [] (ev_hp I J R T) cz kz = some (some (.int (-5)), (ev_hp I J R T), cz, kz) := by
  intro G
  rfl
set_option maxRecDepth 100000 in
set_option maxHeartbeats 100000 in
theorem em_ship_r15 (X : ez_X) (I : Nat → Nat → Int32) (J : Nat → Nat → Int64) (R : Nat → Nat) (T : List ez_C) (a : Int32) (b : Int32) (q51 : Int32) (q52 : Int32) (q53 : Int32) (cz kz : Nat) : ∀ G : ez_F, fx_up X 2 G 220 43 [.ref 35, .int a, .int b] [] (ev_hp I J R T) cz kz = some (some (.int (-4)), (ev_hp I J R T), cz, kz) := by
  intro G
  rfl
set_option maxRecDepth 100000 in
set_option maxHeartbeats 100000 in
theorem em_ship_r16 (X : ez_X) (I : Nat → Nat → Int32) (J : Nat → Nat → Int64) (R : Nat → Nat) (T : List ez_C) (a : Int32) (b : Int32) (q51 : Int32) (q52 : Int32) (q53 : Int32) (cz kz : Nat) : ∀ G : ez_F, fx_up X 2 G 220 33 [.ref 35, .int a, .int b] [] (ev_hp I J R T) cz kz = some (some (.int (-3)), (ev_hp I J R T), cz, kz) := by
  intro G
  rfl
theorem em_ship (X : ez_X) (I : Nat → Nat → Int32) (J : Nat → Nat → Int64) (R : Nat → Nat) (T : List ez_C) (a : Int32) (b : Int32) (hix : ¬ (I 35 3) = 3 → ev_ix (I 35 3) 3) : ev_W X 220 0 (ez_lay [.ref 35, .int a, .int b]) [] (ev_hp I J R T) 0 0 (fun r h1 c1 k1 => ((((ev_il (a.toInt64) 1 65535)) = 0) ∧ r = some (.int (-3)) ∧ h1 = (ev_hp I J R T) ∧ c1 = 0 ∧ k1 = 0) ∨ ((¬ (((ev_il (a.toInt64) 1 65535)) = 0)) ∧ (5 < ((ev_bits (a.toInt64)))) ∧ r = some (.int (-3)) ∧ h1 = (ev_hp I J R T) ∧ c1 = 0 ∧ k1 = 0) ∨ ((¬ (((ev_il (a.toInt64) 1 65535)) = 0)) ∧ (¬ (5 < ((ev_bits (a.toInt64))))) ∧ (¬ ((ev_il (b.toInt64) 0 2)) = 0) ∧ ((I 35 16) ≤ 0) ∧ (¬ (I 35 3) = 3) ∧ r = some (.int (((I 35 3) + (1 : Int32)) - (1 : Int32))) ∧ h1 = (ev_hp (ev_sI (ev_sI (ev_sI I 35 (upd (I 35) 3 ((I 35 3) + (1 : Int32)))) 36 (upd (I 36) (I 35 3).toNatClampNeg a)) 37 (upd (I 37) (I 35 3).toNatClampNeg b)) J R T) ∧ c1 = 0 ∧ k1 = 0) ∨ ((¬ (((ev_il (a.toInt64) 1 65535)) = 0)) ∧ (¬ (5 < ((ev_bits (a.toInt64))))) ∧ (¬ ((ev_il (b.toInt64) 0 2)) = 0) ∧ ((I 35 16) ≤ 0) ∧ (¬ (¬ (I 35 3) = 3)) ∧ r = some (.int (-5)) ∧ h1 = (ev_hp I J R T) ∧ c1 = 0 ∧ k1 = 0) ∨ ((¬ (((ev_il (a.toInt64) 1 65535)) = 0)) ∧ (¬ (5 < ((ev_bits (a.toInt64))))) ∧ (¬ ((ev_il (b.toInt64) 0 2)) = 0) ∧ (¬ ((I 35 16) ≤ 0)) ∧ r = some (.int (-4)) ∧ h1 = (ev_hp I J R T) ∧ c1 = 0 ∧ k1 = 0) ∨ ((¬ (((ev_il (a.toInt64) 1 65535)) = 0)) ∧ (¬ (5 < ((ev_bits (a.toInt64))))) ∧ (¬ (¬ ((ev_il (b.toInt64) 0 2)) = 0)) ∧ r = some (.int (-3)) ∧ h1 = (ev_hp I J R T) ∧ c1 = 0 ∧ k1 = 0)) := by
  refine ev_call (em_ship_r1 X I J R T a b _ _) (ec_in X (ev_hp I J R T) (a.toInt64) 1 65535) ?_
  rintro _ _ _ _ ⟨rfl, rfl, rfl, rfl⟩
  generalize hq51 : (ev_il (a.toInt64) 1 65535) = q51
  refine ev_if (em_ship_r2 X I J R T a b q51 _ _) (fun b1 => ?_) (fun b1 => ?_)
  · replace b1 := of_decide_eq_true b1
    refine ev_ret (em_ship_r3 X I J R T a b q51 _ _) ?_
    subst hq51
    exact Or.inl ⟨b1, rfl, rfl, rfl, rfl⟩
  · replace b1 := of_decide_eq_false b1
    refine ev_call (em_ship_r4 X I J R T a b q51 _ _) (em_bits X (ev_hp I J R T) (a.toInt64)) ?_
    rintro _ _ _ _ ⟨rfl, rfl, rfl, rfl⟩
    generalize hq52 : (ev_bits (a.toInt64)) = q52
    refine ev_if (em_ship_r5 X I J R T a b q51 q52 _ _) (fun b2 => ?_) (fun b2 => ?_)
    · replace b2 := of_decide_eq_true b2
      refine ev_ret (em_ship_r6 X I J R T a b q51 q52 _ _) ?_
      subst hq52
      subst hq51
      exact Or.inr (Or.inl ⟨b1, b2, rfl, rfl, rfl, rfl⟩)
    · replace b2 := of_decide_eq_false b2
      refine ev_call (em_ship_r7 X I J R T a b q51 q52 _ _) (ec_in X (ev_hp I J R T) (b.toInt64) 0 2) ?_
      rintro _ _ _ _ ⟨rfl, rfl, rfl, rfl⟩
      generalize hq53 : (ev_il (b.toInt64) 0 2) = q53
      refine ev_if (em_ship_r8 X I J R T a b q51 q52 q53 _ _) (fun b3 => ?_) (fun b3 => ?_)
      · replace b3 := of_decide_eq_true b3
        refine ev_if (em_ship_r9 X I J R T a b q51 q52 q53 _ _) (fun b4 => ?_) (fun b4 => ?_)
        · replace b4 := of_decide_eq_true b4
          refine ev_if (em_ship_r10 X I J R T a b q51 q52 q53 _ _) (fun b5 => ?_) (fun b5 => ?_)
          · replace b5 := of_decide_eq_true b5
            refine ev_seg (em_ship_r11 X I J R T a b q51 q52 q53 _ _) ?_
            refine ev_iastH (n := 3) (h2 := (ev_hp (ev_sI I 36 (upd (I 36) (I 35 3).toNatClampNeg a)) J R T)) (by rfl) (by rfl) (hix (by assumption)) (by rfl) ?_
            refine ev_seg (em_ship_r12 X I J R T a b q51 q52 q53 _ _) ?_
            refine ev_iastH (n := 3) (h2 := (ev_hp (ev_sI (ev_sI I 36 (upd (I 36) (I 35 3).toNatClampNeg a)) 37 (upd (I 37) (I 35 3).toNatClampNeg b)) J R T)) (by rfl) (by rfl) (hix (by assumption)) (by rfl) ?_
            refine ev_ret (em_ship_r13 X I J R T a b q51 q52 q53 _ _) ?_
            subst hq53
            subst hq52
            subst hq51
            exact Or.inr (Or.inr (Or.inl ⟨b1, b2, b3, b4, b5, rfl, rfl, rfl, rfl⟩))
          · replace b5 := of_decide_eq_false b5
            refine ev_ret (em_ship_r14 X I J R T a b q51 q52 q53 _ _) ?_
            subst hq53
            subst hq52
            subst hq51
            exact Or.inr (Or.inr (Or.inr (Or.inl ⟨b1, b2, b3, b4, b5, rfl, rfl, rfl, rfl⟩)))
        · replace b4 := of_decide_eq_false b4
          refine ev_ret (em_ship_r15 X I J R T a b q51 q52 q53 _ _) ?_
          subst hq53
          subst hq52
          subst hq51
          exact Or.inr (Or.inr (Or.inr (Or.inr (Or.inl ⟨b1, b2, b3, b4, rfl, rfl, rfl, rfl⟩))))
      · replace b3 := of_decide_eq_false b3
        refine ev_ret (em_ship_r16 X I J R T a b q51 q52 q53 _ _) ?_
        subst hq53
        subst hq52
        subst hq51
        exact Or.inr (Or.inr (Or.inr (Or.inr (Or.inr (⟨b1, b2, b3, rfl, rfl, rfl, rfl⟩)))))
set_option maxRecDepth 100000 in
set_option maxHeartbeats 100000 in
theorem em_set_r1 (X : ez_X) (I : Nat → Nat → Int32) (J : Nat → Nat → Int64) (R : Nat → Nat) (T : List ez_C) (a : Int32) (b : Int32) (cz kz : Nat) : ∀ G : ez_F, fx_up X 2 G 219 0 [.ref 35, .int a, .int b] [] (ev_hp I J R T) cz kz = bif decide (¬ a = 0) then G 219 28 [.ref 35, .int a, .int b] [] (ev_hp I J R T) cz kz else G 219 4 [.ref 35, .int a, .int b] [] (ev_hp I J R T) cz kz := by
  intro G
  rfl
set_option maxRecDepth 100000 in
set_option maxHeartbeats 100000 in
theorem em_set_r2 (X : ez_X) (I : Nat → Nat → Int32) (J : Nat → Nat → Int64) (R : Nat → Nat) (T : List ez_C) (a : Int32) (b : Int32) (cz kz : Nat) : ∀ G : ez_F, fx_up X 3 G 219 28 [.ref 35, .int a, .int b] [] (ev_hp I J R T) cz kz = bif decide (¬ a = 1) then G 219 55 [.ref 35, .int a, .int b] [] (ev_hp I J R T) cz kz else G 219 33 [.ref 35, .int a, .int b] [] (ev_hp I J R T) cz kz := by
  intro G
  rfl
set_option maxRecDepth 100000 in
set_option maxHeartbeats 100000 in
theorem em_set_r3 (X : ez_X) (I : Nat → Nat → Int32) (J : Nat → Nat → Int64) (R : Nat → Nat) (T : List ez_C) (a : Int32) (b : Int32) (cz kz : Nat) : ∀ G : ez_F, fx_up X 3 G 219 55 [.ref 35, .int a, .int b] [] (ev_hp I J R T) cz kz = bif decide (¬ a = 2) then G 219 84 [.ref 35, .int a, .int b] [] (ev_hp I J R T) cz kz else G 219 60 [.ref 35, .int a, .int b] [] (ev_hp I J R T) cz kz := by
  intro G
  rfl
set_option maxRecDepth 100000 in
set_option maxHeartbeats 100000 in
theorem em_set_r4 (X : ez_X) (I : Nat → Nat → Int32) (J : Nat → Nat → Int64) (R : Nat → Nat) (T : List ez_C) (a : Int32) (b : Int32) (cz kz : Nat) : ∀ G : ez_F, fx_up X 2 G 219 84 [.ref 35, .int a, .int b] [] (ev_hp I J R T) cz kz = some (some (.int (-3)), (ev_hp I J R T), cz, kz) := by
  intro G
  rfl
set_option maxRecDepth 100000 in
set_option maxHeartbeats 100000 in
theorem em_set_r5 (X : ez_X) (I : Nat → Nat → Int32) (J : Nat → Nat → Int64) (R : Nat → Nat) (T : List ez_C) (a : Int32) (b : Int32) (cz kz : Nat) : ∀ G : ez_F, fx_up X 5 G 219 60 [.ref 35, .int a, .int b] [] (ev_hp I J R T) cz kz = ev_C G 198 [.long (b.toInt64), .long 0, .long 2] (ev_hp I J R T) fun r h1 c1 k1 => G 219 69 [.ref 35, .int a, .int b] (r.toList ++ []) h1 (cz + c1) (kz + k1) := by
  intro G
  rfl
set_option maxRecDepth 100000 in
set_option maxHeartbeats 100000 in
theorem em_set_r6 (X : ez_X) (I : Nat → Nat → Int32) (J : Nat → Nat → Int64) (R : Nat → Nat) (T : List ez_C) (a : Int32) (b : Int32) (q54 : Int32) (cz kz : Nat) : ∀ G : ez_F, fx_up X 1 G 219 69 [.ref 35, .int a, .int b] [.int q54] (ev_hp I J R T) cz kz = bif decide (q54 = 0) then G 219 84 [.ref 35, .int a, .int b] [] (ev_hp I J R T) cz kz else G 219 72 [.ref 35, .int a, .int b] [] (ev_hp I J R T) cz kz := by
  intro G
  rfl
set_option maxRecDepth 100000 in
set_option maxHeartbeats 100000 in
theorem em_set_r7 (X : ez_X) (I : Nat → Nat → Int32) (J : Nat → Nat → Int64) (R : Nat → Nat) (T : List ez_C) (a : Int32) (b : Int32) (q54 : Int32) (cz kz : Nat) : ∀ G : ez_F, fx_up X 2 G 219 84 [.ref 35, .int a, .int b] [] (ev_hp I J R T) cz kz = some (some (.int (-3)), (ev_hp I J R T), cz, kz) := by
  intro G
  rfl
set_option maxRecDepth 100000 in
set_option maxHeartbeats 100000 in
theorem em_set_r8 (X : ez_X) (I : Nat → Nat → Int32) (J : Nat → Nat → Int64) (R : Nat → Nat) (T : List ez_C) (a : Int32) (b : Int32) (q54 : Int32) (cz kz : Nat) : ∀ G : ez_F, fx_up X 8 G 219 72 [.ref 35, .int a, .int b] [] (ev_hp I J R T) cz kz = some (some (.int (I 35 8)), (ev_hp (ev_sI I 35 (upd (I 35) 8 b)) J R T), cz, kz) := by
  intro G
  rfl
set_option maxRecDepth 100000 in
set_option maxHeartbeats 100000 in
theorem em_set_r9 (X : ez_X) (I : Nat → Nat → Int32) (J : Nat → Nat → Int64) (R : Nat → Nat) (T : List ez_C) (a : Int32) (b : Int32) (cz kz : Nat) : ∀ G : ez_F, fx_up X 5 G 219 33 [.ref 35, .int a, .int b] [] (ev_hp I J R T) cz kz = ev_C G 198 [.long (b.toInt64), .long 0, .long 1] (ev_hp I J R T) fun r h1 c1 k1 => G 219 40 [.ref 35, .int a, .int b] (r.toList ++ []) h1 (cz + c1) (kz + k1) := by
  intro G
  rfl
set_option maxRecDepth 100000 in
set_option maxHeartbeats 100000 in
theorem em_set_r10 (X : ez_X) (I : Nat → Nat → Int32) (J : Nat → Nat → Int64) (R : Nat → Nat) (T : List ez_C) (a : Int32) (b : Int32) (q55 : Int32) (cz kz : Nat) : ∀ G : ez_F, fx_up X 1 G 219 40 [.ref 35, .int a, .int b] [.int q55] (ev_hp I J R T) cz kz = bif decide (q55 = 0) then G 219 55 [.ref 35, .int a, .int b] [] (ev_hp I J R T) cz kz else G 219 43 [.ref 35, .int a, .int b] [] (ev_hp I J R T) cz kz := by
  intro G
  rfl
set_option maxRecDepth 100000 in
set_option maxHeartbeats 100000 in
theorem em_set_r11 (X : ez_X) (I : Nat → Nat → Int32) (J : Nat → Nat → Int64) (R : Nat → Nat) (T : List ez_C) (a : Int32) (b : Int32) (q55 : Int32) (cz kz : Nat) : ∀ G : ez_F, fx_up X 3 G 219 55 [.ref 35, .int a, .int b] [] (ev_hp I J R T) cz kz = bif decide (¬ a = 2) then G 219 84 [.ref 35, .int a, .int b] [] (ev_hp I J R T) cz kz else G 219 60 [.ref 35, .int a, .int b] [] (ev_hp I J R T) cz kz := by
  intro G
  rfl
set_option maxRecDepth 100000 in
set_option maxHeartbeats 100000 in
theorem em_set_r12 (X : ez_X) (I : Nat → Nat → Int32) (J : Nat → Nat → Int64) (R : Nat → Nat) (T : List ez_C) (a : Int32) (b : Int32) (q55 : Int32) (cz kz : Nat) : ∀ G : ez_F, fx_up X 2 G 219 84 [.ref 35, .int a, .int b] [] (ev_hp I J R T) cz kz = some (some (.int (-3)), (ev_hp I J R T), cz, kz) := by
  intro G
  rfl
set_option maxRecDepth 100000 in
set_option maxHeartbeats 100000 in
theorem em_set_r13 (X : ez_X) (I : Nat → Nat → Int32) (J : Nat → Nat → Int64) (R : Nat → Nat) (T : List ez_C) (a : Int32) (b : Int32) (q55 : Int32) (cz kz : Nat) : ∀ G : ez_F, fx_up X 5 G 219 60 [.ref 35, .int a, .int b] [] (ev_hp I J R T) cz kz = ev_C G 198 [.long (b.toInt64), .long 0, .long 2] (ev_hp I J R T) fun r h1 c1 k1 => G 219 69 [.ref 35, .int a, .int b] (r.toList ++ []) h1 (cz + c1) (kz + k1) := by
  intro G
  rfl
set_option maxRecDepth 100000 in
set_option maxHeartbeats 100000 in
theorem em_set_r14 (X : ez_X) (I : Nat → Nat → Int32) (J : Nat → Nat → Int64) (R : Nat → Nat) (T : List ez_C) (a : Int32) (b : Int32) (q55 : Int32) (q56 : Int32) (cz kz : Nat) : ∀ G : ez_F, fx_up X 1 G 219 69 [.ref 35, .int a, .int b] [.int q56] (ev_hp I J R T) cz kz = bif decide (q56 = 0) then G 219 84 [.ref 35, .int a, .int b] [] (ev_hp I J R T) cz kz else G 219 72 [.ref 35, .int a, .int b] [] (ev_hp I J R T) cz kz := by
  intro G
  rfl
set_option maxRecDepth 100000 in
set_option maxHeartbeats 100000 in
theorem em_set_r15 (X : ez_X) (I : Nat → Nat → Int32) (J : Nat → Nat → Int64) (R : Nat → Nat) (T : List ez_C) (a : Int32) (b : Int32) (q55 : Int32) (q56 : Int32) (cz kz : Nat) : ∀ G : ez_F, fx_up X 2 G 219 84 [.ref 35, .int a, .int b] [] (ev_hp I J R T) cz kz = some (some (.int (-3)), (ev_hp I J R T), cz, kz) := by
  intro G
  rfl
set_option maxRecDepth 100000 in
set_option maxHeartbeats 100000 in
theorem em_set_r16 (X : ez_X) (I : Nat → Nat → Int32) (J : Nat → Nat → Int64) (R : Nat → Nat) (T : List ez_C) (a : Int32) (b : Int32) (q55 : Int32) (q56 : Int32) (cz kz : Nat) : ∀ G : ez_F, fx_up X 8 G 219 72 [.ref 35, .int a, .int b] [] (ev_hp I J R T) cz kz = some (some (.int (I 35 8)), (ev_hp (ev_sI I 35 (upd (I 35) 8 b)) J R T), cz, kz) := by
  intro G
  rfl
set_option maxRecDepth 100000 in
set_option maxHeartbeats 100000 in
theorem em_set_r17 (X : ez_X) (I : Nat → Nat → Int32) (J : Nat → Nat → Int64) (R : Nat → Nat) (T : List ez_C) (a : Int32) (b : Int32) (q55 : Int32) (cz kz : Nat) : ∀ G : ez_F, fx_up X 8 G 219 43 [.ref 35, .int a, .int b] [] (ev_hp I J R T) cz kz = some (some (.int (I 35 7)), (ev_hp (ev_sI I 35 (upd (I 35) 7 b)) J R T), cz, kz) := by
  intro G
  rfl
set_option maxRecDepth 100000 in
set_option maxHeartbeats 100000 in
theorem em_set_r18 (X : ez_X) (I : Nat → Nat → Int32) (J : Nat → Nat → Int64) (R : Nat → Nat) (T : List ez_C) (a : Int32) (b : Int32) (cz kz : Nat) : ∀ G : ez_F, fx_up X 5 G 219 4 [.ref 35, .int a, .int b] [] (ev_hp I J R T) cz kz = ev_C G 198 [.long (b.toInt64), .long 0, .long 2] (ev_hp I J R T) fun r h1 c1 k1 => G 219 13 [.ref 35, .int a, .int b] (r.toList ++ []) h1 (cz + c1) (kz + k1) := by
  intro G
  rfl
set_option maxRecDepth 100000 in
set_option maxHeartbeats 100000 in
theorem em_set_r19 (X : ez_X) (I : Nat → Nat → Int32) (J : Nat → Nat → Int64) (R : Nat → Nat) (T : List ez_C) (a : Int32) (b : Int32) (q57 : Int32) (cz kz : Nat) : ∀ G : ez_F, fx_up X 1 G 219 13 [.ref 35, .int a, .int b] [.int q57] (ev_hp I J R T) cz kz = bif decide (q57 = 0) then G 219 28 [.ref 35, .int a, .int b] [] (ev_hp I J R T) cz kz else G 219 16 [.ref 35, .int a, .int b] [] (ev_hp I J R T) cz kz := by
  intro G
  rfl
set_option maxRecDepth 100000 in
set_option maxHeartbeats 100000 in
theorem em_set_r20 (X : ez_X) (I : Nat → Nat → Int32) (J : Nat → Nat → Int64) (R : Nat → Nat) (T : List ez_C) (a : Int32) (b : Int32) (q57 : Int32) (cz kz : Nat) : ∀ G : ez_F, fx_up X 3 G 219 28 [.ref 35, .int a, .int b] [] (ev_hp I J R T) cz kz = bif decide (¬ a = 1) then G 219 55 [.ref 35, .int a, .int b] [] (ev_hp I J R T) cz kz else G 219 33 [.ref 35, .int a, .int b] [] (ev_hp I J R T) cz kz := by
  intro G
  rfl
set_option maxRecDepth 100000 in
set_option maxHeartbeats 100000 in
theorem em_set_r21 (X : ez_X) (I : Nat → Nat → Int32) (J : Nat → Nat → Int64) (R : Nat → Nat) (T : List ez_C) (a : Int32) (b : Int32) (q57 : Int32) (cz kz : Nat) : ∀ G : ez_F, fx_up X 3 G 219 55 [.ref 35, .int a, .int b] [] (ev_hp I J R T) cz kz = bif decide (¬ a = 2) then G 219 84 [.ref 35, .int a, .int b] [] (ev_hp I J R T) cz kz else G 219 60 [.ref 35, .int a, .int b] [] (ev_hp I J R T) cz kz := by
  intro G
  rfl
set_option maxRecDepth 100000 in
set_option maxHeartbeats 100000 in
theorem em_set_r22 (X : ez_X) (I : Nat → Nat → Int32) (J : Nat → Nat → Int64) (R : Nat → Nat) (T : List ez_C) (a : Int32) (b : Int32) (q57 : Int32) (cz kz : Nat) : ∀ G : ez_F, fx_up X 2 G 219 84 [.ref 35, .int a, .int b] [] (ev_hp I J R T) cz kz = some (some (.int (-3)), (ev_hp I J R T), cz, kz) := by
  intro G
  rfl
set_option maxRecDepth 100000 in
set_option maxHeartbeats 100000 in
theorem em_set_r23 (X : ez_X) (I : Nat → Nat → Int32) (J : Nat → Nat → Int64) (R : Nat → Nat) (T : List ez_C) (a : Int32) (b : Int32) (q57 : Int32) (cz kz : Nat) : ∀ G : ez_F, fx_up X 5 G 219 60 [.ref 35, .int a, .int b] [] (ev_hp I J R T) cz kz = ev_C G 198 [.long (b.toInt64), .long 0, .long 2] (ev_hp I J R T) fun r h1 c1 k1 => G 219 69 [.ref 35, .int a, .int b] (r.toList ++ []) h1 (cz + c1) (kz + k1) := by
  intro G
  rfl
set_option maxRecDepth 100000 in
set_option maxHeartbeats 100000 in
theorem em_set_r24 (X : ez_X) (I : Nat → Nat → Int32) (J : Nat → Nat → Int64) (R : Nat → Nat) (T : List ez_C) (a : Int32) (b : Int32) (q57 : Int32) (q58 : Int32) (cz kz : Nat) : ∀ G : ez_F, fx_up X 1 G 219 69 [.ref 35, .int a, .int b] [.int q58] (ev_hp I J R T) cz kz = bif decide (q58 = 0) then G 219 84 [.ref 35, .int a, .int b] [] (ev_hp I J R T) cz kz else G 219 72 [.ref 35, .int a, .int b] [] (ev_hp I J R T) cz kz := by
  intro G
  rfl
set_option maxRecDepth 100000 in
set_option maxHeartbeats 100000 in
theorem em_set_r25 (X : ez_X) (I : Nat → Nat → Int32) (J : Nat → Nat → Int64) (R : Nat → Nat) (T : List ez_C) (a : Int32) (b : Int32) (q57 : Int32) (q58 : Int32) (cz kz : Nat) : ∀ G : ez_F, fx_up X 2 G 219 84 [.ref 35, .int a, .int b] [] (ev_hp I J R T) cz kz = some (some (.int (-3)), (ev_hp I J R T), cz, kz) := by
  intro G
  rfl
set_option maxRecDepth 100000 in
set_option maxHeartbeats 100000 in
theorem em_set_r26 (X : ez_X) (I : Nat → Nat → Int32) (J : Nat → Nat → Int64) (R : Nat → Nat) (T : List ez_C) (a : Int32) (b : Int32) (q57 : Int32) (q58 : Int32) (cz kz : Nat) : ∀ G : ez_F, fx_up X 8 G 219 72 [.ref 35, .int a, .int b] [] (ev_hp I J R T) cz kz = some (some (.int (I 35 8)), (ev_hp (ev_sI I 35 (upd (I 35) 8 b)) J R T), cz, kz) := by
  intro G
  rfl
set_option maxRecDepth 100000 in
set_option maxHeartbeats 100000 in
theorem em_set_r27 (X : ez_X) (I : Nat → Nat → Int32) (J : Nat → Nat → Int64) (R : Nat → Nat) (T : List ez_C) (a : Int32) (b : Int32) (q57 : Int32) (cz kz : Nat) : ∀ G : ez_F, fx_up X 5 G 219 33 [.ref 35, .int a, .int b] [] (ev_hp I J R T) cz kz = ev_C G 198 [.long (b.toInt64), .long 0, .long 1] (ev_hp I J R T) fun r h1 c1 k1 => G 219 40 [.ref 35, .int a, .int b] (r.toList ++ []) h1 (cz + c1) (kz + k1) := by
  intro G
  rfl
set_option maxRecDepth 100000 in
set_option maxHeartbeats 100000 in
theorem em_set_r28 (X : ez_X) (I : Nat → Nat → Int32) (J : Nat → Nat → Int64) (R : Nat → Nat) (T : List ez_C) (a : Int32) (b : Int32) (q57 : Int32) (q59 : Int32) (cz kz : Nat) : ∀ G : ez_F, fx_up X 1 G 219 40 [.ref 35, .int a, .int b] [.int q59] (ev_hp I J R T) cz kz = bif decide (q59 = 0) then G 219 55 [.ref 35, .int a, .int b] [] (ev_hp I J R T) cz kz else G 219 43 [.ref 35, .int a, .int b] [] (ev_hp I J R T) cz kz := by
  intro G
  rfl
set_option maxRecDepth 100000 in
set_option maxHeartbeats 100000 in
theorem em_set_r29 (X : ez_X) (I : Nat → Nat → Int32) (J : Nat → Nat → Int64) (R : Nat → Nat) (T : List ez_C) (a : Int32) (b : Int32) (q57 : Int32) (q59 : Int32) (cz kz : Nat) : ∀ G : ez_F, fx_up X 3 G 219 55 [.ref 35, .int a, .int b] [] (ev_hp I J R T) cz kz = bif decide (¬ a = 2) then G 219 84 [.ref 35, .int a, .int b] [] (ev_hp I J R T) cz kz else G 219 60 [.ref 35, .int a, .int b] [] (ev_hp I J R T) cz kz := by
  intro G
  rfl
set_option maxRecDepth 100000 in
set_option maxHeartbeats 100000 in
theorem em_set_r30 (X : ez_X) (I : Nat → Nat → Int32) (J : Nat → Nat → Int64) (R : Nat → Nat) (T : List ez_C) (a : Int32) (b : Int32) (q57 : Int32) (q59 : Int32) (cz kz : Nat) : ∀ G : ez_F, fx_up X 2 G 219 84 [.ref 35, .int a, .int b] [] (ev_hp I J R T) cz kz = some (some (.int (-3)), (ev_hp I J R T), cz, kz) := by
  intro G
  rfl
set_option maxRecDepth 100000 in
set_option maxHeartbeats 100000 in
theorem em_set_r31 (X : ez_X) (I : Nat → Nat → Int32) (J : Nat → Nat → Int64) (R : Nat → Nat) (T : List ez_C) (a : Int32) (b : Int32) (q57 : Int32) (q59 : Int32) (cz kz : Nat) : ∀ G : ez_F, fx_up X 5 G 219 60 [.ref 35, .int a, .int b] [] (ev_hp I J R T) cz kz = ev_C G 198 [.long (b.toInt64), .long 0, .long 2] (ev_hp I J R T) fun r h1 c1 k1 => G 219 69 [.ref 35, .int a, .int b] (r.toList ++ []) h1 (cz + c1) (kz + k1) := by
  intro G
  rfl
set_option maxRecDepth 100000 in
set_option maxHeartbeats 100000 in
theorem em_set_r32 (X : ez_X) (I : Nat → Nat → Int32) (J : Nat → Nat → Int64) (R : Nat → Nat) (T : List ez_C) (a : Int32) (b : Int32) (q57 : Int32) (q59 : Int32) (q60 : Int32) (cz kz : Nat) : ∀ G : ez_F, fx_up X 1 G 219 69 [.ref 35, .int a, .int b] [.int q60] (ev_hp I J R T) cz kz = bif decide (q60 = 0) then G 219 84 [.ref 35, .int a, .int b] [] (ev_hp I J R T) cz kz else G 219 72 [.ref 35, .int a, .int b] [] (ev_hp I J R T) cz kz := by
  intro G
  rfl
set_option maxRecDepth 100000 in
set_option maxHeartbeats 100000 in
theorem em_set_r33 (X : ez_X) (I : Nat → Nat → Int32) (J : Nat → Nat → Int64) (R : Nat → Nat) (T : List ez_C) (a : Int32) (b : Int32) (q57 : Int32) (q59 : Int32) (q60 : Int32) (cz kz : Nat) : ∀ G : ez_F, fx_up X 2 G 219 84 [.ref 35, .int a, .int b] [] (ev_hp I J R T) cz kz = some (some (.int (-3)), (ev_hp I J R T), cz, kz) := by
  intro G
  rfl
set_option maxRecDepth 100000 in
set_option maxHeartbeats 100000 in
theorem em_set_r34 (X : ez_X) (I : Nat → Nat → Int32) (J : Nat → Nat → Int64) (R : Nat → Nat) (T : List ez_C) (a : Int32) (b : Int32) (q57 : Int32) (q59 : Int32) (q60 : Int32) (cz kz : Nat) : ∀ G : ez_F, fx_up X 8 G 219 72 [.ref 35, .int a, .int b] [] (ev_hp I J R T) cz kz = some (some (.int (I 35 8)), (ev_hp (ev_sI I 35 (upd (I 35) 8 b)) J R T), cz, kz) := by
  intro G
  rfl
set_option maxRecDepth 100000 in
set_option maxHeartbeats 100000 in
theorem em_set_r35 (X : ez_X) (I : Nat → Nat → Int32) (J : Nat → Nat → Int64) (R : Nat → Nat) (T : List ez_C) (a : Int32) (b : Int32) (q57 : Int32) (q59 : Int32) (cz kz : Nat) : ∀ G : ez_F, fx_up X 8 G 219 43 [.ref 35, .int a, .int b] [] (ev_hp I J R T) cz kz = some (some (.int (I 35 7)), (ev_hp (ev_sI I 35 (upd (I 35) 7 b)) J R T), cz, kz) := by
  intro G
  rfl
set_option maxRecDepth 100000 in
set_option maxHeartbeats 100000 in
theorem em_set_r36 (X : ez_X) (I : Nat → Nat → Int32) (J : Nat → Nat → Int64) (R : Nat → Nat) (T : List ez_C) (a : Int32) (b : Int32) (q57 : Int32) (cz kz : Nat) : ∀ G : ez_F, fx_up X 8 G 219 16 [.ref 35, .int a, .int b] [] (ev_hp I J R T) cz kz = some (some (.int (I 35 6)), (ev_hp (ev_sI I 35 (upd (I 35) 6 b)) J R T), cz, kz) := by
  intro G
  rfl
theorem em_set (X : ez_X) (I : Nat → Nat → Int32) (J : Nat → Nat → Int64) (R : Nat → Nat) (T : List ez_C) (a : Int32) (b : Int32)  : ev_W X 219 0 (ez_lay [.ref 35, .int a, .int b]) [] (ev_hp I J R T) 0 0 (fun r h1 c1 k1 => ((¬ a = 0) ∧ (¬ a = 1) ∧ (¬ a = 2) ∧ r = some (.int (-3)) ∧ h1 = (ev_hp I J R T) ∧ c1 = 0 ∧ k1 = 0) ∨ ((¬ a = 0) ∧ (¬ a = 1) ∧ (¬ (¬ a = 2)) ∧ (((ev_il (b.toInt64) 0 2)) = 0) ∧ r = some (.int (-3)) ∧ h1 = (ev_hp I J R T) ∧ c1 = 0 ∧ k1 = 0) ∨ ((¬ a = 0) ∧ (¬ a = 1) ∧ (¬ (¬ a = 2)) ∧ (¬ (((ev_il (b.toInt64) 0 2)) = 0)) ∧ r = some (.int (I 35 8)) ∧ h1 = (ev_hp (ev_sI I 35 (upd (I 35) 8 b)) J R T) ∧ c1 = 0 ∧ k1 = 0) ∨ ((¬ a = 0) ∧ (¬ (¬ a = 1)) ∧ (((ev_il (b.toInt64) 0 1)) = 0) ∧ (¬ a = 2) ∧ r = some (.int (-3)) ∧ h1 = (ev_hp I J R T) ∧ c1 = 0 ∧ k1 = 0) ∨ ((¬ a = 0) ∧ (¬ (¬ a = 1)) ∧ (((ev_il (b.toInt64) 0 1)) = 0) ∧ (¬ (¬ a = 2)) ∧ (((ev_il (b.toInt64) 0 2)) = 0) ∧ r = some (.int (-3)) ∧ h1 = (ev_hp I J R T) ∧ c1 = 0 ∧ k1 = 0) ∨ ((¬ a = 0) ∧ (¬ (¬ a = 1)) ∧ (((ev_il (b.toInt64) 0 1)) = 0) ∧ (¬ (¬ a = 2)) ∧ (¬ (((ev_il (b.toInt64) 0 2)) = 0)) ∧ r = some (.int (I 35 8)) ∧ h1 = (ev_hp (ev_sI I 35 (upd (I 35) 8 b)) J R T) ∧ c1 = 0 ∧ k1 = 0) ∨ ((¬ a = 0) ∧ (¬ (¬ a = 1)) ∧ (¬ (((ev_il (b.toInt64) 0 1)) = 0)) ∧ r = some (.int (I 35 7)) ∧ h1 = (ev_hp (ev_sI I 35 (upd (I 35) 7 b)) J R T) ∧ c1 = 0 ∧ k1 = 0) ∨ ((¬ (¬ a = 0)) ∧ (((ev_il (b.toInt64) 0 2)) = 0) ∧ (¬ a = 1) ∧ (¬ a = 2) ∧ r = some (.int (-3)) ∧ h1 = (ev_hp I J R T) ∧ c1 = 0 ∧ k1 = 0) ∨ ((¬ (¬ a = 0)) ∧ (((ev_il (b.toInt64) 0 2)) = 0) ∧ (¬ a = 1) ∧ (¬ (¬ a = 2)) ∧ (((ev_il (b.toInt64) 0 2)) = 0) ∧ r = some (.int (-3)) ∧ h1 = (ev_hp I J R T) ∧ c1 = 0 ∧ k1 = 0) ∨ ((¬ (¬ a = 0)) ∧ (((ev_il (b.toInt64) 0 2)) = 0) ∧ (¬ a = 1) ∧ (¬ (¬ a = 2)) ∧ (¬ (((ev_il (b.toInt64) 0 2)) = 0)) ∧ r = some (.int (I 35 8)) ∧ h1 = (ev_hp (ev_sI I 35 (upd (I 35) 8 b)) J R T) ∧ c1 = 0 ∧ k1 = 0) ∨ ((¬ (¬ a = 0)) ∧ (((ev_il (b.toInt64) 0 2)) = 0) ∧ (¬ (¬ a = 1)) ∧ (((ev_il (b.toInt64) 0 1)) = 0) ∧ (¬ a = 2) ∧ r = some (.int (-3)) ∧ h1 = (ev_hp I J R T) ∧ c1 = 0 ∧ k1 = 0) ∨ ((¬ (¬ a = 0)) ∧ (((ev_il (b.toInt64) 0 2)) = 0) ∧ (¬ (¬ a = 1)) ∧ (((ev_il (b.toInt64) 0 1)) = 0) ∧ (¬ (¬ a = 2)) ∧ (((ev_il (b.toInt64) 0 2)) = 0) ∧ r = some (.int (-3)) ∧ h1 = (ev_hp I J R T) ∧ c1 = 0 ∧ k1 = 0) ∨ ((¬ (¬ a = 0)) ∧ (((ev_il (b.toInt64) 0 2)) = 0) ∧ (¬ (¬ a = 1)) ∧ (((ev_il (b.toInt64) 0 1)) = 0) ∧ (¬ (¬ a = 2)) ∧ (¬ (((ev_il (b.toInt64) 0 2)) = 0)) ∧ r = some (.int (I 35 8)) ∧ h1 = (ev_hp (ev_sI I 35 (upd (I 35) 8 b)) J R T) ∧ c1 = 0 ∧ k1 = 0) ∨ ((¬ (¬ a = 0)) ∧ (((ev_il (b.toInt64) 0 2)) = 0) ∧ (¬ (¬ a = 1)) ∧ (¬ (((ev_il (b.toInt64) 0 1)) = 0)) ∧ r = some (.int (I 35 7)) ∧ h1 = (ev_hp (ev_sI I 35 (upd (I 35) 7 b)) J R T) ∧ c1 = 0 ∧ k1 = 0) ∨ ((¬ (¬ a = 0)) ∧ (¬ (((ev_il (b.toInt64) 0 2)) = 0)) ∧ r = some (.int (I 35 6)) ∧ h1 = (ev_hp (ev_sI I 35 (upd (I 35) 6 b)) J R T) ∧ c1 = 0 ∧ k1 = 0)) := by
  refine ev_if (em_set_r1 X I J R T a b _ _) (fun b1 => ?_) (fun b1 => ?_)
  · replace b1 := of_decide_eq_true b1
    refine ev_if (em_set_r2 X I J R T a b _ _) (fun b2 => ?_) (fun b2 => ?_)
    · replace b2 := of_decide_eq_true b2
      refine ev_if (em_set_r3 X I J R T a b _ _) (fun b3 => ?_) (fun b3 => ?_)
      · replace b3 := of_decide_eq_true b3
        refine ev_ret (em_set_r4 X I J R T a b _ _) ?_
        exact Or.inl ⟨b1, b2, b3, rfl, rfl, rfl, rfl⟩
      · replace b3 := of_decide_eq_false b3
        refine ev_call (em_set_r5 X I J R T a b _ _) (ec_in X (ev_hp I J R T) (b.toInt64) 0 2) ?_
        rintro _ _ _ _ ⟨rfl, rfl, rfl, rfl⟩
        generalize hq54 : (ev_il (b.toInt64) 0 2) = q54
        refine ev_if (em_set_r6 X I J R T a b q54 _ _) (fun b4 => ?_) (fun b4 => ?_)
        · replace b4 := of_decide_eq_true b4
          refine ev_ret (em_set_r7 X I J R T a b q54 _ _) ?_
          subst hq54
          exact Or.inr (Or.inl ⟨b1, b2, b3, b4, rfl, rfl, rfl, rfl⟩)
        · replace b4 := of_decide_eq_false b4
          refine ev_ret (em_set_r8 X I J R T a b q54 _ _) ?_
          subst hq54
          exact Or.inr (Or.inr (Or.inl ⟨b1, b2, b3, b4, rfl, rfl, rfl, rfl⟩))
    · replace b2 := of_decide_eq_false b2
      refine ev_call (em_set_r9 X I J R T a b _ _) (ec_in X (ev_hp I J R T) (b.toInt64) 0 1) ?_
      rintro _ _ _ _ ⟨rfl, rfl, rfl, rfl⟩
      generalize hq55 : (ev_il (b.toInt64) 0 1) = q55
      refine ev_if (em_set_r10 X I J R T a b q55 _ _) (fun b5 => ?_) (fun b5 => ?_)
      · replace b5 := of_decide_eq_true b5
        refine ev_if (em_set_r11 X I J R T a b q55 _ _) (fun b6 => ?_) (fun b6 => ?_)
        · replace b6 := of_decide_eq_true b6
          refine ev_ret (em_set_r12 X I J R T a b q55 _ _) ?_
          subst hq55
          exact Or.inr (Or.inr (Or.inr (Or.inl ⟨b1, b2, b5, b6, rfl, rfl, rfl, rfl⟩)))
        · replace b6 := of_decide_eq_false b6
          refine ev_call (em_set_r13 X I J R T a b q55 _ _) (ec_in X (ev_hp I J R T) (b.toInt64) 0 2) ?_
          rintro _ _ _ _ ⟨rfl, rfl, rfl, rfl⟩
          generalize hq56 : (ev_il (b.toInt64) 0 2) = q56
          refine ev_if (em_set_r14 X I J R T a b q55 q56 _ _) (fun b7 => ?_) (fun b7 => ?_)
          · replace b7 := of_decide_eq_true b7
            refine ev_ret (em_set_r15 X I J R T a b q55 q56 _ _) ?_
            subst hq56
            subst hq55
            exact Or.inr (Or.inr (Or.inr (Or.inr (Or.inl ⟨b1, b2, b5, b6, b7, rfl, rfl, rfl, rfl⟩))))
          · replace b7 := of_decide_eq_false b7
            refine ev_ret (em_set_r16 X I J R T a b q55 q56 _ _) ?_
            subst hq56
            subst hq55
            exact Or.inr (Or.inr (Or.inr (Or.inr (Or.inr (Or.inl ⟨b1, b2, b5, b6, b7, rfl, rfl, rfl, rfl⟩)))))
      · replace b5 := of_decide_eq_false b5
        refine ev_ret (em_set_r17 X I J R T a b q55 _ _) ?_
        subst hq55
        exact Or.inr (Or.inr (Or.inr (Or.inr (Or.inr (Or.inr (Or.inl ⟨b1, b2, b5, rfl, rfl, rfl, rfl⟩))))))
  · replace b1 := of_decide_eq_false b1
    refine ev_call (em_set_r18 X I J R T a b _ _) (ec_in X (ev_hp I J R T) (b.toInt64) 0 2) ?_
    rintro _ _ _ _ ⟨rfl, rfl, rfl, rfl⟩
    generalize hq57 : (ev_il (b.toInt64) 0 2) = q57
    refine ev_if (em_set_r19 X I J R T a b q57 _ _) (fun b8 => ?_) (fun b8 => ?_)
    · replace b8 := of_decide_eq_true b8
      refine ev_if (em_set_r20 X I J R T a b q57 _ _) (fun b9 => ?_) (fun b9 => ?_)
      · replace b9 := of_decide_eq_true b9
        refine ev_if (em_set_r21 X I J R T a b q57 _ _) (fun b10 => ?_) (fun b10 => ?_)
        · replace b10 := of_decide_eq_true b10
          refine ev_ret (em_set_r22 X I J R T a b q57 _ _) ?_
          subst hq57
          exact Or.inr (Or.inr (Or.inr (Or.inr (Or.inr (Or.inr (Or.inr (Or.inl ⟨b1, b8, b9, b10, rfl, rfl, rfl, rfl⟩)))))))
        · replace b10 := of_decide_eq_false b10
          refine ev_call (em_set_r23 X I J R T a b q57 _ _) (ec_in X (ev_hp I J R T) (b.toInt64) 0 2) ?_
          rintro _ _ _ _ ⟨rfl, rfl, rfl, rfl⟩
          generalize hq58 : (ev_il (b.toInt64) 0 2) = q58
          refine ev_if (em_set_r24 X I J R T a b q57 q58 _ _) (fun b11 => ?_) (fun b11 => ?_)
          · replace b11 := of_decide_eq_true b11
            refine ev_ret (em_set_r25 X I J R T a b q57 q58 _ _) ?_
            subst hq58
            subst hq57
            exact Or.inr (Or.inr (Or.inr (Or.inr (Or.inr (Or.inr (Or.inr (Or.inr (Or.inl ⟨b1, b8, b9, b10, b11, rfl, rfl, rfl, rfl⟩))))))))
          · replace b11 := of_decide_eq_false b11
            refine ev_ret (em_set_r26 X I J R T a b q57 q58 _ _) ?_
            subst hq58
            subst hq57
            exact Or.inr (Or.inr (Or.inr (Or.inr (Or.inr (Or.inr (Or.inr (Or.inr (Or.inr (Or.inl ⟨b1, b8, b9, b10, b11, rfl, rfl, rfl, rfl⟩)))))))))
      · replace b9 := of_decide_eq_false b9
        refine ev_call (em_set_r27 X I J R T a b q57 _ _) (ec_in X (ev_hp I J R T) (b.toInt64) 0 1) ?_
        rintro _ _ _ _ ⟨rfl, rfl, rfl, rfl⟩
        generalize hq59 : (ev_il (b.toInt64) 0 1) = q59
        refine ev_if (em_set_r28 X I J R T a b q57 q59 _ _) (fun b12 => ?_) (fun b12 => ?_)
        · replace b12 := of_decide_eq_true b12
          refine ev_if (em_set_r29 X I J R T a b q57 q59 _ _) (fun b13 => ?_) (fun b13 => ?_)
          · replace b13 := of_decide_eq_true b13
            refine ev_ret (em_set_r30 X I J R T a b q57 q59 _ _) ?_
            subst hq59
            subst hq57
            exact Or.inr (Or.inr (Or.inr (Or.inr (Or.inr (Or.inr (Or.inr (Or.inr (Or.inr (Or.inr (Or.inl ⟨b1, b8, b9, b12, b13, rfl, rfl, rfl, rfl⟩))))))))))
          · replace b13 := of_decide_eq_false b13
            refine ev_call (em_set_r31 X I J R T a b q57 q59 _ _) (ec_in X (ev_hp I J R T) (b.toInt64) 0 2) ?_
            rintro _ _ _ _ ⟨rfl, rfl, rfl, rfl⟩
            generalize hq60 : (ev_il (b.toInt64) 0 2) = q60
            refine ev_if (em_set_r32 X I J R T a b q57 q59 q60 _ _) (fun b14 => ?_) (fun b14 => ?_)
            · replace b14 := of_decide_eq_true b14
              refine ev_ret (em_set_r33 X I J R T a b q57 q59 q60 _ _) ?_
              subst hq60
              subst hq59
              subst hq57
              exact Or.inr (Or.inr (Or.inr (Or.inr (Or.inr (Or.inr (Or.inr (Or.inr (Or.inr (Or.inr (Or.inr (Or.inl ⟨b1, b8, b9, b12, b13, b14, rfl, rfl, rfl, rfl⟩)))))))))))
            · replace b14 := of_decide_eq_false b14
              refine ev_ret (em_set_r34 X I J R T a b q57 q59 q60 _ _) ?_
              subst hq60
              subst hq59
              subst hq57
              exact Or.inr (Or.inr (Or.inr (Or.inr (Or.inr (Or.inr (Or.inr (Or.inr (Or.inr (Or.inr (Or.inr (Or.inr (Or.inl ⟨b1, b8, b9, b12, b13, b14, rfl, rfl, rfl, rfl⟩))))))))))))
        · replace b12 := of_decide_eq_false b12
          refine ev_ret (em_set_r35 X I J R T a b q57 q59 _ _) ?_
          subst hq59
          subst hq57
          exact Or.inr (Or.inr (Or.inr (Or.inr (Or.inr (Or.inr (Or.inr (Or.inr (Or.inr (Or.inr (Or.inr (Or.inr (Or.inr (Or.inl ⟨b1, b8, b9, b12, rfl, rfl, rfl, rfl⟩)))))))))))))
    · replace b8 := of_decide_eq_false b8
      refine ev_ret (em_set_r36 X I J R T a b q57 _ _) ?_
      subst hq57
      exact Or.inr (Or.inr (Or.inr (Or.inr (Or.inr (Or.inr (Or.inr (Or.inr (Or.inr (Or.inr (Or.inr (Or.inr (Or.inr (Or.inr (⟨b1, b8, rfl, rfl, rfl, rfl⟩))))))))))))))
set_option maxRecDepth 100000 in
set_option maxHeartbeats 100000 in
theorem em_drift_r1 (X : ez_X) (I : Nat → Nat → Int32) (J : Nat → Nat → Int64) (R : Nat → Nat) (T : List ez_C) (a : Int32) (b : Int32) (cz kz : Nat) : ∀ G : ez_F, fx_up X 5 G 185 0 [.ref 35, .int a, .int b] [] (ev_hp I J R T) cz kz = ev_C G 198 [.long (a.toInt64), .long (-1), .long 1] (ev_hp I J R T) fun r h1 c1 k1 => G 185 9 [.ref 35, .int a, .int b] (r.toList ++ []) h1 (cz + c1) (kz + k1) := by
  intro G
  rfl
set_option maxRecDepth 100000 in
set_option maxHeartbeats 100000 in
theorem em_drift_r2 (X : ez_X) (I : Nat → Nat → Int32) (J : Nat → Nat → Int64) (R : Nat → Nat) (T : List ez_C) (a : Int32) (b : Int32) (q61 : Int32) (cz kz : Nat) : ∀ G : ez_F, fx_up X 1 G 185 9 [.ref 35, .int a, .int b] [.int q61] (ev_hp I J R T) cz kz = bif decide (q61 = 0) then G 185 24 [.ref 35, .int a, .int b] [] (ev_hp I J R T) cz kz else G 185 12 [.ref 35, .int a, .int b] [] (ev_hp I J R T) cz kz := by
  intro G
  rfl
set_option maxRecDepth 100000 in
set_option maxHeartbeats 100000 in
theorem em_drift_r3 (X : ez_X) (I : Nat → Nat → Int32) (J : Nat → Nat → Int64) (R : Nat → Nat) (T : List ez_C) (a : Int32) (b : Int32) (q61 : Int32) (cz kz : Nat) : ∀ G : ez_F, fx_up X 2 G 185 24 [.ref 35, .int a, .int b] [] (ev_hp I J R T) cz kz = some (some (.int (-3)), (ev_hp I J R T), cz, kz) := by
  intro G
  rfl
set_option maxRecDepth 100000 in
set_option maxHeartbeats 100000 in
theorem em_drift_r4 (X : ez_X) (I : Nat → Nat → Int32) (J : Nat → Nat → Int64) (R : Nat → Nat) (T : List ez_C) (a : Int32) (b : Int32) (q61 : Int32) (cz kz : Nat) : ∀ G : ez_F, fx_up X 5 G 185 12 [.ref 35, .int a, .int b] [] (ev_hp I J R T) cz kz = ev_C G 198 [.long (b.toInt64), .long (-1), .long 1] (ev_hp I J R T) fun r h1 c1 k1 => G 185 21 [.ref 35, .int a, .int b] (r.toList ++ []) h1 (cz + c1) (kz + k1) := by
  intro G
  rfl
set_option maxRecDepth 100000 in
set_option maxHeartbeats 100000 in
theorem em_drift_r5 (X : ez_X) (I : Nat → Nat → Int32) (J : Nat → Nat → Int64) (R : Nat → Nat) (T : List ez_C) (a : Int32) (b : Int32) (q61 : Int32) (q62 : Int32) (cz kz : Nat) : ∀ G : ez_F, fx_up X 1 G 185 21 [.ref 35, .int a, .int b] [.int q62] (ev_hp I J R T) cz kz = bif decide (¬ q62 = 0) then G 185 27 [.ref 35, .int a, .int b] [] (ev_hp I J R T) cz kz else G 185 24 [.ref 35, .int a, .int b] [] (ev_hp I J R T) cz kz := by
  intro G
  rfl
set_option maxRecDepth 100000 in
set_option maxHeartbeats 100000 in
theorem em_drift_r6 (X : ez_X) (I : Nat → Nat → Int32) (J : Nat → Nat → Int64) (R : Nat → Nat) (T : List ez_C) (a : Int32) (b : Int32) (q61 : Int32) (q62 : Int32) (cz kz : Nat) : ∀ G : ez_F, fx_up X 3 G 185 27 [.ref 35, .int a, .int b] [] (ev_hp I J R T) cz kz = bif decide (¬ (I 35 2) = 0) then G 185 37 [.ref 35, .int a, .int b] [] (ev_hp I J R T) cz kz else G 185 34 [.ref 35, .int a, .int b] [] (ev_hp I J R T) cz kz := by
  intro G
  rfl
set_option maxRecDepth 100000 in
set_option maxHeartbeats 100000 in
theorem em_drift_r7 (X : ez_X) (I : Nat → Nat → Int32) (J : Nat → Nat → Int64) (R : Nat → Nat) (T : List ez_C) (a : Int32) (b : Int32) (q61 : Int32) (q62 : Int32) (cz kz : Nat) : ∀ G : ez_F, fx_up X 8 G 185 37 [.ref 35, .int a, .int b] [] (ev_hp I J R T) cz kz = some (some (.int 1), (ev_hp (ev_sI I 35 (upd (upd (I 35) 9 a) 10 b)) J R T), cz, kz) := by
  intro G
  rfl
set_option maxRecDepth 100000 in
set_option maxHeartbeats 100000 in
theorem em_drift_r8 (X : ez_X) (I : Nat → Nat → Int32) (J : Nat → Nat → Int64) (R : Nat → Nat) (T : List ez_C) (a : Int32) (b : Int32) (q61 : Int32) (q62 : Int32) (cz kz : Nat) : ∀ G : ez_F, fx_up X 2 G 185 34 [.ref 35, .int a, .int b] [] (ev_hp I J R T) cz kz = some (some (.int (-4)), (ev_hp I J R T), cz, kz) := by
  intro G
  rfl
set_option maxRecDepth 100000 in
set_option maxHeartbeats 100000 in
theorem em_drift_r9 (X : ez_X) (I : Nat → Nat → Int32) (J : Nat → Nat → Int64) (R : Nat → Nat) (T : List ez_C) (a : Int32) (b : Int32) (q61 : Int32) (q62 : Int32) (cz kz : Nat) : ∀ G : ez_F, fx_up X 2 G 185 24 [.ref 35, .int a, .int b] [] (ev_hp I J R T) cz kz = some (some (.int (-3)), (ev_hp I J R T), cz, kz) := by
  intro G
  rfl
theorem em_drift (X : ez_X) (I : Nat → Nat → Int32) (J : Nat → Nat → Int64) (R : Nat → Nat) (T : List ez_C) (a : Int32) (b : Int32)  : ev_W X 185 0 (ez_lay [.ref 35, .int a, .int b]) [] (ev_hp I J R T) 0 0 (fun r h1 c1 k1 => ((((ev_il (a.toInt64) (-1) 1)) = 0) ∧ r = some (.int (-3)) ∧ h1 = (ev_hp I J R T) ∧ c1 = 0 ∧ k1 = 0) ∨ ((¬ (((ev_il (a.toInt64) (-1) 1)) = 0)) ∧ (¬ ((ev_il (b.toInt64) (-1) 1)) = 0) ∧ (¬ (I 35 2) = 0) ∧ r = some (.int 1) ∧ h1 = (ev_hp (ev_sI I 35 (upd (upd (I 35) 9 a) 10 b)) J R T) ∧ c1 = 0 ∧ k1 = 0) ∨ ((¬ (((ev_il (a.toInt64) (-1) 1)) = 0)) ∧ (¬ ((ev_il (b.toInt64) (-1) 1)) = 0) ∧ (¬ (¬ (I 35 2) = 0)) ∧ r = some (.int (-4)) ∧ h1 = (ev_hp I J R T) ∧ c1 = 0 ∧ k1 = 0) ∨ ((¬ (((ev_il (a.toInt64) (-1) 1)) = 0)) ∧ (¬ (¬ ((ev_il (b.toInt64) (-1) 1)) = 0)) ∧ r = some (.int (-3)) ∧ h1 = (ev_hp I J R T) ∧ c1 = 0 ∧ k1 = 0)) := by
  refine ev_call (em_drift_r1 X I J R T a b _ _) (ec_in X (ev_hp I J R T) (a.toInt64) (-1) 1) ?_
  rintro _ _ _ _ ⟨rfl, rfl, rfl, rfl⟩
  generalize hq61 : (ev_il (a.toInt64) (-1) 1) = q61
  refine ev_if (em_drift_r2 X I J R T a b q61 _ _) (fun b1 => ?_) (fun b1 => ?_)
  · replace b1 := of_decide_eq_true b1
    refine ev_ret (em_drift_r3 X I J R T a b q61 _ _) ?_
    subst hq61
    exact Or.inl ⟨b1, rfl, rfl, rfl, rfl⟩
  · replace b1 := of_decide_eq_false b1
    refine ev_call (em_drift_r4 X I J R T a b q61 _ _) (ec_in X (ev_hp I J R T) (b.toInt64) (-1) 1) ?_
    rintro _ _ _ _ ⟨rfl, rfl, rfl, rfl⟩
    generalize hq62 : (ev_il (b.toInt64) (-1) 1) = q62
    refine ev_if (em_drift_r5 X I J R T a b q61 q62 _ _) (fun b2 => ?_) (fun b2 => ?_)
    · replace b2 := of_decide_eq_true b2
      refine ev_if (em_drift_r6 X I J R T a b q61 q62 _ _) (fun b3 => ?_) (fun b3 => ?_)
      · replace b3 := of_decide_eq_true b3
        refine ev_ret (em_drift_r7 X I J R T a b q61 q62 _ _) ?_
        subst hq62
        subst hq61
        exact Or.inr (Or.inl ⟨b1, b2, b3, rfl, rfl, rfl, rfl⟩)
      · replace b3 := of_decide_eq_false b3
        refine ev_ret (em_drift_r8 X I J R T a b q61 q62 _ _) ?_
        subst hq62
        subst hq61
        exact Or.inr (Or.inr (Or.inl ⟨b1, b2, b3, rfl, rfl, rfl, rfl⟩))
    · replace b2 := of_decide_eq_false b2
      refine ev_ret (em_drift_r9 X I J R T a b q61 q62 _ _) ?_
      subst hq62
      subst hq61
      exact Or.inr (Or.inr (Or.inr (⟨b1, b2, rfl, rfl, rfl, rfl⟩)))
set_option maxRecDepth 100000 in
set_option maxHeartbeats 100000 in
theorem em_isCell_r1 (X : ez_X) (I : Nat → Nat → Int32) (J : Nat → Nat → Int64) (R : Nat → Nat) (T : List ez_C) (a : Int32) (cz kz : Nat) : ∀ G : ez_F, fx_up X 5 G 200 0 [.ref 35, .int a] [] (ev_hp I J R T) cz kz = ev_C G 179 [.ref 35] (ev_hp I J R T) fun r h1 c1 k1 => G 200 7 [.ref 35, .int a] (r.toList ++ [.long 0, .long (a.toInt64)]) h1 (cz + c1) (kz + k1) := by
  intro G
  rfl
set_option maxRecDepth 100000 in
set_option maxHeartbeats 100000 in
theorem em_isCell_r2 (X : ez_X) (I : Nat → Nat → Int32) (J : Nat → Nat → Int64) (R : Nat → Nat) (T : List ez_C) (a : Int32) (q63 : Int32) (cz kz : Nat) : ∀ G : ez_F, fx_up X 4 G 200 7 [.ref 35, .int a] [.int q63, .long 0, .long (a.toInt64)] (ev_hp I J R T) cz kz = ev_C G 198 [.long (a.toInt64), .long 0, .long ((q63 - (1 : Int32)).toInt64)] (ev_hp I J R T) fun r h1 c1 k1 => G 200 13 [.ref 35, .int a] (r.toList ++ []) h1 (cz + c1) (kz + k1) := by
  intro G
  rfl
theorem em_isCell (X : ez_X) (I : Nat → Nat → Int32) (J : Nat → Nat → Int64) (R : Nat → Nat) (T : List ez_C) (a : Int32)  : ev_W X 200 0 (ez_lay [.ref 35, .int a]) [] (ev_hp I J R T) 0 0 (fun r h1 c1 k1 => (r = some (.int ((ev_il (a.toInt64) 0 (((((I 35 0) * (I 35 1))) - (1 : Int32)).toInt64)))) ∧ h1 = (ev_hp I J R T) ∧ c1 = 0 ∧ k1 = 0)) := by
  refine ev_call (em_isCell_r1 X I J R T a _ _) (ea_SModel_cells_179_35 X I J R T) ?_
  rintro r0 _ _ _ (⟨hr0, rfl, rfl, rfl⟩)
  obtain ⟨q63, hq63⟩ : ∃ z : Int32, ((I 35 0) * (I 35 1)) = z := ⟨_, rfl⟩
  have eq63 : r0 = some (.int q63) := hr0.trans (by subst hq63; rfl)
  subst eq63
  refine ev_call (em_isCell_r2 X I J R T a q63 _ _) (ec_in X (ev_hp I J R T) (a.toInt64) 0 ((q63 - (1 : Int32)).toInt64)) ?_
  rintro _ _ _ _ ⟨rfl, rfl, rfl, rfl⟩
  generalize hq64 : (ev_il (a.toInt64) 0 ((q63 - (1 : Int32)).toInt64)) = q64
  refine ev_zret (by rfl) (by first | (rw [← hq64]; exact ev_wi_01 _ _ _) | (rw [← hq64]; exact ev_il_01 _ _ _) | assumption | exact ev_01 hq64) ?_
  subst hq64
  subst hq63
  exact ⟨rfl, rfl, rfl, rfl⟩
set_option maxRecDepth 100000 in
set_option maxHeartbeats 100000 in
theorem em_isShip_r1 (X : ez_X) (I : Nat → Nat → Int32) (J : Nat → Nat → Int64) (R : Nat → Nat) (T : List ez_C) (a : Int32) (cz kz : Nat) : ∀ G : ez_F, fx_up X 9 G 204 0 [.ref 35, .int a] [] (ev_hp I J R T) cz kz = ev_C G 198 [.long (a.toInt64), .long 0, .long (((I 35 3) - (1 : Int32)).toInt64)] (ev_hp I J R T) fun r h1 c1 k1 => G 204 13 [.ref 35, .int a] (r.toList ++ []) h1 (cz + c1) (kz + k1) := by
  intro G
  rfl
theorem em_isShip (X : ez_X) (I : Nat → Nat → Int32) (J : Nat → Nat → Int64) (R : Nat → Nat) (T : List ez_C) (a : Int32)  : ev_W X 204 0 (ez_lay [.ref 35, .int a]) [] (ev_hp I J R T) 0 0 (fun r h1 c1 k1 => (r = some (.int ((ev_il (a.toInt64) 0 (((I 35 3) - (1 : Int32)).toInt64)))) ∧ h1 = (ev_hp I J R T) ∧ c1 = 0 ∧ k1 = 0)) := by
  refine ev_call (em_isShip_r1 X I J R T a _ _) (ec_in X (ev_hp I J R T) (a.toInt64) 0 (((I 35 3) - (1 : Int32)).toInt64)) ?_
  rintro _ _ _ _ ⟨rfl, rfl, rfl, rfl⟩
  generalize hq65 : (ev_il (a.toInt64) 0 (((I 35 3) - (1 : Int32)).toInt64)) = q65
  refine ev_zret (by rfl) (by first | (rw [← hq65]; exact ev_wi_01 _ _ _) | (rw [← hq65]; exact ev_il_01 _ _ _) | assumption | exact ev_01 hq65) ?_
  subst hq65
  exact ⟨rfl, rfl, rfl, rfl⟩
set_option maxRecDepth 100000 in
set_option maxHeartbeats 100000 in
theorem em_isCall_r1 (X : ez_X) (I : Nat → Nat → Int32) (J : Nat → Nat → Int64) (R : Nat → Nat) (T : List ez_C) (a : Int32) (cz kz : Nat) : ∀ G : ez_F, fx_up X 9 G 199 0 [.ref 35, .int a] [] (ev_hp I J R T) cz kz = ev_C G 198 [.long (a.toInt64), .long 0, .long (((I 35 16) - (1 : Int32)).toInt64)] (ev_hp I J R T) fun r h1 c1 k1 => G 199 13 [.ref 35, .int a] (r.toList ++ []) h1 (cz + c1) (kz + k1) := by
  intro G
  rfl
theorem em_isCall (X : ez_X) (I : Nat → Nat → Int32) (J : Nat → Nat → Int64) (R : Nat → Nat) (T : List ez_C) (a : Int32)  : ev_W X 199 0 (ez_lay [.ref 35, .int a]) [] (ev_hp I J R T) 0 0 (fun r h1 c1 k1 => (r = some (.int ((ev_il (a.toInt64) 0 (((I 35 16) - (1 : Int32)).toInt64)))) ∧ h1 = (ev_hp I J R T) ∧ c1 = 0 ∧ k1 = 0)) := by
  refine ev_call (em_isCall_r1 X I J R T a _ _) (ec_in X (ev_hp I J R T) (a.toInt64) 0 (((I 35 16) - (1 : Int32)).toInt64)) ?_
  rintro _ _ _ _ ⟨rfl, rfl, rfl, rfl⟩
  generalize hq66 : (ev_il (a.toInt64) 0 (((I 35 16) - (1 : Int32)).toInt64)) = q66
  refine ev_zret (by rfl) (by first | (rw [← hq66]; exact ev_wi_01 _ _ _) | (rw [← hq66]; exact ev_il_01 _ _ _) | assumption | exact ev_01 hq66) ?_
  subst hq66
  exact ⟨rfl, rfl, rfl, rfl⟩
set_option maxRecDepth 100000 in
set_option maxHeartbeats 100000 in
theorem em_isRim_r1 (X : ez_X) (I : Nat → Nat → Int32) (J : Nat → Nat → Int64) (R : Nat → Nat) (T : List ez_C) (a : Int32) (cz kz : Nat) : ∀ G : ez_F, fx_up X 12 G 203 0 [.ref 35, .int a] [] (ev_hp I J R T) cz kz = ev_C G 198 [.long (a.toInt64), .long 0, .long ((((I 35 0) + (I 35 1)) - (1 : Int32)).toInt64)] (ev_hp I J R T) fun r h1 c1 k1 => G 203 18 [.ref 35, .int a] (r.toList ++ []) h1 (cz + c1) (kz + k1) := by
  intro G
  rfl
theorem em_isRim (X : ez_X) (I : Nat → Nat → Int32) (J : Nat → Nat → Int64) (R : Nat → Nat) (T : List ez_C) (a : Int32)  : ev_W X 203 0 (ez_lay [.ref 35, .int a]) [] (ev_hp I J R T) 0 0 (fun r h1 c1 k1 => (r = some (.int ((ev_il (a.toInt64) 0 ((((I 35 0) + (I 35 1)) - (1 : Int32)).toInt64)))) ∧ h1 = (ev_hp I J R T) ∧ c1 = 0 ∧ k1 = 0)) := by
  refine ev_call (em_isRim_r1 X I J R T a _ _) (ec_in X (ev_hp I J R T) (a.toInt64) 0 ((((I 35 0) + (I 35 1)) - (1 : Int32)).toInt64)) ?_
  rintro _ _ _ _ ⟨rfl, rfl, rfl, rfl⟩
  generalize hq67 : (ev_il (a.toInt64) 0 ((((I 35 0) + (I 35 1)) - (1 : Int32)).toInt64)) = q67
  refine ev_zret (by rfl) (by first | (rw [← hq67]; exact ev_wi_01 _ _ _) | (rw [← hq67]; exact ev_il_01 _ _ _) | assumption | exact ev_01 hq67) ?_
  subst hq67
  exact ⟨rfl, rfl, rfl, rfl⟩
set_option maxRecDepth 100000 in
set_option maxHeartbeats 100000 in
theorem em_isLaying_r1 (X : ez_X) (I : Nat → Nat → Int32) (J : Nat → Nat → Int64) (R : Nat → Nat) (T : List ez_C) (a : Int32) (cz kz : Nat) : ∀ G : ez_F, fx_up X 9 G 202 0 [.ref 35, .int a] [] (ev_hp I J R T) cz kz = ev_C G 198 [.long (a.toInt64), .long 0, .long (((I 35 14) - (1 : Int32)).toInt64)] (ev_hp I J R T) fun r h1 c1 k1 => G 202 13 [.ref 35, .int a] (r.toList ++ []) h1 (cz + c1) (kz + k1) := by
  intro G
  rfl
theorem em_isLaying (X : ez_X) (I : Nat → Nat → Int32) (J : Nat → Nat → Int64) (R : Nat → Nat) (T : List ez_C) (a : Int32)  : ev_W X 202 0 (ez_lay [.ref 35, .int a]) [] (ev_hp I J R T) 0 0 (fun r h1 c1 k1 => (r = some (.int ((ev_il (a.toInt64) 0 (((I 35 14) - (1 : Int32)).toInt64)))) ∧ h1 = (ev_hp I J R T) ∧ c1 = 0 ∧ k1 = 0)) := by
  refine ev_call (em_isLaying_r1 X I J R T a _ _) (ec_in X (ev_hp I J R T) (a.toInt64) 0 (((I 35 14) - (1 : Int32)).toInt64)) ?_
  rintro _ _ _ _ ⟨rfl, rfl, rfl, rfl⟩
  generalize hq68 : (ev_il (a.toInt64) 0 (((I 35 14) - (1 : Int32)).toInt64)) = q68
  refine ev_zret (by rfl) (by first | (rw [← hq68]; exact ev_wi_01 _ _ _) | (rw [← hq68]; exact ev_il_01 _ _ _) | assumption | exact ev_01 hq68) ?_
  subst hq68
  exact ⟨rfl, rfl, rfl, rfl⟩
set_option maxRecDepth 100000 in
set_option maxHeartbeats 100000 in
theorem em_call_r1 (X : ez_X) (I : Nat → Nat → Int32) (J : Nat → Nat → Int64) (R : Nat → Nat) (T : List ez_C) (a : Int32) (cz kz : Nat) : ∀ G : ez_F, fx_up X 3 G 175 0 [.ref 35, .int a] [] (ev_hp I J R T) cz kz = ev_C G 200 [.ref 35, .int a] (ev_hp I J R T) fun r h1 c1 k1 => G 175 5 [.ref 35, .int a] (r.toList ++ []) h1 (cz + c1) (kz + k1) := by
  intro G
  rfl
set_option maxRecDepth 100000 in
set_option maxHeartbeats 100000 in
theorem em_call_r2 (X : ez_X) (I : Nat → Nat → Int32) (J : Nat → Nat → Int64) (R : Nat → Nat) (T : List ez_C) (a : Int32) (q69 : Int32) (cz kz : Nat) : ∀ G : ez_F, fx_up X 1 G 175 5 [.ref 35, .int a] [.int q69] (ev_hp I J R T) cz kz = bif decide (¬ q69 = 0) then G 175 11 [.ref 35, .int a] [] (ev_hp I J R T) cz kz else G 175 8 [.ref 35, .int a] [] (ev_hp I J R T) cz kz := by
  intro G
  rfl
set_option maxRecDepth 100000 in
set_option maxHeartbeats 100000 in
theorem em_call_r3 (X : ez_X) (I : Nat → Nat → Int32) (J : Nat → Nat → Int64) (R : Nat → Nat) (T : List ez_C) (a : Int32) (q69 : Int32) (cz kz : Nat) : ∀ G : ez_F, fx_up X 4 G 175 11 [.ref 35, .int a] [] (ev_hp I J R T) cz kz = bif decide (¬ (I 35 16) = 30) then G 175 23 [.ref 35, .int a] [] (ev_hp I J R T) cz kz else G 175 20 [.ref 35, .int a] [] (ev_hp I J R T) cz kz := by
  intro G
  rfl
set_option maxRecDepth 100000 in
set_option maxHeartbeats 100000 in
theorem em_call_r4 (X : ez_X) (I : Nat → Nat → Int32) (J : Nat → Nat → Int64) (R : Nat → Nat) (T : List ez_C) (a : Int32) (q69 : Int32) (cz kz : Nat) : ∀ G : ez_F, fx_up X 5 G 175 23 [.ref 35, .int a] [] (ev_hp I J R T) cz kz = G 175 32 [.ref 35, .int a] [.int a, .int (I 35 16), .ref 42] (ev_hp I J R T) cz kz := by
  intro G
  rfl
set_option maxRecDepth 100000 in
set_option maxHeartbeats 100000 in
theorem em_call_r5 (X : ez_X) (I : Nat → Nat → Int32) (J : Nat → Nat → Int64) (R : Nat → Nat) (T : List ez_C) (a : Int32) (q69 : Int32) (cz kz : Nat) : ∀ G : ez_F, fx_up X 5 G 175 33 [.ref 35, .int a] [] (ev_hp (ev_sI I 42 (upd (I 42) (I 35 16).toNatClampNeg a)) J R T) cz kz = G 175 42 [.ref 35, .int a] [.int (-1), .int (I 35 16), .ref 43] (ev_hp (ev_sI I 42 (upd (I 42) (I 35 16).toNatClampNeg a)) J R T) cz kz := by
  intro G
  rfl
set_option maxRecDepth 100000 in
set_option maxHeartbeats 100000 in
theorem em_call_r6 (X : ez_X) (I : Nat → Nat → Int32) (J : Nat → Nat → Int64) (R : Nat → Nat) (T : List ez_C) (a : Int32) (q69 : Int32) (cz kz : Nat) : ∀ G : ez_F, fx_up X 5 G 175 43 [.ref 35, .int a] [] (ev_hp (ev_sI (ev_sI I 42 (upd (I 42) (I 35 16).toNatClampNeg a)) 43 (upd (I 43) (I 35 16).toNatClampNeg (-1))) J R T) cz kz = G 175 52 [.ref 35, .int a] [.int (-1), .int (I 35 16), .ref 44] (ev_hp (ev_sI (ev_sI I 42 (upd (I 42) (I 35 16).toNatClampNeg a)) 43 (upd (I 43) (I 35 16).toNatClampNeg (-1))) J R T) cz kz := by
  intro G
  rfl
set_option maxRecDepth 100000 in
set_option maxHeartbeats 100000 in
theorem em_call_r7 (X : ez_X) (I : Nat → Nat → Int32) (J : Nat → Nat → Int64) (R : Nat → Nat) (T : List ez_C) (a : Int32) (q69 : Int32) (cz kz : Nat) : ∀ G : ez_F, fx_up X 11 G 175 53 [.ref 35, .int a] [] (ev_hp (ev_sI (ev_sI (ev_sI I 42 (upd (I 42) (I 35 16).toNatClampNeg a)) 43 (upd (I 43) (I 35 16).toNatClampNeg (-1))) 44 (upd (I 44) (I 35 16).toNatClampNeg (-1))) J R T) cz kz = some (some (.int (((I 35 16) + (1 : Int32)) - (1 : Int32))), (ev_hp (ev_sI (ev_sI (ev_sI (ev_sI I 35 (upd (I 35) 16 ((I 35 16) + (1 : Int32)))) 42 (upd (I 42) (I 35 16).toNatClampNeg a)) 43 (upd (I 43) (I 35 16).toNatClampNeg (-1))) 44 (upd (I 44) (I 35 16).toNatClampNeg (-1))) J R T), cz, kz) := by
  intro G
  rfl
set_option maxRecDepth 100000 in
set_option maxHeartbeats 100000 in
theorem em_call_r8 (X : ez_X) (I : Nat → Nat → Int32) (J : Nat → Nat → Int64) (R : Nat → Nat) (T : List ez_C) (a : Int32) (q69 : Int32) (cz kz : Nat) : ∀ G : ez_F, fx_up X 2 G 175 20 [.ref 35, .int a] [] (ev_hp I J R T) cz kz = some (some (.int (-5)), (ev_hp I J R T), cz, kz) := by
  intro G
  rfl
set_option maxRecDepth 100000 in
set_option maxHeartbeats 100000 in
theorem em_call_r9 (X : ez_X) (I : Nat → Nat → Int32) (J : Nat → Nat → Int64) (R : Nat → Nat) (T : List ez_C) (a : Int32) (q69 : Int32) (cz kz : Nat) : ∀ G : ez_F, fx_up X 2 G 175 8 [.ref 35, .int a] [] (ev_hp I J R T) cz kz = some (some (.int (-2)), (ev_hp I J R T), cz, kz) := by
  intro G
  rfl
theorem em_call (X : ez_X) (I : Nat → Nat → Int32) (J : Nat → Nat → Int64) (R : Nat → Nat) (T : List ez_C) (a : Int32) (hix : ¬ (I 35 16) = 30 → ev_ix (I 35 16) 30) : ev_W X 175 0 (ez_lay [.ref 35, .int a]) [] (ev_hp I J R T) 0 0 (fun r h1 c1 k1 => ((¬ (((ev_il (a.toInt64) 0 (((((I 35 0) * (I 35 1))) - (1 : Int32)).toInt64)))) = 0) ∧ (¬ (I 35 16) = 30) ∧ r = some (.int (((I 35 16) + (1 : Int32)) - (1 : Int32))) ∧ h1 = (ev_hp (ev_sI (ev_sI (ev_sI (ev_sI I 35 (upd (I 35) 16 ((I 35 16) + (1 : Int32)))) 42 (upd (I 42) (I 35 16).toNatClampNeg a)) 43 (upd (I 43) (I 35 16).toNatClampNeg (-1))) 44 (upd (I 44) (I 35 16).toNatClampNeg (-1))) J R T) ∧ c1 = 0 ∧ k1 = 0) ∨ ((¬ (((ev_il (a.toInt64) 0 (((((I 35 0) * (I 35 1))) - (1 : Int32)).toInt64)))) = 0) ∧ (¬ (¬ (I 35 16) = 30)) ∧ r = some (.int (-5)) ∧ h1 = (ev_hp I J R T) ∧ c1 = 0 ∧ k1 = 0) ∨ ((¬ (¬ (((ev_il (a.toInt64) 0 (((((I 35 0) * (I 35 1))) - (1 : Int32)).toInt64)))) = 0)) ∧ r = some (.int (-2)) ∧ h1 = (ev_hp I J R T) ∧ c1 = 0 ∧ k1 = 0)) := by
  refine ev_call (em_call_r1 X I J R T a _ _) (em_isCell X I J R T a) ?_
  rintro r0 _ _ _ (⟨hr0, rfl, rfl, rfl⟩)
  obtain ⟨q69, hq69⟩ : ∃ z : Int32, ((ev_il (a.toInt64) 0 (((((I 35 0) * (I 35 1))) - (1 : Int32)).toInt64))) = z := ⟨_, rfl⟩
  have eq69 : r0 = some (.int q69) := hr0.trans (by subst hq69; rfl)
  subst eq69
  refine ev_if (em_call_r2 X I J R T a q69 _ _) (fun b1 => ?_) (fun b1 => ?_)
  · replace b1 := of_decide_eq_true b1
    refine ev_if (em_call_r3 X I J R T a q69 _ _) (fun b2 => ?_) (fun b2 => ?_)
    · replace b2 := of_decide_eq_true b2
      refine ev_seg (em_call_r4 X I J R T a q69 _ _) ?_
      refine ev_iastH (n := 30) (h2 := (ev_hp (ev_sI I 42 (upd (I 42) (I 35 16).toNatClampNeg a)) J R T)) (by rfl) (by rfl) (hix (by assumption)) (by rfl) ?_
      refine ev_seg (em_call_r5 X I J R T a q69 _ _) ?_
      refine ev_iastH (n := 30) (h2 := (ev_hp (ev_sI (ev_sI I 42 (upd (I 42) (I 35 16).toNatClampNeg a)) 43 (upd (I 43) (I 35 16).toNatClampNeg (-1))) J R T)) (by rfl) (by rfl) (hix (by assumption)) (by rfl) ?_
      refine ev_seg (em_call_r6 X I J R T a q69 _ _) ?_
      refine ev_iastH (n := 30) (h2 := (ev_hp (ev_sI (ev_sI (ev_sI I 42 (upd (I 42) (I 35 16).toNatClampNeg a)) 43 (upd (I 43) (I 35 16).toNatClampNeg (-1))) 44 (upd (I 44) (I 35 16).toNatClampNeg (-1))) J R T)) (by rfl) (by rfl) (hix (by assumption)) (by rfl) ?_
      refine ev_ret (em_call_r7 X I J R T a q69 _ _) ?_
      subst hq69
      exact Or.inl ⟨b1, b2, rfl, rfl, rfl, rfl⟩
    · replace b2 := of_decide_eq_false b2
      refine ev_ret (em_call_r8 X I J R T a q69 _ _) ?_
      subst hq69
      exact Or.inr (Or.inl ⟨b1, b2, rfl, rfl, rfl, rfl⟩)
  · replace b1 := of_decide_eq_false b1
    refine ev_ret (em_call_r9 X I J R T a q69 _ _) ?_
    subst hq69
    exact Or.inr (Or.inr (⟨b1, rfl, rfl, rfl, rfl⟩))
set_option maxRecDepth 100000 in
set_option maxHeartbeats 100000 in
theorem em_salvo_r1 (X : ez_X) (I : Nat → Nat → Int32) (J : Nat → Nat → Int64) (R : Nat → Nat) (T : List ez_C) (a : Int32) (b : Int32) (cz kz : Nat) : ∀ G : ez_F, fx_up X 3 G 218 0 [.ref 35, .int a, .int b] [] (ev_hp I J R T) cz kz = ev_C G 200 [.ref 35, .int a] (ev_hp I J R T) fun r h1 c1 k1 => G 218 5 [.ref 35, .int a, .int b] (r.toList ++ []) h1 (cz + c1) (kz + k1) := by
  intro G
  rfl
set_option maxRecDepth 100000 in
set_option maxHeartbeats 100000 in
theorem em_salvo_r2 (X : ez_X) (I : Nat → Nat → Int32) (J : Nat → Nat → Int64) (R : Nat → Nat) (T : List ez_C) (a : Int32) (b : Int32) (q70 : Int32) (cz kz : Nat) : ∀ G : ez_F, fx_up X 1 G 218 5 [.ref 35, .int a, .int b] [.int q70] (ev_hp I J R T) cz kz = bif decide (q70 = 0) then G 218 16 [.ref 35, .int a, .int b] [] (ev_hp I J R T) cz kz else G 218 8 [.ref 35, .int a, .int b] [] (ev_hp I J R T) cz kz := by
  intro G
  rfl
set_option maxRecDepth 100000 in
set_option maxHeartbeats 100000 in
theorem em_salvo_r3 (X : ez_X) (I : Nat → Nat → Int32) (J : Nat → Nat → Int64) (R : Nat → Nat) (T : List ez_C) (a : Int32) (b : Int32) (q70 : Int32) (cz kz : Nat) : ∀ G : ez_F, fx_up X 2 G 218 16 [.ref 35, .int a, .int b] [] (ev_hp I J R T) cz kz = some (some (.int (-2)), (ev_hp I J R T), cz, kz) := by
  intro G
  rfl
set_option maxRecDepth 100000 in
set_option maxHeartbeats 100000 in
theorem em_salvo_r4 (X : ez_X) (I : Nat → Nat → Int32) (J : Nat → Nat → Int64) (R : Nat → Nat) (T : List ez_C) (a : Int32) (b : Int32) (q70 : Int32) (cz kz : Nat) : ∀ G : ez_F, fx_up X 3 G 218 8 [.ref 35, .int a, .int b] [] (ev_hp I J R T) cz kz = ev_C G 200 [.ref 35, .int b] (ev_hp I J R T) fun r h1 c1 k1 => G 218 13 [.ref 35, .int a, .int b] (r.toList ++ []) h1 (cz + c1) (kz + k1) := by
  intro G
  rfl
set_option maxRecDepth 100000 in
set_option maxHeartbeats 100000 in
theorem em_salvo_r5 (X : ez_X) (I : Nat → Nat → Int32) (J : Nat → Nat → Int64) (R : Nat → Nat) (T : List ez_C) (a : Int32) (b : Int32) (q70 : Int32) (q71 : Int32) (cz kz : Nat) : ∀ G : ez_F, fx_up X 1 G 218 13 [.ref 35, .int a, .int b] [.int q71] (ev_hp I J R T) cz kz = bif decide (¬ q71 = 0) then G 218 19 [.ref 35, .int a, .int b] [] (ev_hp I J R T) cz kz else G 218 16 [.ref 35, .int a, .int b] [] (ev_hp I J R T) cz kz := by
  intro G
  rfl
set_option maxRecDepth 100000 in
set_option maxHeartbeats 100000 in
theorem em_salvo_r6 (X : ez_X) (I : Nat → Nat → Int32) (J : Nat → Nat → Int64) (R : Nat → Nat) (T : List ez_C) (a : Int32) (b : Int32) (q70 : Int32) (q71 : Int32) (cz kz : Nat) : ∀ G : ez_F, fx_up X 3 G 218 19 [.ref 35, .int a, .int b] [] (ev_hp I J R T) cz kz = bif decide (¬ a = b) then G 218 27 [.ref 35, .int a, .int b] [] (ev_hp I J R T) cz kz else G 218 24 [.ref 35, .int a, .int b] [] (ev_hp I J R T) cz kz := by
  intro G
  rfl
set_option maxRecDepth 100000 in
set_option maxHeartbeats 100000 in
theorem em_salvo_r7 (X : ez_X) (I : Nat → Nat → Int32) (J : Nat → Nat → Int64) (R : Nat → Nat) (T : List ez_C) (a : Int32) (b : Int32) (q70 : Int32) (q71 : Int32) (cz kz : Nat) : ∀ G : ez_F, fx_up X 4 G 218 27 [.ref 35, .int a, .int b] [] (ev_hp I J R T) cz kz = bif decide (¬ (I 35 16) = 30) then G 218 39 [.ref 35, .int a, .int b] [] (ev_hp I J R T) cz kz else G 218 36 [.ref 35, .int a, .int b] [] (ev_hp I J R T) cz kz := by
  intro G
  rfl
set_option maxRecDepth 100000 in
set_option maxHeartbeats 100000 in
theorem em_salvo_r8 (X : ez_X) (I : Nat → Nat → Int32) (J : Nat → Nat → Int64) (R : Nat → Nat) (T : List ez_C) (a : Int32) (b : Int32) (q70 : Int32) (q71 : Int32) (cz kz : Nat) : ∀ G : ez_F, fx_up X 5 G 218 39 [.ref 35, .int a, .int b] [] (ev_hp I J R T) cz kz = G 218 48 [.ref 35, .int a, .int b] [.int a, .int (I 35 16), .ref 42] (ev_hp I J R T) cz kz := by
  intro G
  rfl
set_option maxRecDepth 100000 in
set_option maxHeartbeats 100000 in
theorem em_salvo_r9 (X : ez_X) (I : Nat → Nat → Int32) (J : Nat → Nat → Int64) (R : Nat → Nat) (T : List ez_C) (a : Int32) (b : Int32) (q70 : Int32) (q71 : Int32) (cz kz : Nat) : ∀ G : ez_F, fx_up X 5 G 218 49 [.ref 35, .int a, .int b] [] (ev_hp (ev_sI I 42 (upd (I 42) (I 35 16).toNatClampNeg a)) J R T) cz kz = G 218 58 [.ref 35, .int a, .int b] [.int b, .int (I 35 16), .ref 43] (ev_hp (ev_sI I 42 (upd (I 42) (I 35 16).toNatClampNeg a)) J R T) cz kz := by
  intro G
  rfl
set_option maxRecDepth 100000 in
set_option maxHeartbeats 100000 in
theorem em_salvo_r10 (X : ez_X) (I : Nat → Nat → Int32) (J : Nat → Nat → Int64) (R : Nat → Nat) (T : List ez_C) (a : Int32) (b : Int32) (q70 : Int32) (q71 : Int32) (cz kz : Nat) : ∀ G : ez_F, fx_up X 5 G 218 59 [.ref 35, .int a, .int b] [] (ev_hp (ev_sI (ev_sI I 42 (upd (I 42) (I 35 16).toNatClampNeg a)) 43 (upd (I 43) (I 35 16).toNatClampNeg b)) J R T) cz kz = G 218 68 [.ref 35, .int a, .int b] [.int (-1), .int (I 35 16), .ref 44] (ev_hp (ev_sI (ev_sI I 42 (upd (I 42) (I 35 16).toNatClampNeg a)) 43 (upd (I 43) (I 35 16).toNatClampNeg b)) J R T) cz kz := by
  intro G
  rfl
set_option maxRecDepth 100000 in
set_option maxHeartbeats 100000 in
theorem em_salvo_r11 (X : ez_X) (I : Nat → Nat → Int32) (J : Nat → Nat → Int64) (R : Nat → Nat) (T : List ez_C) (a : Int32) (b : Int32) (q70 : Int32) (q71 : Int32) (cz kz : Nat) : ∀ G : ez_F, fx_up X 11 G 218 69 [.ref 35, .int a, .int b] [] (ev_hp (ev_sI (ev_sI (ev_sI I 42 (upd (I 42) (I 35 16).toNatClampNeg a)) 43 (upd (I 43) (I 35 16).toNatClampNeg b)) 44 (upd (I 44) (I 35 16).toNatClampNeg (-1))) J R T) cz kz = some (some (.int (((I 35 16) + (1 : Int32)) - (1 : Int32))), (ev_hp (ev_sI (ev_sI (ev_sI (ev_sI I 35 (upd (I 35) 16 ((I 35 16) + (1 : Int32)))) 42 (upd (I 42) (I 35 16).toNatClampNeg a)) 43 (upd (I 43) (I 35 16).toNatClampNeg b)) 44 (upd (I 44) (I 35 16).toNatClampNeg (-1))) J R T), cz, kz) := by
  intro G
  rfl
set_option maxRecDepth 100000 in
set_option maxHeartbeats 100000 in
theorem em_salvo_r12 (X : ez_X) (I : Nat → Nat → Int32) (J : Nat → Nat → Int64) (R : Nat → Nat) (T : List ez_C) (a : Int32) (b : Int32) (q70 : Int32) (q71 : Int32) (cz kz : Nat) : ∀ G : ez_F, fx_up X 2 G 218 36 [.ref 35, .int a, .int b] [] (ev_hp I J R T) cz kz = some (some (.int (-5)), (ev_hp I J R T), cz, kz) := by
  intro G
  rfl
set_option maxRecDepth 100000 in
set_option maxHeartbeats 100000 in
theorem em_salvo_r13 (X : ez_X) (I : Nat → Nat → Int32) (J : Nat → Nat → Int64) (R : Nat → Nat) (T : List ez_C) (a : Int32) (b : Int32) (q70 : Int32) (q71 : Int32) (cz kz : Nat) : ∀ G : ez_F, fx_up X 2 G 218 24 [.ref 35, .int a, .int b] [] (ev_hp I J R T) cz kz = some (some (.int (-3)), (ev_hp I J R T), cz, kz) := by
  intro G
  rfl
set_option maxRecDepth 100000 in
set_option maxHeartbeats 100000 in
theorem em_salvo_r14 (X : ez_X) (I : Nat → Nat → Int32) (J : Nat → Nat → Int64) (R : Nat → Nat) (T : List ez_C) (a : Int32) (b : Int32) (q70 : Int32) (q71 : Int32) (cz kz : Nat) : ∀ G : ez_F, fx_up X 2 G 218 16 [.ref 35, .int a, .int b] [] (ev_hp I J R T) cz kz = some (some (.int (-2)), (ev_hp I J R T), cz, kz) := by
  intro G
  rfl
theorem em_salvo (X : ez_X) (I : Nat → Nat → Int32) (J : Nat → Nat → Int64) (R : Nat → Nat) (T : List ez_C) (a : Int32) (b : Int32) (hix : ¬ (I 35 16) = 30 → ev_ix (I 35 16) 30) : ev_W X 218 0 (ez_lay [.ref 35, .int a, .int b]) [] (ev_hp I J R T) 0 0 (fun r h1 c1 k1 => (((((ev_il (a.toInt64) 0 (((((I 35 0) * (I 35 1))) - (1 : Int32)).toInt64)))) = 0) ∧ r = some (.int (-2)) ∧ h1 = (ev_hp I J R T) ∧ c1 = 0 ∧ k1 = 0) ∨ ((¬ ((((ev_il (a.toInt64) 0 (((((I 35 0) * (I 35 1))) - (1 : Int32)).toInt64)))) = 0)) ∧ (¬ (((ev_il (b.toInt64) 0 (((((I 35 0) * (I 35 1))) - (1 : Int32)).toInt64)))) = 0) ∧ (¬ a = b) ∧ (¬ (I 35 16) = 30) ∧ r = some (.int (((I 35 16) + (1 : Int32)) - (1 : Int32))) ∧ h1 = (ev_hp (ev_sI (ev_sI (ev_sI (ev_sI I 35 (upd (I 35) 16 ((I 35 16) + (1 : Int32)))) 42 (upd (I 42) (I 35 16).toNatClampNeg a)) 43 (upd (I 43) (I 35 16).toNatClampNeg b)) 44 (upd (I 44) (I 35 16).toNatClampNeg (-1))) J R T) ∧ c1 = 0 ∧ k1 = 0) ∨ ((¬ ((((ev_il (a.toInt64) 0 (((((I 35 0) * (I 35 1))) - (1 : Int32)).toInt64)))) = 0)) ∧ (¬ (((ev_il (b.toInt64) 0 (((((I 35 0) * (I 35 1))) - (1 : Int32)).toInt64)))) = 0) ∧ (¬ a = b) ∧ (¬ (¬ (I 35 16) = 30)) ∧ r = some (.int (-5)) ∧ h1 = (ev_hp I J R T) ∧ c1 = 0 ∧ k1 = 0) ∨ ((¬ ((((ev_il (a.toInt64) 0 (((((I 35 0) * (I 35 1))) - (1 : Int32)).toInt64)))) = 0)) ∧ (¬ (((ev_il (b.toInt64) 0 (((((I 35 0) * (I 35 1))) - (1 : Int32)).toInt64)))) = 0) ∧ (¬ (¬ a = b)) ∧ r = some (.int (-3)) ∧ h1 = (ev_hp I J R T) ∧ c1 = 0 ∧ k1 = 0) ∨ ((¬ ((((ev_il (a.toInt64) 0 (((((I 35 0) * (I 35 1))) - (1 : Int32)).toInt64)))) = 0)) ∧ (¬ (¬ (((ev_il (b.toInt64) 0 (((((I 35 0) * (I 35 1))) - (1 : Int32)).toInt64)))) = 0)) ∧ r = some (.int (-2)) ∧ h1 = (ev_hp I J R T) ∧ c1 = 0 ∧ k1 = 0)) := by
  refine ev_call (em_salvo_r1 X I J R T a b _ _) (em_isCell X I J R T a) ?_
  rintro r0 _ _ _ (⟨hr0, rfl, rfl, rfl⟩)
  obtain ⟨q70, hq70⟩ : ∃ z : Int32, ((ev_il (a.toInt64) 0 (((((I 35 0) * (I 35 1))) - (1 : Int32)).toInt64))) = z := ⟨_, rfl⟩
  have eq70 : r0 = some (.int q70) := hr0.trans (by subst hq70; rfl)
  subst eq70
  refine ev_if (em_salvo_r2 X I J R T a b q70 _ _) (fun b1 => ?_) (fun b1 => ?_)
  · replace b1 := of_decide_eq_true b1
    refine ev_ret (em_salvo_r3 X I J R T a b q70 _ _) ?_
    subst hq70
    exact Or.inl ⟨b1, rfl, rfl, rfl, rfl⟩
  · replace b1 := of_decide_eq_false b1
    refine ev_call (em_salvo_r4 X I J R T a b q70 _ _) (em_isCell X I J R T b) ?_
    rintro r0 _ _ _ (⟨hr0, rfl, rfl, rfl⟩)
    obtain ⟨q71, hq71⟩ : ∃ z : Int32, ((ev_il (b.toInt64) 0 (((((I 35 0) * (I 35 1))) - (1 : Int32)).toInt64))) = z := ⟨_, rfl⟩
    have eq71 : r0 = some (.int q71) := hr0.trans (by subst hq71; rfl)
    subst eq71
    refine ev_if (em_salvo_r5 X I J R T a b q70 q71 _ _) (fun b2 => ?_) (fun b2 => ?_)
    · replace b2 := of_decide_eq_true b2
      refine ev_if (em_salvo_r6 X I J R T a b q70 q71 _ _) (fun b3 => ?_) (fun b3 => ?_)
      · replace b3 := of_decide_eq_true b3
        refine ev_if (em_salvo_r7 X I J R T a b q70 q71 _ _) (fun b4 => ?_) (fun b4 => ?_)
        · replace b4 := of_decide_eq_true b4
          refine ev_seg (em_salvo_r8 X I J R T a b q70 q71 _ _) ?_
          refine ev_iastH (n := 30) (h2 := (ev_hp (ev_sI I 42 (upd (I 42) (I 35 16).toNatClampNeg a)) J R T)) (by rfl) (by rfl) (hix (by assumption)) (by rfl) ?_
          refine ev_seg (em_salvo_r9 X I J R T a b q70 q71 _ _) ?_
          refine ev_iastH (n := 30) (h2 := (ev_hp (ev_sI (ev_sI I 42 (upd (I 42) (I 35 16).toNatClampNeg a)) 43 (upd (I 43) (I 35 16).toNatClampNeg b)) J R T)) (by rfl) (by rfl) (hix (by assumption)) (by rfl) ?_
          refine ev_seg (em_salvo_r10 X I J R T a b q70 q71 _ _) ?_
          refine ev_iastH (n := 30) (h2 := (ev_hp (ev_sI (ev_sI (ev_sI I 42 (upd (I 42) (I 35 16).toNatClampNeg a)) 43 (upd (I 43) (I 35 16).toNatClampNeg b)) 44 (upd (I 44) (I 35 16).toNatClampNeg (-1))) J R T)) (by rfl) (by rfl) (hix (by assumption)) (by rfl) ?_
          refine ev_ret (em_salvo_r11 X I J R T a b q70 q71 _ _) ?_
          subst hq71
          subst hq70
          exact Or.inr (Or.inl ⟨b1, b2, b3, b4, rfl, rfl, rfl, rfl⟩)
        · replace b4 := of_decide_eq_false b4
          refine ev_ret (em_salvo_r12 X I J R T a b q70 q71 _ _) ?_
          subst hq71
          subst hq70
          exact Or.inr (Or.inr (Or.inl ⟨b1, b2, b3, b4, rfl, rfl, rfl, rfl⟩))
      · replace b3 := of_decide_eq_false b3
        refine ev_ret (em_salvo_r13 X I J R T a b q70 q71 _ _) ?_
        subst hq71
        subst hq70
        exact Or.inr (Or.inr (Or.inr (Or.inl ⟨b1, b2, b3, rfl, rfl, rfl, rfl⟩)))
    · replace b2 := of_decide_eq_false b2
      refine ev_ret (em_salvo_r14 X I J R T a b q70 q71 _ _) ?_
      subst hq71
      subst hq70
      exact Or.inr (Or.inr (Or.inr (Or.inr (⟨b1, b2, rfl, rfl, rfl, rfl⟩))))
end
