/-! Where the class puts a shape: the same as the reference moves it. -/
section
variable {X : ez_X} {I : Nat → Nat → Int32} {J : Nat → Nat → Int64} {R : Nat → Nat} {T : List ez_C} {cz kz : Nat}
theorem wp_r0 {v : Int32} {z : Int32} : ∀ G : ez_F, fx_up X 3 G 154 0 [.ref 1, .int v, .int z] [] (ev_hp I J R T) cz kz = bif decide ((I 1 5) = (0 : Int32)) then G 154 19 [.ref 1, .int v, .int z] [] (ev_hp I J R T) cz kz else G 154 7 [.ref 1, .int v, .int z] [] (ev_hp I J R T) cz kz := by
  intro G
  rfl
theorem wp_r1 {v : Int32} {z : Int32} : ∀ G : ez_F, fx_up X 2 G 154 7 [.ref 1, .int v, .int z] [] (ev_hp I J R T) cz kz = bif decide (z ≤ (0 : Int32)) then G 154 19 [.ref 1, .int v, .int z] [] (ev_hp I J R T) cz kz else G 154 11 [.ref 1, .int v, .int z] [] (ev_hp I J R T) cz kz := by
  intro G
  rfl
theorem wp_r2 {v : Int32} {z : Int32} : ∀ G : ez_F, fx_up X 3 G 154 11 [.ref 1, .int v, .int z] [] (ev_hp I J R T) cz kz = ev_C G 240 [.int v, .int z] (ev_hp I J R T) fun r h1 c1 k1 => G 154 16 [.ref 1, .int v, .int z] (r.toList ++ []) h1 (cz + c1) (kz + k1) := by
  intro G
  rfl
theorem wp_r3 {v : Int32} {z : Int32} {q : Int32} : ∀ G : ez_F, fx_up X 2 G 154 16 [.ref 1, .int v, .int z] [.int q] (ev_hp I J R T) cz kz = some (some (.int q), ev_hp I J R T, cz, kz) := by
  intro G
  rfl
theorem wp_r4 {v : Int32} {z : Int32} : ∀ G : ez_F, fx_up X 2 G 154 19 [.ref 1, .int v, .int z] [] (ev_hp I J R T) cz kz = some (some (.int v), ev_hp I J R T, cz, kz) := by
  intro G
  rfl
end
section
variable {X : ez_X} {I : Nat → Nat → Int32} {J : Nat → Nat → Int64} {R : Nat → Nat} {T : List ez_C} {cz kz : Nat}
theorem pd_r0 {s : Int32} {x : Int32} {y : Int32} : ∀ G : ez_F, fx_up X 4 G 149 0 [.ref 1, .int s, .int x, .int y] [] (ev_hp I J R T) cz kz = G 149 6 [.ref 1, .int s, .int x, .int y, .long 0, ez_fill, .int 0] [] (ev_hp I J R T) cz kz := by
  intro G
  rfl
theorem pd_r1 {s : Int32} {x : Int32} {y : Int32} {z : Int64} {i : Int32} : ∀ G : ez_F, fx_up X 3 G 149 6 [.ref 1, .int s, .int x, .int y, .long z, ez_fill, .int i] [] (ev_hp I J R T) cz kz = bif decide ((16 : Int32) ≤ i) then G 149 112 [.ref 1, .int s, .int x, .int y, .long z, ez_fill, .int i] [] (ev_hp I J R T) cz kz else G 149 13 [.ref 1, .int s, .int x, .int y, .long z, ez_fill, .int i] [] (ev_hp I J R T) cz kz := by
  intro G
  rfl
theorem pd_r2 {s : Int32} {x : Int32} {y : Int32} {z : Int64} {i : Int32} : ∀ G : ez_F, fx_up X 2 G 149 112 [.ref 1, .int s, .int x, .int y, .long z, ez_fill, .int i] [] (ev_hp I J R T) cz kz = ev_C G 237 [.long z] (ev_hp I J R T) fun r h1 c1 k1 => G 149 117 [.ref 1, .int s, .int x, .int y, .long z, ez_fill, .int i] (r.toList ++ []) h1 (cz + c1) (kz + k1) := by
  intro G
  rfl
theorem pd_r3 {s : Int32} {x : Int32} {y : Int32} {z : Int64} {i : Int32} {q : Int32} : ∀ G : ez_F, fx_up X 2 G 149 117 [.ref 1, .int s, .int x, .int y, .long z, ez_fill, .int i] [.int q] (ev_hp I J R T) cz kz = ev_C G 234 [.int s] (ev_hp I J R T) fun r h1 c1 k1 => G 149 121 [.ref 1, .int s, .int x, .int y, .long z, ez_fill, .int i] (r.toList ++ [.int q]) h1 (cz + c1) (kz + k1) := by
  intro G
  rfl
theorem pd_r4 {s : Int32} {x : Int32} {y : Int32} {z : Int64} {i : Int32} {p : Int32} {q : Int32} : ∀ G : ez_F, fx_up X 1 G 149 121 [.ref 1, .int s, .int x, .int y, .long z, ez_fill, .int i] [.int p, .int q] (ev_hp I J R T) cz kz = bif decide (¬ q = p) then G 149 129 [.ref 1, .int s, .int x, .int y, .long z, ez_fill, .int i] [] (ev_hp I J R T) cz kz else G 149 124 [.ref 1, .int s, .int x, .int y, .long z, ez_fill, .int i] [] (ev_hp I J R T) cz kz := by
  intro G
  rfl
theorem pd_r5 {s : Int32} {x : Int32} {y : Int32} {z : Int64} {i : Int32} : ∀ G : ez_F, fx_up X 2 G 149 129 [.ref 1, .int s, .int x, .int y, .long z, ez_fill, .int i] [] (ev_hp I J R T) cz kz = some (some (.long 0), ev_hp I J R T, cz, kz) := by
  intro G
  rfl
theorem pd_r6 {s : Int32} {x : Int32} {y : Int32} {z : Int64} {i : Int32} : ∀ G : ez_F, fx_up X 3 G 149 124 [.ref 1, .int s, .int x, .int y, .long z, ez_fill, .int i] [] (ev_hp I J R T) cz kz = some (some (.long z), ev_hp I J R T, cz, kz) := by
  intro G
  rfl
theorem pd_r7 {s : Int32} {x : Int32} {y : Int32} {z : Int64} {i : Int32} : ∀ G : ez_F, fx_up X 6 G 149 13 [.ref 1, .int s, .int x, .int y, .long z, ez_fill, .int i] [] (ev_hp I J R T) cz kz = bif decide (¬ ((s >>> (i &&& (31 : Int32))) &&& (1 : Int32)) = (0 : Int32)) then G 149 25 [.ref 1, .int s, .int x, .int y, .long z, ez_fill, .int i] [] (ev_hp I J R T) cz kz else G 149 22 [.ref 1, .int s, .int x, .int y, .long z, ez_fill, .int i] [] (ev_hp I J R T) cz kz := by
  intro G
  rfl
theorem pd_r8 {s : Int32} {x : Int32} {y : Int32} {z : Int64} {i : Int32} : ∀ G : ez_F, fx_up X 3 G 149 22 [.ref 1, .int s, .int x, .int y, .long z, ez_fill, .int i] [] (ev_hp I J R T) cz kz = G 149 6 [.ref 1, .int s, .int x, .int y, .long z, ez_fill, .int (i + 1)] [] (ev_hp I J R T) cz kz := by
  intro G
  rfl
theorem pd_r9 {s : Int32} {x : Int32} {y : Int32} {z : Int64} {i : Int32} : ∀ G : ez_F, fx_up X 9 G 149 25 [.ref 1, .int s, .int x, .int y, .long z, ez_fill, .int i] [] (ev_hp I J R T) cz kz = ev_C G 154 [.ref 1, .int ((i &&& (3 : Int32)) + x), .int (I 1 3)] (ev_hp I J R T) fun r h1 c1 k1 => G 149 39 [.ref 1, .int s, .int x, .int y, .long z, ez_fill, .int i] (r.toList ++ []) h1 (cz + c1) (kz + k1) := by
  intro G
  rfl
set_option maxRecDepth 100000 in
theorem pd_r10 {s : Int32} {x : Int32} {y : Int32} {z : Int64} {i : Int32} {u : Int32} : ∀ G : ez_F, fx_up X 10 G 149 39 [.ref 1, .int s, .int x, .int y, .long z, ez_fill, .int i] [.int u] (ev_hp I J R T) cz kz = ev_C G 154 [.ref 1, .int ((i >>> 2) + y), .int (I 1 4)] (ev_hp I J R T) fun r h1 c1 k1 => G 149 55 [.ref 1, .int s, .int x, .int y, .long z, ez_fill, .int i, .int u] (r.toList ++ []) h1 (cz + c1) (kz + k1) := by
  intro G
  rfl
theorem pd_r11 {s : Int32} {x : Int32} {y : Int32} {z : Int64} {i : Int32} {u : Int32} {v : Int32} : ∀ G : ez_F, fx_up X 8 G 149 55 [.ref 1, .int s, .int x, .int y, .long z, ez_fill, .int i, .int u] [.int v] (ev_hp I J R T) cz kz = ev_C G 55 [.int u, .int 0, .int ((I 1 3) - 1)] (ev_hp I J R T) fun r h1 c1 k1 => G 149 69 [.ref 1, .int s, .int x, .int y, .long z, ez_fill, .int i, .int u, .int v] (r.toList ++ []) h1 (cz + c1) (kz + k1) := by
  intro G
  rfl
theorem pd_r12 {s : Int32} {x : Int32} {y : Int32} {z : Int64} {i : Int32} {u : Int32} {v : Int32} {q : Int32} : ∀ G : ez_F, fx_up X 1 G 149 69 [.ref 1, .int s, .int x, .int y, .long z, ez_fill, .int i, .int u, .int v] [.int q] (ev_hp I J R T) cz kz = bif decide (q = (0 : Int32)) then G 149 87 [.ref 1, .int s, .int x, .int y, .long z, ez_fill, .int i, .int u, .int v] [] (ev_hp I J R T) cz kz else G 149 72 [.ref 1, .int s, .int x, .int y, .long z, ez_fill, .int i, .int u, .int v] [] (ev_hp I J R T) cz kz := by
  intro G
  rfl
theorem pd_r13 {s : Int32} {x : Int32} {y : Int32} {z : Int64} {i : Int32} {u : Int32} {v : Int32} : ∀ G : ez_F, fx_up X 2 G 149 87 [.ref 1, .int s, .int x, .int y, .long z, ez_fill, .int i, .int u, .int v] [] (ev_hp I J R T) cz kz = some (some (.long 0), ev_hp I J R T, cz, kz) := by
  intro G
  rfl
theorem pd_r14 {s : Int32} {x : Int32} {y : Int32} {z : Int64} {i : Int32} {u : Int32} {v : Int32} : ∀ G : ez_F, fx_up X 7 G 149 72 [.ref 1, .int s, .int x, .int y, .long z, ez_fill, .int i, .int u, .int v] [] (ev_hp I J R T) cz kz = ev_C G 55 [.int v, .int 0, .int ((I 1 4) - 1)] (ev_hp I J R T) fun r h1 c1 k1 => G 149 84 [.ref 1, .int s, .int x, .int y, .long z, ez_fill, .int i, .int u, .int v] (r.toList ++ []) h1 (cz + c1) (kz + k1) := by
  intro G
  rfl
theorem pd_r15 {s : Int32} {x : Int32} {y : Int32} {z : Int64} {i : Int32} {u : Int32} {v : Int32} {q : Int32} : ∀ G : ez_F, fx_up X 1 G 149 84 [.ref 1, .int s, .int x, .int y, .long z, ez_fill, .int i, .int u, .int v] [.int q] (ev_hp I J R T) cz kz = bif decide (¬ q = (0 : Int32)) then G 149 89 [.ref 1, .int s, .int x, .int y, .long z, ez_fill, .int i, .int u, .int v] [] (ev_hp I J R T) cz kz else G 149 87 [.ref 1, .int s, .int x, .int y, .long z, ez_fill, .int i, .int u, .int v] [] (ev_hp I J R T) cz kz := by
  intro G
  rfl
set_option maxRecDepth 100000 in
theorem pd_r16 {s : Int32} {x : Int32} {y : Int32} {z : Int64} {i : Int32} {u : Int32} {v : Int32} : ∀ G : ez_F, fx_up X 13 G 149 89 [.ref 1, .int s, .int x, .int y, .long z, ez_fill, .int i, .int u, .int v] [] (ev_hp I J R T) cz kz = G 149 6 [.ref 1, .int s, .int x, .int y, .long (z ||| (1 <<< ((((I 1 3) * v) + u).toInt64 &&& 63))), ez_fill, .int (i + 1)] [] (ev_hp I J R T) cz kz := by
  intro G
  rfl
end
def fm_F (x y : Int32) : Int32 := if 0 ≤ (x ^^^ y) then x - x / y * y else if x - x / y * y = 0 then x - x / y * y else x - x / y * y + y
def wr_F (wr v z : Int32) : Int32 := if wr = 0 then v else if z ≤ 0 then v else fm_F v z
def pd_F (W H wr s x y : Int32) : Nat → Int32 → Int64 → Int64
  | 0, _, z => if ev_bcJ z = ev_bcI s then z else 0
  | r + 1, i, z => if ((s >>> (i &&& 31)) &&& 1) = 0 then pd_F W H wr s x y r (i + 1) z else
    if ev_wi (wr_F wr ((i &&& 3) + x) W) 0 (W - 1) = 0 then 0 else
    if ev_wi (wr_F wr ((i >>> 2) + y) H) 0 (H - 1) = 0 then 0 else
    pd_F W H wr s x y r (i + 1) (z ||| ((1 : Int64) <<< ((W * wr_F wr ((i >>> 2) + y) H + wr_F wr ((i &&& 3) + x) W).toInt64 &&& 63)))
theorem ex_fmod (X : ez_X) (h : ez_H) (x y : Int32) (hy : ¬ y = 0) : ev_W X 240 0 (ez_lay [.int x, .int y]) [] h 0 0 (ev_is (some (.int (fm_F x y))) h) := by
  unfold fm_F
  refine ev_seg (ec_fmod_r1 X h x y _ _) ?_
  refine ev_irem (by rfl) hy ?_
  refine ev_if (ec_fmod_r2 X h x y _ _) (fun b1 => ?_) (fun b1 => ?_)
  · rw [if_pos (of_decide_eq_true b1)]
    exact ev_ret (ec_fmod_r3 X h x y _ _) ⟨rfl, rfl, rfl, rfl⟩
  · rw [if_neg (of_decide_eq_false b1)]
    refine ev_if (ec_fmod_r4 X h x y _ _) (fun b2 => ?_) (fun b2 => ?_)
    · rw [if_pos (of_decide_eq_true b2)]
      exact ev_ret (ec_fmod_r5 X h x y _ _) ⟨rfl, rfl, rfl, rfl⟩
    · rw [if_neg (of_decide_eq_false b2)]
      exact ev_ret (ec_fmod_r6 X h x y _ _) ⟨rfl, rfl, rfl, rfl⟩
theorem ex_wrapped (X : ez_X) (I : Nat → Nat → Int32) (J : Nat → Nat → Int64) (R : Nat → Nat) (T : List ez_C) (v z : Int32) : ev_W X 154 0 (ez_lay [.ref 1, .int v, .int z]) [] (ev_hp I J R T) 0 0 (ev_is (some (.int (wr_F (I 1 5) v z))) (ev_hp I J R T)) := by
  unfold wr_F
  refine ev_if wp_r0 (fun b1 => ?_) (fun b1 => ?_)
  · rw [if_pos (of_decide_eq_true b1)]
    exact ev_ret wp_r4 ⟨rfl, rfl, rfl, rfl⟩
  · rw [if_neg (of_decide_eq_false b1)]
    refine ev_if wp_r1 (fun b2 => ?_) (fun b2 => ?_)
    · rw [if_pos (of_decide_eq_true b2)]
      exact ev_ret wp_r4 ⟨rfl, rfl, rfl, rfl⟩
    · rw [if_neg (of_decide_eq_false b2)]
      refine ev_call wp_r2 (ex_fmod X _ v z (fun hz => (of_decide_eq_false b2) (by rw [hz]; decide))) ?_
      rintro _ _ _ _ ⟨rfl, rfl, rfl, rfl⟩
      exact ev_ret wp_r3 ⟨rfl, rfl, rfl, rfl⟩
section
variable (X : ez_X) (I : Nat → Nat → Int32) (J : Nat → Nat → Int64) (R : Nat → Nat) (T : List ez_C) (s x y : Int32)
theorem ex_placed_l : ∀ (r : Nat) (i : Int32) (z : Int64) (cz kz : Nat), i.toInt + (r : Int) = 16 → 0 ≤ i.toInt →
    ev_W X 149 6 [.ref 1, .int s, .int x, .int y, .long z, ez_fill, .int i] [] (ev_hp I J R T) cz kz (fun q h' c' k' => q = some (.long (pd_F (I 1 3) (I 1 4) (I 1 5) s x y r i z)) ∧ h' = ev_hp I J R T ∧ c' = cz ∧ k' = kz) := by
  have e16 : (16 : Int32).toInt = 16 := by decide
  intro r
  induction r with
  | zero =>
    intro i z cz kz hi h0
    refine ev_if pd_r1 (fun _ => ?_) (fun ht => ?_)
    · refine ev_call pd_r2 (ec_bcJ X _ z) ?_
      rintro _ _ _ _ ⟨rfl, rfl, rfl, rfl⟩
      refine ev_call pd_r3 (ec_bcI X _ s) ?_
      rintro _ _ _ _ ⟨rfl, rfl, rfl, rfl⟩
      unfold pd_F
      refine ev_if pd_r4 (fun h => ?_) (fun h => ?_)
      · rw [if_neg (of_decide_eq_true h)]
        exact ev_ret pd_r5 ⟨rfl, rfl, rfl, rfl⟩
      · rw [if_pos (Classical.not_not.mp (of_decide_eq_false h))]
        exact ev_ret pd_r6 ⟨rfl, rfl, rfl, rfl⟩
    · exact absurd (Int32.le_iff_toInt_le.mpr (by rw [e16]; omega)) (of_decide_eq_false ht)
  | succ r ih =>
    intro i z cz kz hi h0
    have hi1 : (i + 1).toInt = i.toInt + 1 := nd_inc h0 (by omega)
    refine ev_if pd_r1 (fun ht => ?_) (fun _ => ?_)
    · have := Int32.le_iff_toInt_le.mp (of_decide_eq_true ht)
      rw [e16] at this
      omega
    unfold pd_F
    refine ev_if pd_r7 (fun ht => ?_) (fun ht => ?_)
    rotate_left
    · rw [if_pos (Classical.not_not.mp (of_decide_eq_false ht))]
      refine ev_seg pd_r8 ?_
      exact ih (i + 1) z _ _ (by omega) (by omega)
    rw [if_neg (of_decide_eq_true ht)]
    refine ev_call pd_r9 (ex_wrapped X I J R T _ _) ?_
    rintro _ _ _ _ ⟨rfl, rfl, rfl, rfl⟩
    refine ev_call pd_r10 (ex_wrapped X I J R T _ _) ?_
    rintro _ _ _ _ ⟨rfl, rfl, rfl, rfl⟩
    generalize wr_F (I 1 5) ((i &&& 3) + x) (I 1 3) = u
    generalize wr_F (I 1 5) ((i >>> 2) + y) (I 1 4) = v
    refine ev_call pd_r11 (ec_within X _ u 0 _) ?_
    rintro _ _ _ _ ⟨rfl, rfl, rfl, rfl⟩
    refine ev_if pd_r12 (fun h1 => ?_) (fun h1 => ?_)
    · rw [if_pos (of_decide_eq_true h1)]
      exact ev_ret pd_r13 ⟨rfl, rfl, rfl, rfl⟩
    rw [if_neg (of_decide_eq_false h1)]
    refine ev_call pd_r14 (ec_within X _ v 0 _) ?_
    rintro _ _ _ _ ⟨rfl, rfl, rfl, rfl⟩
    refine ev_if pd_r15 (fun h2 => ?_) (fun h2 => ?_)
    rotate_left
    · rw [if_pos (Classical.not_not.mp (of_decide_eq_false h2))]
      exact ev_ret pd_r13 ⟨rfl, rfl, rfl, rfl⟩
    rw [if_neg (of_decide_eq_true h2)]
    refine ev_seg pd_r16 ?_
    exact ih (i + 1) _ _ _ (by omega) (by omega)
theorem ex_placed : ev_W X 149 0 (ez_lay [.ref 1, .int s, .int x, .int y]) [] (ev_hp I J R T) 0 0 (ev_is (some (.long (pd_F (I 1 3) (I 1 4) (I 1 5) s x y 16 0 0))) (ev_hp I J R T)) := by
  refine ev_seg pd_r0 ?_
  exact ex_placed_l X I J R T s x y 16 0 0 _ _ (by decide) (by decide)
end
/-! the same as moved's -/
theorem pd_ij : ((List.range 16).all fun j => decide ((Int32.ofNat j &&& 3) = Int32.ofNat j - Int32.ofNat j / 4 * 4) && (decide ((Int32.ofNat j >>> 2) = Int32.ofNat j / 4) && decide (Int32.ofNat j + 1 = Int32.ofNat (j + 1)))) = true := by decide +kernel
theorem pd_ij_s {j : Nat} (hj : j < 16) : (Int32.ofNat j &&& 3) = Int32.ofNat j - Int32.ofNat j / 4 * 4 ∧ (Int32.ofNat j >>> 2) = Int32.ofNat j / 4 ∧ Int32.ofNat j + 1 = Int32.ofNat (j + 1) := by
  have h := List.all_eq_true.mp pd_ij j (List.mem_range.mpr hj)
  obtain ⟨h1, h2⟩ := Bool.and_eq_true_iff.mp h
  obtain ⟨h2, h3⟩ := Bool.and_eq_true_iff.mp h2
  exact ⟨of_decide_eq_true h1, of_decide_eq_true h2, of_decide_eq_true h3⟩
def pd_vs : List Int := [-4, -3, -2, -1, 0, 1, 2, 3, 4, 5, 6, 7, 8]
theorem pd_wt : (([2, 3, 4, 5, 6] : List Int).all fun W => pd_vs.all fun v => decide (wr_F 1 (Int32.ofInt v) (Int32.ofInt W) = mv_c (Int32.ofInt W) 1 (Int32.ofInt v))) = true := by decide +kernel
theorem pd_w {wr W v : Int32} (hwr : wr = 0 ∨ wr = 1) (hW : 2 ≤ W.toInt ∧ W.toInt ≤ 6) (hv : -4 ≤ v.toInt ∧ v.toInt ≤ 8) : wr_F wr v W = mv_c W wr v := by
  rcases hwr with rfl | rfl
  · rfl
  · have h1 := List.all_eq_true.mp pd_wt W.toInt (by
      rcases (show W.toInt = 2 ∨ W.toInt = 3 ∨ W.toInt = 4 ∨ W.toInt = 5 ∨ W.toInt = 6 by omega) with e | e | e | e | e <;> rw [e] <;> decide)
    have h2 := List.all_eq_true.mp h1 v.toInt (by
      rcases (show v.toInt = -4 ∨ v.toInt = -3 ∨ v.toInt = -2 ∨ v.toInt = -1 ∨ v.toInt = 0 ∨ v.toInt = 1 ∨ v.toInt = 2 ∨ v.toInt = 3 ∨ v.toInt = 4 ∨ v.toInt = 5 ∨ v.toInt = 6 ∨ v.toInt = 7 ∨ v.toInt = 8 by omega) with e | e | e | e | e | e | e | e | e | e | e | e | e <;> rw [e] <;> decide)
    have h3 := of_decide_eq_true h2
    rw [Int32.ofInt_toInt, Int32.ofInt_toInt] at h3
    exact h3
theorem il_z (a b : Int32) : ev_il a.toInt64 0 b.toInt64 = ev_wi a 0 b := by
  have h := ev_il_wi a 0 b
  rw [show (0 : Int32).toInt64 = 0 from by decide] at h
  exact h
section
variable {W H wr x y : Int32} {s : Nat}
/-- a cell within the paper, by its number -/
theorem pd_cell (hW : 2 ≤ W.toInt ∧ W.toInt ≤ 6) (hH : 2 ≤ H.toInt ∧ H.toInt ≤ 6) {u v : Int32} (hu : ¬ ev_wi u 0 (W - 1) = 0) (hv : ¬ ev_wi v 0 (H - 1) = 0) : ∃ p : Nat, p < 36 ∧ W * v + u = Int32.ofNat p := by
  have e0 : (0 : Int32).toInt = 0 := by decide
  obtain ⟨u0, u1⟩ := ev_wi_ne hu
  obtain ⟨v0, v1⟩ := ev_wi_ne hv
  rw [mv_w1 hW] at u1
  rw [mv_w1 hH] at v1
  have m0 : 0 ≤ W.toInt * v.toInt := Int.mul_nonneg (by omega) (by omega)
  have m1 : W.toInt * v.toInt ≤ 6 * 5 := Int.mul_le_mul hW.2 (by omega) (by omega) (by decide)
  have em : (W * v).toInt = W.toInt * v.toInt := by
    rw [Int32.toInt_mul, cx_bm32]
    simp only [cx_i32]
    omega
  have ea : (W * v + u).toInt = W.toInt * v.toInt + u.toInt := by
    rw [Int32.toInt_add, em, cx_bm32]
    simp only [cx_i32]
    omega
  exact ⟨(W * v + u).toInt.toNat, by omega, (nd_ofNat (by omega)).symm⟩
theorem pd_bit (hs : s < 65536) {j : Nat} (hj : j < 16) : (((Int32.ofNat s >>> (Int32.ofNat j &&& 31)) &&& 1) = 0 ↔ s.testBit j = false) ∧ (ev_has (Int32.ofNat s).toInt64 (Int32.ofNat j) = 0 ↔ s.testBit j = false) := by
  refine ⟨?_, ?_⟩
  · rw [kbI_and1, kbI_sar0 _ (by omega), kbI_of hs]
    cases s.testBit j <;> decide
  · rw [has_kb _ (by omega), kb_of hs]
/-- once two of its cells fell together, it is no place -/
theorem pd_less (hW : 2 ≤ W.toInt ∧ W.toInt ≤ 6) (hH : 2 ≤ H.toInt ∧ H.toInt ≤ 6) (hs : s < 65536) : ∀ (r j : Nat) (z : Int64), j + r = 16 → pcJ z < pc j s → pd_F W H wr (Int32.ofNat s) x y r (Int32.ofNat j) z = 0 := by
  intro r
  induction r with
  | zero =>
    intro j z hj hp
    unfold pd_F
    rw [if_neg]
    rw [pcJ_bc, bcI_pc hs]
    intro e
    have e2 := congrArg Int32.toInt e
    have l1 := pcJ_le z
    have l2 := pc_le 16 s
    rw [Int32.toInt_ofNat_of_lt (by omega), Int32.toInt_ofNat_of_lt (by omega)] at e2
    obtain rfl : j = 16 := by omega
    omega
  | succ r ih =>
    intro j z hj hp
    obtain ⟨-, -, e3⟩ := pd_ij_s (j := j) (by omega)
    have ht := pc_top j s
    unfold pd_F
    rw [e3]
    by_cases hb : s.testBit j = false
    · rw [if_pos ((pd_bit hs (by omega)).1.mpr hb)]
      rw [hb] at ht
      exact ih (j + 1) z (by omega) (by rw [ht]; exact hp)
    · rw [if_neg (fun h => hb ((pd_bit hs (by omega)).1.mp h))]
      have hb2 : s.testBit j = true := by
        cases h : s.testBit j with
        | true => rfl
        | false => exact absurd h hb
      rw [hb2] at ht
      split
      · rfl
      · rename_i h1
        split
        · rfl
        · rename_i h2
          obtain ⟨p, hp2, ep⟩ := pd_cell hW hH h1 h2
          rw [ep]
          refine ih (j + 1) _ (by omega) ?_
          rw [pcJ_or z (by omega), ht]
          cases kb z p
          · show pcJ z + 1 < pc j s + 1
            omega
          · show pcJ z + 0 < pc j s + 1
            omega
theorem pd_mv (hwr : wr = 0 ∨ wr = 1) (hW : 2 ≤ W.toInt ∧ W.toInt ≤ 6) (hH : 2 ≤ H.toInt ∧ H.toInt ≤ 6) (hx : -4 ≤ x.toInt ∧ x.toInt ≤ 5) (hy : -4 ≤ y.toInt ∧ y.toInt ≤ 5) (hs : s < 65536) : ∀ (r j : Nat) (z : Int64), j + r = 16 → pcJ z = pc j s →
    pd_F W H wr (Int32.ofNat s) x y r (Int32.ofNat j) z = mv_F W H wr (Int32.ofNat s) x y r (Int32.ofNat j) z := by
  intro r
  induction r with
  | zero =>
    intro j z hj hp
    obtain rfl : j = 16 := by omega
    unfold pd_F mv_F
    rw [if_pos (by rw [pcJ_bc, bcI_pc hs, hp])]
  | succ r ih =>
    intro j z hj hp
    obtain ⟨e1, e2, e3⟩ := pd_ij_s (j := j) (by omega)
    have ht := pc_top j s
    have hk0 : 0 ≤ (Int32.ofNat j).toInt := by rw [Int32.toInt_ofNat_of_lt (by omega)]; omega
    have hk1 : (Int32.ofNat j).toInt < 16 := by rw [Int32.toInt_ofNat_of_lt (by omega)]; omega
    obtain ⟨a1, a2⟩ := mv_k4_s hk0 hk1
    unfold pd_F mv_F
    rw [e1, e2, e3]
    by_cases hb : s.testBit j = false
    · rw [if_pos ((pd_bit hs (by omega)).1.mpr hb), if_pos ((pd_bit hs (by omega)).2.mpr hb)]
      rw [hb] at ht
      exact ih (j + 1) z (by omega) (by rw [ht]; exact hp)
    · rw [if_neg (fun h => hb ((pd_bit hs (by omega)).1.mp h)), if_neg (fun h => hb ((pd_bit hs (by omega)).2.mp h))]
      have hb2 : s.testBit j = true := by
        cases h : s.testBit j with
        | true => rfl
        | false => exact absurd h hb
      rw [hb2] at ht
      have x1 := mv_ad a1 hx
      have y1 := mv_ad a2 hy
      rw [pd_w hwr hW (v := Int32.ofNat j - Int32.ofNat j / 4 * 4 + x) (by omega), pd_w hwr hH (v := Int32.ofNat j / 4 + y) (by omega), il_z, il_z]
      generalize mv_c W wr (Int32.ofNat j - Int32.ofNat j / 4 * 4 + x) = u
      generalize mv_c H wr (Int32.ofNat j / 4 + y) = v
      by_cases h1 : ev_wi u 0 (W - 1) = 0
      · rw [if_pos h1, if_pos h1]
      rw [if_neg h1, if_neg h1]
      by_cases h2 : ev_wi v 0 (H - 1) = 0
      · rw [if_pos h2, if_pos h2]
      rw [if_neg h2, if_neg h2]
      obtain ⟨p, hp2, ep⟩ := pd_cell hW hH h1 h2
      rw [ep]
      have ho := pcJ_or z (show p < 64 by omega)
      by_cases hk : kb z p = false
      · rw [if_pos ((has_kb z (by omega)).mpr hk)]
        rw [hk] at ho
        exact ih (j + 1) _ (by omega) (by rw [ho, ht, hp]; rfl)
      · rw [if_neg (fun h => hk ((has_kb z (by omega)).mp h))]
        have hk2 : kb z p = true := by
          cases h : kb z p with
          | true => rfl
          | false => exact absurd h hk
        rw [hk2] at ho
        refine pd_less hW hH hs r (j + 1) _ (by omega) ?_
        rw [ho, ht, hp]
        show pc j s + 0 < pc j s + 1
        omega
theorem pd_is (hwr : wr = 0 ∨ wr = 1) (hW : 2 ≤ W.toInt ∧ W.toInt ≤ 6) (hH : 2 ≤ H.toInt ∧ H.toInt ≤ 6) (hx : -4 ≤ x.toInt ∧ x.toInt ≤ 5) (hy : -4 ≤ y.toInt ∧ y.toInt ≤ 5) (hs : s < 65536) : pd_F W H wr (Int32.ofNat s) x y 16 0 0 = mv_F W H wr (Int32.ofNat s) x y 16 0 0 :=
  pd_mv hwr hW hH hx hy hs 16 0 0 rfl (by unfold pcJ; rw [show (0 : Int64).toBitVec.toNat = 0 from by decide, pc_zero]; rfl)
end
