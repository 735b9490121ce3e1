/-! Calls on new objects that are refused. -/
theorem ev_wi_neg (v : Int32) : ev_wi v 0 (0 - 1) = 0 := by
  unfold ev_wi
  split
  · rfl
  · rename_i h
    have h2 : ((0 : Int32) - 1) < v := by
      have h1 : ¬ v.toInt < (0 : Int32).toInt := fun z => h (Int32.lt_iff_toInt_lt.mpr z)
      have e0 : (0 : Int32).toInt = 0 := by decide
      have e1 : ((0 : Int32) - 1).toInt = -1 := by decide
      exact Int32.lt_iff_toInt_lt.mpr (by omega)
    rw [if_pos h2]
theorem ev_wi_out {v a b : Int32} (h : ev_wi v a b = 0) : v.toInt < a.toInt ∨ b.toInt < v.toInt := by
  unfold ev_wi at h
  split at h
  · rename_i h1; exact Or.inl (Int32.lt_iff_toInt_lt.mp h1)
  · split at h
    · rename_i h1; exact Or.inr (Int32.lt_iff_toInt_lt.mp h1)
    · exact absurd h (by decide)
theorem ev_wi_nz {v : Int32} (h : ev_wi v 0 2 = 0) : ¬ v = 0 ∧ ¬ v = 1 ∧ ¬ v = 2 := by
  refine ⟨?_, ?_, ?_⟩ <;> (rintro rfl; exact absurd h (by decide))

set_option maxRecDepth 100000 in
set_option maxHeartbeats 100000 in
theorem ef_spots_r_r1 (X : ez_X) (I : Nat → Nat → Int32) (J : Nat → Nat → Int64) (R : Nat → Nat) (T : List ez_C) (a : Int32) (cz kz : Nat) : ∀ G : ez_F, fx_up X 3 G 46 0 [.ref 0, .int a] [] (ev_hp ev_I0 ev_J0 ev_R0 []) cz kz = ev_C G 25 [.ref 0, .int a] (ev_hp ev_I0 ev_J0 ev_R0 []) fun r h1 c1 k1 => G 46 5 [.ref 0, .int a] (r.toList ++ []) h1 (cz + c1) (kz + k1) := by
  intro G
  rfl
set_option maxRecDepth 100000 in
set_option maxHeartbeats 100000 in
theorem ef_spots_r_r2 (X : ez_X) (I : Nat → Nat → Int32) (J : Nat → Nat → Int64) (R : Nat → Nat) (T : List ez_C) (a : Int32) (q72 : Int32) (cz kz : Nat) : ∀ G : ez_F, fx_up X 1 G 46 5 [.ref 0, .int a] [.int q72] (ev_hp ev_I0 ev_J0 ev_R0 []) cz kz = bif decide (q72 = 0) then G 46 19 [.ref 0, .int a] [] (ev_hp ev_I0 ev_J0 ev_R0 []) cz kz else G 46 8 [.ref 0, .int a] [] (ev_hp ev_I0 ev_J0 ev_R0 []) cz kz := by
  intro G
  rfl
set_option maxRecDepth 100000 in
set_option maxHeartbeats 100000 in
theorem ef_spots_r_r3 (X : ez_X) (I : Nat → Nat → Int32) (J : Nat → Nat → Int64) (R : Nat → Nat) (T : List ez_C) (a : Int32) (q72 : Int32) (cz kz : Nat) : ∀ G : ez_F, fx_up X 2 G 46 19 [.ref 0, .int a] [] (ev_hp ev_I0 ev_J0 ev_R0 []) cz kz = some (some (.int (-2)), (ev_hp ev_I0 ev_J0 ev_R0 []), cz, kz) := by
  intro G
  rfl
theorem ef_spots_r (X : ez_X) (I : Nat → Nat → Int32) (J : Nat → Nat → Int64) (R : Nat → Nat) (T : List ez_C) (a : Int32)  : ev_W X 46 0 (ez_lay [.ref 0, .int a]) [] (ev_hp ev_I0 ev_J0 ev_R0 []) 0 0 (fun r h1 c1 k1 => (((((ev_wi a 0 ((0 : Int32) - (1 : Int32))))) = 0) ∧ r = some (.int (-2)) ∧ h1 = (ev_hp ev_I0 ev_J0 ev_R0 []) ∧ c1 = 0 ∧ k1 = 0)) := by
  refine ev_call (ef_spots_r_r1 X I J R T a _ _) (eg_isShip X ev_I0 ev_J0 ev_R0 [] a) ?_
  rintro r0 _ _ _ (⟨hr0, rfl, rfl, rfl⟩)
  obtain ⟨q72, hq72⟩ : ∃ z : Int32, ((ev_wi a 0 ((0 : Int32) - (1 : Int32)))) = z := ⟨_, rfl⟩
  have eq72 : r0 = some (.int q72) := hr0.trans (by subst hq72; rfl)
  subst eq72
  refine ev_if (ef_spots_r_r2 X I J R T a q72 _ _) (fun b1 => ?_) (fun b1 => ?_)
  · replace b1 := of_decide_eq_true b1
    refine ev_ret (ef_spots_r_r3 X I J R T a q72 _ _) ?_
    subst hq72
    exact ⟨b1, rfl, rfl, rfl, rfl⟩
  · replace b1 := of_decide_eq_false b1
    exact (b1 (by rw [← hq72]; exact (ev_wi_neg a))).elim
set_option maxRecDepth 100000 in
set_option maxHeartbeats 100000 in
theorem eh_spots_r_r1 (X : ez_X) (I : Nat → Nat → Int32) (J : Nat → Nat → Int64) (R : Nat → Nat) (T : List ez_C) (a : Int32) (cz kz : Nat) : ∀ G : ez_F, fx_up X 3 G 223 0 [.ref 35, .int a] [] (ev_hp ev_I0 ev_J0 ev_R0 []) cz kz = ev_C G 204 [.ref 35, .int a] (ev_hp ev_I0 ev_J0 ev_R0 []) fun r h1 c1 k1 => G 223 5 [.ref 35, .int a] (r.toList ++ []) h1 (cz + c1) (kz + k1) := by
  intro G
  rfl
set_option maxRecDepth 100000 in
set_option maxHeartbeats 100000 in
theorem eh_spots_r_r2 (X : ez_X) (I : Nat → Nat → Int32) (J : Nat → Nat → Int64) (R : Nat → Nat) (T : List ez_C) (a : Int32) (q73 : Int32) (cz kz : Nat) : ∀ G : ez_F, fx_up X 1 G 223 5 [.ref 35, .int a] [.int q73] (ev_hp ev_I0 ev_J0 ev_R0 []) cz kz = bif decide (¬ q73 = 0) then G 223 11 [.ref 35, .int a] [] (ev_hp ev_I0 ev_J0 ev_R0 []) cz kz else G 223 8 [.ref 35, .int a] [] (ev_hp ev_I0 ev_J0 ev_R0 []) cz kz := by
  intro G
  rfl
set_option maxRecDepth 100000 in
set_option maxHeartbeats 100000 in
theorem eh_spots_r_r3 (X : ez_X) (I : Nat → Nat → Int32) (J : Nat → Nat → Int64) (R : Nat → Nat) (T : List ez_C) (a : Int32) (q73 : Int32) (cz kz : Nat) : ∀ G : ez_F, fx_up X 2 G 223 8 [.ref 35, .int a] [] (ev_hp ev_I0 ev_J0 ev_R0 []) cz kz = some (some (.int (-2)), (ev_hp ev_I0 ev_J0 ev_R0 []), cz, kz) := by
  intro G
  rfl
theorem eh_spots_r (X : ez_X) (I : Nat → Nat → Int32) (J : Nat → Nat → Int64) (R : Nat → Nat) (T : List ez_C) (a : Int32)  : ev_W X 223 0 (ez_lay [.ref 35, .int a]) [] (ev_hp ev_I0 ev_J0 ev_R0 []) 0 0 (fun r h1 c1 k1 => ((¬ (¬ (((ev_il (a.toInt64) 0 (((0 : Int32) - (1 : Int32)).toInt64)))) = 0)) ∧ r = some (.int (-2)) ∧ h1 = (ev_hp ev_I0 ev_J0 ev_R0 []) ∧ c1 = 0 ∧ k1 = 0)) := by
  refine ev_call (eh_spots_r_r1 X I J R T a _ _) (em_isShip X ev_I0 ev_J0 ev_R0 [] a) ?_
  rintro r0 _ _ _ (⟨hr0, rfl, rfl, rfl⟩)
  obtain ⟨q73, hq73⟩ : ∃ z : Int32, ((ev_il (a.toInt64) 0 (((0 : Int32) - (1 : Int32)).toInt64))) = z := ⟨_, rfl⟩
  have eq73 : r0 = some (.int q73) := hr0.trans (by subst hq73; rfl)
  subst eq73
  refine ev_if (eh_spots_r_r2 X I J R T a q73 _ _) (fun b1 => ?_) (fun b1 => ?_)
  · replace b1 := of_decide_eq_true b1
    exact (b1 (by rw [← hq73]; exact ((ev_il_wi a 0 (0 - 1)).trans (ev_wi_neg a)))).elim
  · replace b1 := of_decide_eq_false b1
    refine ev_ret (eh_spots_r_r3 X I J R T a q73 _ _) ?_
    subst hq73
    exact ⟨b1, rfl, rfl, rfl, rfl⟩
set_option maxRecDepth 100000 in
set_option maxHeartbeats 100000 in
theorem eo_spots_r_r1 (xs : Nat → Int32)  (cz kz : Nat) : ∀ G : ez_F, fx_up (4, xs) 2 G 241 342 [ez_scr, .ref 0, .ref 35, .int 0] [] (ev_hp ev_I0 ev_J0 ev_R0 []) cz kz = G 241 344 [ez_scr, .ref 0, .ref 35, .int 0] [ez_scr, .ref 0] (ev_hp ev_I0 ev_J0 ev_R0 []) cz kz := by
  intro G
  rfl
set_option maxRecDepth 100000 in
set_option maxHeartbeats 100000 in
theorem eo_spots_r_r2 (xs : Nat → Int32)  (cz kz : Nat) : ∀ G : ez_F, fx_up (4, xs) 2 G 241 344 [ez_scr, .ref 0, .ref 35, .int 0] [ez_scr, .ref 0] (ev_hp ev_I0 ev_J0 ev_R0 []) cz kz = G 241 346 [ez_scr, .ref 0, .ref 35, .int 0] [.int 1, .int 0, ez_scr, .ref 0] (ev_hp ev_I0 ev_J0 ev_R0 []) cz kz := by
  intro G
  rfl
set_option maxRecDepth 100000 in
set_option maxHeartbeats 100000 in
theorem eo_spots_r_r3 (xs : Nat → Int32)  (cz kz : Nat) : ∀ G : ez_F, fx_up (4, xs) 2 G 241 346 [ez_scr, .ref 0, .ref 35, .int 0] [.int 1, .int 0, ez_scr, .ref 0] (ev_hp ev_I0 ev_J0 ev_R0 []) cz kz = G 241 348 [ez_scr, .ref 0, .ref 35, .int 0] [.int (xs 1), .ref 0] (ev_hp ev_I0 ev_J0 ev_R0 []) cz kz := by
  intro G
  rfl
set_option maxRecDepth 100000 in
set_option maxHeartbeats 100000 in
theorem eo_spots_r_r4 (xs : Nat → Int32)  (cz kz : Nat) : ∀ G : ez_F, fx_up (4, xs) 1 G 241 348 [ez_scr, .ref 0, .ref 35, .int 0] [.int (xs 1), .ref 0] (ev_hp ev_I0 ev_J0 ev_R0 []) cz kz = ev_C G 46 [.ref 0, .int (xs 1)] (ev_hp ev_I0 ev_J0 ev_R0 []) fun r h1 c1 k1 => G 241 351 [ez_scr, .ref 0, .ref 35, .int 0] (r.toList ++ []) h1 (cz + c1) (kz + k1) := by
  intro G
  rfl
set_option maxRecDepth 100000 in
set_option maxHeartbeats 100000 in
theorem eo_spots_r_r5 (xs : Nat → Int32)  (cz kz : Nat) : ∀ G : ez_F, fx_up (4, xs) 2 G 241 351 [ez_scr, .ref 0, .ref 35, .int 0] [.int (-2)] (ev_hp ev_I0 ev_J0 ev_R0 []) cz kz = G 241 353 [ez_scr, .ref 0, .ref 35, .int 0] [ez_scr, .ref 35, .int (-2)] (ev_hp ev_I0 ev_J0 ev_R0 []) cz kz := by
  intro G
  rfl
set_option maxRecDepth 100000 in
set_option maxHeartbeats 100000 in
theorem eo_spots_r_r6 (xs : Nat → Int32)  (cz kz : Nat) : ∀ G : ez_F, fx_up (4, xs) 2 G 241 353 [ez_scr, .ref 0, .ref 35, .int 0] [ez_scr, .ref 35, .int (-2)] (ev_hp ev_I0 ev_J0 ev_R0 []) cz kz = G 241 355 [ez_scr, .ref 0, .ref 35, .int 0] [.int 1, .int 0, ez_scr, .ref 35, .int (-2)] (ev_hp ev_I0 ev_J0 ev_R0 []) cz kz := by
  intro G
  rfl
set_option maxRecDepth 100000 in
set_option maxHeartbeats 100000 in
theorem eo_spots_r_r7 (xs : Nat → Int32)  (cz kz : Nat) : ∀ G : ez_F, fx_up (4, xs) 2 G 241 355 [ez_scr, .ref 0, .ref 35, .int 0] [.int 1, .int 0, ez_scr, .ref 35, .int (-2)] (ev_hp ev_I0 ev_J0 ev_R0 []) cz kz = G 241 357 [ez_scr, .ref 0, .ref 35, .int 0] [.int (xs 1), .ref 35, .int (-2)] (ev_hp ev_I0 ev_J0 ev_R0 []) cz kz := by
  intro G
  rfl
set_option maxRecDepth 100000 in
set_option maxHeartbeats 100000 in
theorem eo_spots_r_r8 (xs : Nat → Int32)  (cz kz : Nat) : ∀ G : ez_F, fx_up (4, xs) 1 G 241 357 [ez_scr, .ref 0, .ref 35, .int 0] [.int (xs 1), .ref 35, .int (-2)] (ev_hp ev_I0 ev_J0 ev_R0 []) cz kz = ev_C G 223 [.ref 35, .int (xs 1)] (ev_hp ev_I0 ev_J0 ev_R0 []) fun r h1 c1 k1 => G 241 360 [ez_scr, .ref 0, .ref 35, .int 0] (r.toList ++ [.int (-2)]) h1 (cz + c1) (kz + k1) := by
  intro G
  rfl
set_option maxRecDepth 100000 in
set_option maxHeartbeats 100000 in
theorem eo_spots_r_r9 (xs : Nat → Int32)  (cz kz : Nat) : ∀ G : ez_F, fx_up (4, xs) 2 G 241 360 [ez_scr, .ref 0, .ref 35, .int 0] [.int (-2), .int (-2)] (ev_hp ev_I0 ev_J0 ev_R0 []) cz kz = G 241 1078 [ez_scr, .ref 0, .ref 35, .int 4] [] (ev_hp ev_I0 ev_J0 ev_R0 []) cz kz := by
  intro G
  rfl
set_option maxRecDepth 100000 in
set_option maxHeartbeats 100000 in
theorem eo_spots_r_r10 (xs : Nat → Int32)  (cz kz : Nat) : ∀ G : ez_F, fx_up (4, xs) 2 G 241 1078 [ez_scr, .ref 0, .ref 35, .int 4] [] (ev_hp ev_I0 ev_J0 ev_R0 []) cz kz = G 241 19 [ez_scr, .ref 0, .ref 35, .int 4] [.int 4] (ev_hp ev_I0 ev_J0 ev_R0 []) cz kz := by
  intro G
  rfl
set_option maxRecDepth 100000 in
set_option maxHeartbeats 100000 in
theorem eo_spots_r_r11 (xs : Nat → Int32)  (cz kz : Nat) : ∀ G : ez_F, fx_up (4, xs) 2 G 241 19 [ez_scr, .ref 0, .ref 35, .int 4] [.int 4] (ev_hp ev_I0 ev_J0 ev_R0 []) cz kz = G 241 21 [ez_scr, .ref 0, .ref 35, .int 4] [.int 4, .int 4] (ev_hp ev_I0 ev_J0 ev_R0 []) cz kz := by
  intro G
  rfl
set_option maxRecDepth 100000 in
set_option maxHeartbeats 100000 in
theorem eo_spots_r_r12 (xs : Nat → Int32)  (cz kz : Nat) : ∀ G : ez_F, fx_up (4, xs) 2 G 241 21 [ez_scr, .ref 0, .ref 35, .int 4] [.int 4, .int 4] (ev_hp ev_I0 ev_J0 ev_R0 []) cz kz = G 241 23 [ez_scr, .ref 0, .ref 35, .int 4] [.int 0, .int 4] (ev_hp ev_I0 ev_J0 ev_R0 []) cz kz := by
  intro G
  rfl
set_option maxRecDepth 100000 in
set_option maxHeartbeats 100000 in
theorem eo_spots_r_r13 (xs : Nat → Int32)  (cz kz : Nat) : ∀ G : ez_F, fx_up (4, xs) 2 G 241 23 [ez_scr, .ref 0, .ref 35, .int 4] [.int 0, .int 4] (ev_hp ev_I0 ev_J0 ev_R0 []) cz kz = G 241 1082 [ez_scr, .ref 0, .ref 35, .int 4] [.int 1] (ev_hp ev_I0 ev_J0 ev_R0 []) cz kz := by
  intro G
  rfl
set_option maxRecDepth 100000 in
set_option maxHeartbeats 100000 in
theorem eo_spots_r_r14 (xs : Nat → Int32)  (cz kz : Nat) : ∀ G : ez_F, fx_up (4, xs) 1 G 241 1082 [ez_scr, .ref 0, .ref 35, .int 4] [.int 1] (ev_hp ev_I0 ev_J0 ev_R0 []) cz kz = some (some (.int 1), (ev_hp ev_I0 ev_J0 ev_R0 []), cz, kz) := by
  intro G
  rfl
theorem eo_spots_r (xs : Nat → Int32)  : ev_P1 (4, xs) 342 := by
  refine ev_seg (eo_spots_r_r1 xs  _ _) ?_
  refine ev_seg (eo_spots_r_r2 xs  _ _) ?_
  refine ev_seg (eo_spots_r_r3 xs  _ _) ?_
  refine ev_call (eo_spots_r_r4 xs  _ _) (ef_spots_r (4, xs) ev_I0 ev_J0 ev_R0 [] (xs 1)) ?_
  rintro r0 _ _ _ (⟨d31, rfl, rfl, rfl, rfl⟩)
  refine ev_seg (eo_spots_r_r5 xs  _ _) ?_
  refine ev_seg (eo_spots_r_r6 xs  _ _) ?_
  refine ev_seg (eo_spots_r_r7 xs  _ _) ?_
  refine ev_call (eo_spots_r_r8 xs  _ _) (eh_spots_r (4, xs) ev_I0 ev_J0 ev_R0 [] (xs 1)) ?_
  rintro r0 _ _ _ (⟨d32, rfl, rfl, rfl, rfl⟩)
  refine ev_seg (eo_spots_r_r9 xs  _ _) ?_
  refine ev_seg (eo_spots_r_r10 xs  _ _) ?_
  refine ev_seg (eo_spots_r_r11 xs  _ _) ?_
  refine ev_seg (eo_spots_r_r12 xs  _ _) ?_
  refine ev_seg (eo_spots_r_r13 xs  _ _) ?_
  refine ev_ret (eo_spots_r_r14 xs  _ _) ?_
  exact ⟨rfl, by omega, by omega⟩
set_option maxRecDepth 100000 in
set_option maxHeartbeats 100000 in
theorem ef_spot_r_r1 (X : ez_X) (I : Nat → Nat → Int32) (J : Nat → Nat → Int64) (R : Nat → Nat) (T : List ez_C) (a : Int32) (b : Int32) (cz kz : Nat) : ∀ G : ez_F, fx_up X 3 G 44 0 [.ref 0, .int a, .int b] [] (ev_hp ev_I0 ev_J0 ev_R0 []) cz kz = ev_C G 25 [.ref 0, .int a] (ev_hp ev_I0 ev_J0 ev_R0 []) fun r h1 c1 k1 => G 44 5 [.ref 0, .int a, .int b] (r.toList ++ []) h1 (cz + c1) (kz + k1) := by
  intro G
  rfl
set_option maxRecDepth 100000 in
set_option maxHeartbeats 100000 in
theorem ef_spot_r_r2 (X : ez_X) (I : Nat → Nat → Int32) (J : Nat → Nat → Int64) (R : Nat → Nat) (T : List ez_C) (a : Int32) (b : Int32) (q74 : Int32) (cz kz : Nat) : ∀ G : ez_F, fx_up X 1 G 44 5 [.ref 0, .int a, .int b] [.int q74] (ev_hp ev_I0 ev_J0 ev_R0 []) cz kz = bif decide (¬ q74 = 0) then G 44 12 [.ref 0, .int a, .int b] [] (ev_hp ev_I0 ev_J0 ev_R0 []) cz kz else G 44 8 [.ref 0, .int a, .int b] [] (ev_hp ev_I0 ev_J0 ev_R0 []) cz kz := by
  intro G
  rfl
set_option maxRecDepth 100000 in
set_option maxHeartbeats 100000 in
theorem ef_spot_r_r3 (X : ez_X) (I : Nat → Nat → Int32) (J : Nat → Nat → Int64) (R : Nat → Nat) (T : List ez_C) (a : Int32) (b : Int32) (q74 : Int32) (cz kz : Nat) : ∀ G : ez_F, fx_up X 2 G 44 8 [.ref 0, .int a, .int b] [] (ev_hp ev_I0 ev_J0 ev_R0 []) cz kz = some (some (.long (-2)), (ev_hp ev_I0 ev_J0 ev_R0 []), cz, kz) := by
  intro G
  rfl
theorem ef_spot_r (X : ez_X) (I : Nat → Nat → Int32) (J : Nat → Nat → Int64) (R : Nat → Nat) (T : List ez_C) (a : Int32) (b : Int32)  : ev_W X 44 0 (ez_lay [.ref 0, .int a, .int b]) [] (ev_hp ev_I0 ev_J0 ev_R0 []) 0 0 (fun r h1 c1 k1 => ((¬ (¬ (((ev_wi a 0 ((0 : Int32) - (1 : Int32))))) = 0)) ∧ r = some (.long (-2)) ∧ h1 = (ev_hp ev_I0 ev_J0 ev_R0 []) ∧ c1 = 0 ∧ k1 = 0)) := by
  refine ev_call (ef_spot_r_r1 X I J R T a b _ _) (eg_isShip X ev_I0 ev_J0 ev_R0 [] a) ?_
  rintro r0 _ _ _ (⟨hr0, rfl, rfl, rfl⟩)
  obtain ⟨q74, hq74⟩ : ∃ z : Int32, ((ev_wi a 0 ((0 : Int32) - (1 : Int32)))) = z := ⟨_, rfl⟩
  have eq74 : r0 = some (.int q74) := hr0.trans (by subst hq74; rfl)
  subst eq74
  refine ev_if (ef_spot_r_r2 X I J R T a b q74 _ _) (fun b1 => ?_) (fun b1 => ?_)
  · replace b1 := of_decide_eq_true b1
    exact (b1 (by rw [← hq74]; exact (ev_wi_neg a))).elim
  · replace b1 := of_decide_eq_false b1
    refine ev_ret (ef_spot_r_r3 X I J R T a b q74 _ _) ?_
    subst hq74
    exact ⟨b1, rfl, rfl, rfl, rfl⟩
set_option maxRecDepth 100000 in
set_option maxHeartbeats 100000 in
theorem eh_spot_r_r1 (X : ez_X) (I : Nat → Nat → Int32) (J : Nat → Nat → Int64) (R : Nat → Nat) (T : List ez_C) (a : Int32) (b : Int32) (cz kz : Nat) : ∀ G : ez_F, fx_up X 3 G 222 0 [.ref 35, .int a, .int b] [] (ev_hp ev_I0 ev_J0 ev_R0 []) cz kz = ev_C G 204 [.ref 35, .int a] (ev_hp ev_I0 ev_J0 ev_R0 []) fun r h1 c1 k1 => G 222 5 [.ref 35, .int a, .int b] (r.toList ++ []) h1 (cz + c1) (kz + k1) := by
  intro G
  rfl
set_option maxRecDepth 100000 in
set_option maxHeartbeats 100000 in
theorem eh_spot_r_r2 (X : ez_X) (I : Nat → Nat → Int32) (J : Nat → Nat → Int64) (R : Nat → Nat) (T : List ez_C) (a : Int32) (b : Int32) (q75 : Int32) (cz kz : Nat) : ∀ G : ez_F, fx_up X 1 G 222 5 [.ref 35, .int a, .int b] [.int q75] (ev_hp ev_I0 ev_J0 ev_R0 []) cz kz = bif decide (¬ q75 = 0) then G 222 12 [.ref 35, .int a, .int b] [] (ev_hp ev_I0 ev_J0 ev_R0 []) cz kz else G 222 8 [.ref 35, .int a, .int b] [] (ev_hp ev_I0 ev_J0 ev_R0 []) cz kz := by
  intro G
  rfl
set_option maxRecDepth 100000 in
set_option maxHeartbeats 100000 in
theorem eh_spot_r_r3 (X : ez_X) (I : Nat → Nat → Int32) (J : Nat → Nat → Int64) (R : Nat → Nat) (T : List ez_C) (a : Int32) (b : Int32) (q75 : Int32) (cz kz : Nat) : ∀ G : ez_F, fx_up X 2 G 222 8 [.ref 35, .int a, .int b] [] (ev_hp ev_I0 ev_J0 ev_R0 []) cz kz = some (some (.long (-2)), (ev_hp ev_I0 ev_J0 ev_R0 []), cz, kz) := by
  intro G
  rfl
theorem eh_spot_r (X : ez_X) (I : Nat → Nat → Int32) (J : Nat → Nat → Int64) (R : Nat → Nat) (T : List ez_C) (a : Int32) (b : Int32)  : ev_W X 222 0 (ez_lay [.ref 35, .int a, .int b]) [] (ev_hp ev_I0 ev_J0 ev_R0 []) 0 0 (fun r h1 c1 k1 => ((¬ (¬ (((ev_il (a.toInt64) 0 (((0 : Int32) - (1 : Int32)).toInt64)))) = 0)) ∧ r = some (.long (-2)) ∧ h1 = (ev_hp ev_I0 ev_J0 ev_R0 []) ∧ c1 = 0 ∧ k1 = 0)) := by
  refine ev_call (eh_spot_r_r1 X I J R T a b _ _) (em_isShip X ev_I0 ev_J0 ev_R0 [] a) ?_
  rintro r0 _ _ _ (⟨hr0, rfl, rfl, rfl⟩)
  obtain ⟨q75, hq75⟩ : ∃ z : Int32, ((ev_il (a.toInt64) 0 (((0 : Int32) - (1 : Int32)).toInt64))) = z := ⟨_, rfl⟩
  have eq75 : r0 = some (.int q75) := hr0.trans (by subst hq75; rfl)
  subst eq75
  refine ev_if (eh_spot_r_r2 X I J R T a b q75 _ _) (fun b1 => ?_) (fun b1 => ?_)
  · replace b1 := of_decide_eq_true b1
    exact (b1 (by rw [← hq75]; exact ((ev_il_wi a 0 (0 - 1)).trans (ev_wi_neg a)))).elim
  · replace b1 := of_decide_eq_false b1
    refine ev_ret (eh_spot_r_r3 X I J R T a b q75 _ _) ?_
    subst hq75
    exact ⟨b1, rfl, rfl, rfl, rfl⟩
set_option maxRecDepth 100000 in
set_option maxHeartbeats 100000 in
theorem eo_spot_r_r1 (xs : Nat → Int32)  (cz kz : Nat) : ∀ G : ez_F, fx_up (4, xs) 2 G 241 365 [ez_scr, .ref 0, .ref 35, .int 0] [] (ev_hp ev_I0 ev_J0 ev_R0 []) cz kz = G 241 367 [ez_scr, .ref 0, .ref 35, .int 0] [ez_scr, .ref 0] (ev_hp ev_I0 ev_J0 ev_R0 []) cz kz := by
  intro G
  rfl
set_option maxRecDepth 100000 in
set_option maxHeartbeats 100000 in
theorem eo_spot_r_r2 (xs : Nat → Int32)  (cz kz : Nat) : ∀ G : ez_F, fx_up (4, xs) 2 G 241 367 [ez_scr, .ref 0, .ref 35, .int 0] [ez_scr, .ref 0] (ev_hp ev_I0 ev_J0 ev_R0 []) cz kz = G 241 369 [ez_scr, .ref 0, .ref 35, .int 0] [.int 1, .int 0, ez_scr, .ref 0] (ev_hp ev_I0 ev_J0 ev_R0 []) cz kz := by
  intro G
  rfl
set_option maxRecDepth 100000 in
set_option maxHeartbeats 100000 in
theorem eo_spot_r_r3 (xs : Nat → Int32)  (cz kz : Nat) : ∀ G : ez_F, fx_up (4, xs) 2 G 241 369 [ez_scr, .ref 0, .ref 35, .int 0] [.int 1, .int 0, ez_scr, .ref 0] (ev_hp ev_I0 ev_J0 ev_R0 []) cz kz = G 241 371 [ez_scr, .ref 0, .ref 35, .int 0] [.int (xs 1), .ref 0] (ev_hp ev_I0 ev_J0 ev_R0 []) cz kz := by
  intro G
  rfl
set_option maxRecDepth 100000 in
set_option maxHeartbeats 100000 in
theorem eo_spot_r_r4 (xs : Nat → Int32)  (cz kz : Nat) : ∀ G : ez_F, fx_up (4, xs) 2 G 241 371 [ez_scr, .ref 0, .ref 35, .int 0] [.int (xs 1), .ref 0] (ev_hp ev_I0 ev_J0 ev_R0 []) cz kz = G 241 373 [ez_scr, .ref 0, .ref 35, .int 0] [.int 0, ez_scr, .int (xs 1), .ref 0] (ev_hp ev_I0 ev_J0 ev_R0 []) cz kz := by
  intro G
  rfl
set_option maxRecDepth 100000 in
set_option maxHeartbeats 100000 in
theorem eo_spot_r_r5 (xs : Nat → Int32)  (cz kz : Nat) : ∀ G : ez_F, fx_up (4, xs) 2 G 241 373 [ez_scr, .ref 0, .ref 35, .int 0] [.int 0, ez_scr, .int (xs 1), .ref 0] (ev_hp ev_I0 ev_J0 ev_R0 []) cz kz = G 241 375 [ez_scr, .ref 0, .ref 35, .int 0] [.int 2, ez_scr, .int (xs 1), .ref 0] (ev_hp ev_I0 ev_J0 ev_R0 []) cz kz := by
  intro G
  rfl
set_option maxRecDepth 100000 in
set_option maxHeartbeats 100000 in
theorem eo_spot_r_r6 (xs : Nat → Int32)  (cz kz : Nat) : ∀ G : ez_F, fx_up (4, xs) 2 G 241 375 [ez_scr, .ref 0, .ref 35, .int 0] [.int 2, ez_scr, .int (xs 1), .ref 0] (ev_hp ev_I0 ev_J0 ev_R0 []) cz kz = ev_C G 44 [.ref 0, .int (xs 1), .int (xs 2)] (ev_hp ev_I0 ev_J0 ev_R0 []) fun r h1 c1 k1 => G 241 379 [ez_scr, .ref 0, .ref 35, .int 0] (r.toList ++ []) h1 (cz + c1) (kz + k1) := by
  intro G
  rfl
set_option maxRecDepth 100000 in
set_option maxHeartbeats 100000 in
theorem eo_spot_r_r7 (xs : Nat → Int32)  (cz kz : Nat) : ∀ G : ez_F, fx_up (4, xs) 2 G 241 379 [ez_scr, .ref 0, .ref 35, .int 0] [.long (-2)] (ev_hp ev_I0 ev_J0 ev_R0 []) cz kz = G 241 381 [ez_scr, .ref 0, .ref 35, .int 0] [ez_scr, .ref 35, .long (-2)] (ev_hp ev_I0 ev_J0 ev_R0 []) cz kz := by
  intro G
  rfl
set_option maxRecDepth 100000 in
set_option maxHeartbeats 100000 in
theorem eo_spot_r_r8 (xs : Nat → Int32)  (cz kz : Nat) : ∀ G : ez_F, fx_up (4, xs) 2 G 241 381 [ez_scr, .ref 0, .ref 35, .int 0] [ez_scr, .ref 35, .long (-2)] (ev_hp ev_I0 ev_J0 ev_R0 []) cz kz = G 241 383 [ez_scr, .ref 0, .ref 35, .int 0] [.int 1, .int 0, ez_scr, .ref 35, .long (-2)] (ev_hp ev_I0 ev_J0 ev_R0 []) cz kz := by
  intro G
  rfl
set_option maxRecDepth 100000 in
set_option maxHeartbeats 100000 in
theorem eo_spot_r_r9 (xs : Nat → Int32)  (cz kz : Nat) : ∀ G : ez_F, fx_up (4, xs) 2 G 241 383 [ez_scr, .ref 0, .ref 35, .int 0] [.int 1, .int 0, ez_scr, .ref 35, .long (-2)] (ev_hp ev_I0 ev_J0 ev_R0 []) cz kz = G 241 385 [ez_scr, .ref 0, .ref 35, .int 0] [.int (xs 1), .ref 35, .long (-2)] (ev_hp ev_I0 ev_J0 ev_R0 []) cz kz := by
  intro G
  rfl
set_option maxRecDepth 100000 in
set_option maxHeartbeats 100000 in
theorem eo_spot_r_r10 (xs : Nat → Int32)  (cz kz : Nat) : ∀ G : ez_F, fx_up (4, xs) 2 G 241 385 [ez_scr, .ref 0, .ref 35, .int 0] [.int (xs 1), .ref 35, .long (-2)] (ev_hp ev_I0 ev_J0 ev_R0 []) cz kz = G 241 387 [ez_scr, .ref 0, .ref 35, .int 0] [.int 0, ez_scr, .int (xs 1), .ref 35, .long (-2)] (ev_hp ev_I0 ev_J0 ev_R0 []) cz kz := by
  intro G
  rfl
set_option maxRecDepth 100000 in
set_option maxHeartbeats 100000 in
theorem eo_spot_r_r11 (xs : Nat → Int32)  (cz kz : Nat) : ∀ G : ez_F, fx_up (4, xs) 2 G 241 387 [ez_scr, .ref 0, .ref 35, .int 0] [.int 0, ez_scr, .int (xs 1), .ref 35, .long (-2)] (ev_hp ev_I0 ev_J0 ev_R0 []) cz kz = G 241 389 [ez_scr, .ref 0, .ref 35, .int 0] [.int 2, ez_scr, .int (xs 1), .ref 35, .long (-2)] (ev_hp ev_I0 ev_J0 ev_R0 []) cz kz := by
  intro G
  rfl
set_option maxRecDepth 100000 in
set_option maxHeartbeats 100000 in
theorem eo_spot_r_r12 (xs : Nat → Int32)  (cz kz : Nat) : ∀ G : ez_F, fx_up (4, xs) 2 G 241 389 [ez_scr, .ref 0, .ref 35, .int 0] [.int 2, ez_scr, .int (xs 1), .ref 35, .long (-2)] (ev_hp ev_I0 ev_J0 ev_R0 []) cz kz = ev_C G 222 [.ref 35, .int (xs 1), .int (xs 2)] (ev_hp ev_I0 ev_J0 ev_R0 []) fun r h1 c1 k1 => G 241 393 [ez_scr, .ref 0, .ref 35, .int 0] (r.toList ++ [.long (-2)]) h1 (cz + c1) (kz + k1) := by
  intro G
  rfl
set_option maxRecDepth 100000 in
set_option maxHeartbeats 100000 in
theorem eo_spot_r_r13 (xs : Nat → Int32)  (cz kz : Nat) : ∀ G : ez_F, fx_up (4, xs) 2 G 241 393 [ez_scr, .ref 0, .ref 35, .int 0] [.long (-2), .long (-2)] (ev_hp ev_I0 ev_J0 ev_R0 []) cz kz = G 241 1075 [ez_scr, .ref 0, .ref 35, .int 0] [] (ev_hp ev_I0 ev_J0 ev_R0 []) cz kz := by
  intro G
  rfl
set_option maxRecDepth 100000 in
set_option maxHeartbeats 100000 in
theorem eo_spot_r_r14 (xs : Nat → Int32)  (cz kz : Nat) : ∀ G : ez_F, fx_up (4, xs) 2 G 241 1075 [ez_scr, .ref 0, .ref 35, .int 0] [] (ev_hp ev_I0 ev_J0 ev_R0 []) cz kz = G 241 18 [ez_scr, .ref 0, .ref 35, .int 4] [] (ev_hp ev_I0 ev_J0 ev_R0 []) cz kz := by
  intro G
  rfl
set_option maxRecDepth 100000 in
set_option maxHeartbeats 100000 in
theorem eo_spot_r_r15 (xs : Nat → Int32)  (cz kz : Nat) : ∀ G : ez_F, fx_up (4, xs) 2 G 241 18 [ez_scr, .ref 0, .ref 35, .int 4] [] (ev_hp ev_I0 ev_J0 ev_R0 []) cz kz = G 241 20 [ez_scr, .ref 0, .ref 35, .int 4] [ez_scr, .int 4] (ev_hp ev_I0 ev_J0 ev_R0 []) cz kz := by
  intro G
  rfl
set_option maxRecDepth 100000 in
set_option maxHeartbeats 100000 in
theorem eo_spot_r_r16 (xs : Nat → Int32)  (cz kz : Nat) : ∀ G : ez_F, fx_up (4, xs) 2 G 241 20 [ez_scr, .ref 0, .ref 35, .int 4] [ez_scr, .int 4] (ev_hp ev_I0 ev_J0 ev_R0 []) cz kz = G 241 22 [ez_scr, .ref 0, .ref 35, .int 4] [.int 4, .int 4, .int 4] (ev_hp ev_I0 ev_J0 ev_R0 []) cz kz := by
  intro G
  rfl
set_option maxRecDepth 100000 in
set_option maxHeartbeats 100000 in
theorem eo_spot_r_r17 (xs : Nat → Int32)  (cz kz : Nat) : ∀ G : ez_F, fx_up (4, xs) 2 G 241 22 [ez_scr, .ref 0, .ref 35, .int 4] [.int 4, .int 4, .int 4] (ev_hp ev_I0 ev_J0 ev_R0 []) cz kz = G 241 1081 [ez_scr, .ref 0, .ref 35, .int 4] [] (ev_hp ev_I0 ev_J0 ev_R0 []) cz kz := by
  intro G
  rfl
set_option maxRecDepth 100000 in
set_option maxHeartbeats 100000 in
theorem eo_spot_r_r18 (xs : Nat → Int32)  (cz kz : Nat) : ∀ G : ez_F, fx_up (4, xs) 2 G 241 1081 [ez_scr, .ref 0, .ref 35, .int 4] [] (ev_hp ev_I0 ev_J0 ev_R0 []) cz kz = some (some (.int 1), (ev_hp ev_I0 ev_J0 ev_R0 []), cz, kz) := by
  intro G
  rfl
theorem eo_spot_r (xs : Nat → Int32)  : ev_P1 (4, xs) 365 := by
  refine ev_seg (eo_spot_r_r1 xs  _ _) ?_
  refine ev_seg (eo_spot_r_r2 xs  _ _) ?_
  refine ev_seg (eo_spot_r_r3 xs  _ _) ?_
  refine ev_seg (eo_spot_r_r4 xs  _ _) ?_
  refine ev_seg (eo_spot_r_r5 xs  _ _) ?_
  refine ev_call (eo_spot_r_r6 xs  _ _) (ef_spot_r (4, xs) ev_I0 ev_J0 ev_R0 [] (xs 1) (xs 2)) ?_
  rintro r0 _ _ _ (⟨d33, rfl, rfl, rfl, rfl⟩)
  refine ev_seg (eo_spot_r_r7 xs  _ _) ?_
  refine ev_seg (eo_spot_r_r8 xs  _ _) ?_
  refine ev_seg (eo_spot_r_r9 xs  _ _) ?_
  refine ev_seg (eo_spot_r_r10 xs  _ _) ?_
  refine ev_seg (eo_spot_r_r11 xs  _ _) ?_
  refine ev_call (eo_spot_r_r12 xs  _ _) (eh_spot_r (4, xs) ev_I0 ev_J0 ev_R0 [] (xs 1) (xs 2)) ?_
  rintro r0 _ _ _ (⟨d34, rfl, rfl, rfl, rfl⟩)
  refine ev_seg (eo_spot_r_r13 xs  _ _) ?_
  refine ev_seg (eo_spot_r_r14 xs  _ _) ?_
  refine ev_seg (eo_spot_r_r15 xs  _ _) ?_
  refine ev_seg (eo_spot_r_r16 xs  _ _) ?_
  refine ev_seg (eo_spot_r_r17 xs  _ _) ?_
  refine ev_ret (eo_spot_r_r18 xs  _ _) ?_
  exact ⟨rfl, by omega, by omega⟩
set_option maxRecDepth 100000 in
set_option maxHeartbeats 100000 in
theorem ef_laid_r_r1 (X : ez_X) (I : Nat → Nat → Int32) (J : Nat → Nat → Int64) (R : Nat → Nat) (T : List ez_C) (a : Int32) (b : Int32) (cz kz : Nat) : ∀ G : ez_F, fx_up X 3 G 26 0 [.ref 0, .int a, .int b] [] (ev_hp ev_I0 ev_J0 ev_R0 []) cz kz = ev_C G 25 [.ref 0, .int b] (ev_hp ev_I0 ev_J0 ev_R0 []) fun r h1 c1 k1 => G 26 5 [.ref 0, .int a, .int b] (r.toList ++ []) h1 (cz + c1) (kz + k1) := by
  intro G
  rfl
set_option maxRecDepth 100000 in
set_option maxHeartbeats 100000 in
theorem ef_laid_r_r2 (X : ez_X) (I : Nat → Nat → Int32) (J : Nat → Nat → Int64) (R : Nat → Nat) (T : List ez_C) (a : Int32) (b : Int32) (q76 : Int32) (cz kz : Nat) : ∀ G : ez_F, fx_up X 1 G 26 5 [.ref 0, .int a, .int b] [.int q76] (ev_hp ev_I0 ev_J0 ev_R0 []) cz kz = bif decide (¬ q76 = 0) then G 26 11 [.ref 0, .int a, .int b] [] (ev_hp ev_I0 ev_J0 ev_R0 []) cz kz else G 26 8 [.ref 0, .int a, .int b] [] (ev_hp ev_I0 ev_J0 ev_R0 []) cz kz := by
  intro G
  rfl
set_option maxRecDepth 100000 in
set_option maxHeartbeats 100000 in
theorem ef_laid_r_r3 (X : ez_X) (I : Nat → Nat → Int32) (J : Nat → Nat → Int64) (R : Nat → Nat) (T : List ez_C) (a : Int32) (b : Int32) (q76 : Int32) (cz kz : Nat) : ∀ G : ez_F, fx_up X 2 G 26 8 [.ref 0, .int a, .int b] [] (ev_hp ev_I0 ev_J0 ev_R0 []) cz kz = some (some (.int (-2)), (ev_hp ev_I0 ev_J0 ev_R0 []), cz, kz) := by
  intro G
  rfl
theorem ef_laid_r (X : ez_X) (I : Nat → Nat → Int32) (J : Nat → Nat → Int64) (R : Nat → Nat) (T : List ez_C) (a : Int32) (b : Int32)  : ev_W X 26 0 (ez_lay [.ref 0, .int a, .int b]) [] (ev_hp ev_I0 ev_J0 ev_R0 []) 0 0 (fun r h1 c1 k1 => ((¬ (¬ (((ev_wi b 0 ((0 : Int32) - (1 : Int32))))) = 0)) ∧ r = some (.int (-2)) ∧ h1 = (ev_hp ev_I0 ev_J0 ev_R0 []) ∧ c1 = 0 ∧ k1 = 0)) := by
  refine ev_call (ef_laid_r_r1 X I J R T a b _ _) (eg_isShip X ev_I0 ev_J0 ev_R0 [] b) ?_
  rintro r0 _ _ _ (⟨hr0, rfl, rfl, rfl⟩)
  obtain ⟨q76, hq76⟩ : ∃ z : Int32, ((ev_wi b 0 ((0 : Int32) - (1 : Int32)))) = z := ⟨_, rfl⟩
  have eq76 : r0 = some (.int q76) := hr0.trans (by subst hq76; rfl)
  subst eq76
  refine ev_if (ef_laid_r_r2 X I J R T a b q76 _ _) (fun b1 => ?_) (fun b1 => ?_)
  · replace b1 := of_decide_eq_true b1
    exact (b1 (by rw [← hq76]; exact (ev_wi_neg b))).elim
  · replace b1 := of_decide_eq_false b1
    refine ev_ret (ef_laid_r_r3 X I J R T a b q76 _ _) ?_
    subst hq76
    exact ⟨b1, rfl, rfl, rfl, rfl⟩
set_option maxRecDepth 100000 in
set_option maxHeartbeats 100000 in
theorem eh_laid_r_r1 (X : ez_X) (I : Nat → Nat → Int32) (J : Nat → Nat → Int64) (R : Nat → Nat) (T : List ez_C) (a : Int32) (b : Int32) (cz kz : Nat) : ∀ G : ez_F, fx_up X 3 G 205 0 [.ref 35, .int a, .int b] [] (ev_hp ev_I0 ev_J0 ev_R0 []) cz kz = ev_C G 204 [.ref 35, .int b] (ev_hp ev_I0 ev_J0 ev_R0 []) fun r h1 c1 k1 => G 205 5 [.ref 35, .int a, .int b] (r.toList ++ []) h1 (cz + c1) (kz + k1) := by
  intro G
  rfl
set_option maxRecDepth 100000 in
set_option maxHeartbeats 100000 in
theorem eh_laid_r_r2 (X : ez_X) (I : Nat → Nat → Int32) (J : Nat → Nat → Int64) (R : Nat → Nat) (T : List ez_C) (a : Int32) (b : Int32) (q77 : Int32) (cz kz : Nat) : ∀ G : ez_F, fx_up X 1 G 205 5 [.ref 35, .int a, .int b] [.int q77] (ev_hp ev_I0 ev_J0 ev_R0 []) cz kz = bif decide (¬ q77 = 0) then G 205 11 [.ref 35, .int a, .int b] [] (ev_hp ev_I0 ev_J0 ev_R0 []) cz kz else G 205 8 [.ref 35, .int a, .int b] [] (ev_hp ev_I0 ev_J0 ev_R0 []) cz kz := by
  intro G
  rfl
set_option maxRecDepth 100000 in
set_option maxHeartbeats 100000 in
theorem eh_laid_r_r3 (X : ez_X) (I : Nat → Nat → Int32) (J : Nat → Nat → Int64) (R : Nat → Nat) (T : List ez_C) (a : Int32) (b : Int32) (q77 : Int32) (cz kz : Nat) : ∀ G : ez_F, fx_up X 2 G 205 8 [.ref 35, .int a, .int b] [] (ev_hp ev_I0 ev_J0 ev_R0 []) cz kz = some (some (.int (-2)), (ev_hp ev_I0 ev_J0 ev_R0 []), cz, kz) := by
  intro G
  rfl
theorem eh_laid_r (X : ez_X) (I : Nat → Nat → Int32) (J : Nat → Nat → Int64) (R : Nat → Nat) (T : List ez_C) (a : Int32) (b : Int32)  : ev_W X 205 0 (ez_lay [.ref 35, .int a, .int b]) [] (ev_hp ev_I0 ev_J0 ev_R0 []) 0 0 (fun r h1 c1 k1 => ((¬ (¬ (((ev_il (b.toInt64) 0 (((0 : Int32) - (1 : Int32)).toInt64)))) = 0)) ∧ r = some (.int (-2)) ∧ h1 = (ev_hp ev_I0 ev_J0 ev_R0 []) ∧ c1 = 0 ∧ k1 = 0)) := by
  refine ev_call (eh_laid_r_r1 X I J R T a b _ _) (em_isShip X ev_I0 ev_J0 ev_R0 [] b) ?_
  rintro r0 _ _ _ (⟨hr0, rfl, rfl, rfl⟩)
  obtain ⟨q77, hq77⟩ : ∃ z : Int32, ((ev_il (b.toInt64) 0 (((0 : Int32) - (1 : Int32)).toInt64))) = z := ⟨_, rfl⟩
  have eq77 : r0 = some (.int q77) := hr0.trans (by subst hq77; rfl)
  subst eq77
  refine ev_if (eh_laid_r_r2 X I J R T a b q77 _ _) (fun b1 => ?_) (fun b1 => ?_)
  · replace b1 := of_decide_eq_true b1
    exact (b1 (by rw [← hq77]; exact ((ev_il_wi b 0 (0 - 1)).trans (ev_wi_neg b)))).elim
  · replace b1 := of_decide_eq_false b1
    refine ev_ret (eh_laid_r_r3 X I J R T a b q77 _ _) ?_
    subst hq77
    exact ⟨b1, rfl, rfl, rfl, rfl⟩
set_option maxRecDepth 100000 in
set_option maxHeartbeats 100000 in
theorem eo_laid_r_r1 (xs : Nat → Int32)  (cz kz : Nat) : ∀ G : ez_F, fx_up (4, xs) 2 G 241 412 [ez_scr, .ref 0, .ref 35, .int 0] [] (ev_hp ev_I0 ev_J0 ev_R0 []) cz kz = G 241 414 [ez_scr, .ref 0, .ref 35, .int 0] [ez_scr, .ref 0] (ev_hp ev_I0 ev_J0 ev_R0 []) cz kz := by
  intro G
  rfl
set_option maxRecDepth 100000 in
set_option maxHeartbeats 100000 in
theorem eo_laid_r_r2 (xs : Nat → Int32)  (cz kz : Nat) : ∀ G : ez_F, fx_up (4, xs) 2 G 241 414 [ez_scr, .ref 0, .ref 35, .int 0] [ez_scr, .ref 0] (ev_hp ev_I0 ev_J0 ev_R0 []) cz kz = G 241 416 [ez_scr, .ref 0, .ref 35, .int 0] [.int 1, .int 0, ez_scr, .ref 0] (ev_hp ev_I0 ev_J0 ev_R0 []) cz kz := by
  intro G
  rfl
set_option maxRecDepth 100000 in
set_option maxHeartbeats 100000 in
theorem eo_laid_r_r3 (xs : Nat → Int32)  (cz kz : Nat) : ∀ G : ez_F, fx_up (4, xs) 2 G 241 416 [ez_scr, .ref 0, .ref 35, .int 0] [.int 1, .int 0, ez_scr, .ref 0] (ev_hp ev_I0 ev_J0 ev_R0 []) cz kz = G 241 418 [ez_scr, .ref 0, .ref 35, .int 0] [.int (xs 1), .ref 0] (ev_hp ev_I0 ev_J0 ev_R0 []) cz kz := by
  intro G
  rfl
set_option maxRecDepth 100000 in
set_option maxHeartbeats 100000 in
theorem eo_laid_r_r4 (xs : Nat → Int32)  (cz kz : Nat) : ∀ G : ez_F, fx_up (4, xs) 2 G 241 418 [ez_scr, .ref 0, .ref 35, .int 0] [.int (xs 1), .ref 0] (ev_hp ev_I0 ev_J0 ev_R0 []) cz kz = G 241 420 [ez_scr, .ref 0, .ref 35, .int 0] [.int 0, ez_scr, .int (xs 1), .ref 0] (ev_hp ev_I0 ev_J0 ev_R0 []) cz kz := by
  intro G
  rfl
set_option maxRecDepth 100000 in
set_option maxHeartbeats 100000 in
theorem eo_laid_r_r5 (xs : Nat → Int32)  (cz kz : Nat) : ∀ G : ez_F, fx_up (4, xs) 2 G 241 420 [ez_scr, .ref 0, .ref 35, .int 0] [.int 0, ez_scr, .int (xs 1), .ref 0] (ev_hp ev_I0 ev_J0 ev_R0 []) cz kz = G 241 422 [ez_scr, .ref 0, .ref 35, .int 0] [.int 2, ez_scr, .int (xs 1), .ref 0] (ev_hp ev_I0 ev_J0 ev_R0 []) cz kz := by
  intro G
  rfl
set_option maxRecDepth 100000 in
set_option maxHeartbeats 100000 in
theorem eo_laid_r_r6 (xs : Nat → Int32)  (cz kz : Nat) : ∀ G : ez_F, fx_up (4, xs) 2 G 241 422 [ez_scr, .ref 0, .ref 35, .int 0] [.int 2, ez_scr, .int (xs 1), .ref 0] (ev_hp ev_I0 ev_J0 ev_R0 []) cz kz = ev_C G 26 [.ref 0, .int (xs 1), .int (xs 2)] (ev_hp ev_I0 ev_J0 ev_R0 []) fun r h1 c1 k1 => G 241 426 [ez_scr, .ref 0, .ref 35, .int 0] (r.toList ++ []) h1 (cz + c1) (kz + k1) := by
  intro G
  rfl
set_option maxRecDepth 100000 in
set_option maxHeartbeats 100000 in
theorem eo_laid_r_r7 (xs : Nat → Int32)  (cz kz : Nat) : ∀ G : ez_F, fx_up (4, xs) 2 G 241 426 [ez_scr, .ref 0, .ref 35, .int 0] [.int (-2)] (ev_hp ev_I0 ev_J0 ev_R0 []) cz kz = G 241 428 [ez_scr, .ref 0, .ref 35, .int 0] [ez_scr, .ref 35, .int (-2)] (ev_hp ev_I0 ev_J0 ev_R0 []) cz kz := by
  intro G
  rfl
set_option maxRecDepth 100000 in
set_option maxHeartbeats 100000 in
theorem eo_laid_r_r8 (xs : Nat → Int32)  (cz kz : Nat) : ∀ G : ez_F, fx_up (4, xs) 2 G 241 428 [ez_scr, .ref 0, .ref 35, .int 0] [ez_scr, .ref 35, .int (-2)] (ev_hp ev_I0 ev_J0 ev_R0 []) cz kz = G 241 430 [ez_scr, .ref 0, .ref 35, .int 0] [.int 1, .int 0, ez_scr, .ref 35, .int (-2)] (ev_hp ev_I0 ev_J0 ev_R0 []) cz kz := by
  intro G
  rfl
set_option maxRecDepth 100000 in
set_option maxHeartbeats 100000 in
theorem eo_laid_r_r9 (xs : Nat → Int32)  (cz kz : Nat) : ∀ G : ez_F, fx_up (4, xs) 2 G 241 430 [ez_scr, .ref 0, .ref 35, .int 0] [.int 1, .int 0, ez_scr, .ref 35, .int (-2)] (ev_hp ev_I0 ev_J0 ev_R0 []) cz kz = G 241 432 [ez_scr, .ref 0, .ref 35, .int 0] [.int (xs 1), .ref 35, .int (-2)] (ev_hp ev_I0 ev_J0 ev_R0 []) cz kz := by
  intro G
  rfl
set_option maxRecDepth 100000 in
set_option maxHeartbeats 100000 in
theorem eo_laid_r_r10 (xs : Nat → Int32)  (cz kz : Nat) : ∀ G : ez_F, fx_up (4, xs) 2 G 241 432 [ez_scr, .ref 0, .ref 35, .int 0] [.int (xs 1), .ref 35, .int (-2)] (ev_hp ev_I0 ev_J0 ev_R0 []) cz kz = G 241 434 [ez_scr, .ref 0, .ref 35, .int 0] [.int 0, ez_scr, .int (xs 1), .ref 35, .int (-2)] (ev_hp ev_I0 ev_J0 ev_R0 []) cz kz := by
  intro G
  rfl
set_option maxRecDepth 100000 in
set_option maxHeartbeats 100000 in
theorem eo_laid_r_r11 (xs : Nat → Int32)  (cz kz : Nat) : ∀ G : ez_F, fx_up (4, xs) 2 G 241 434 [ez_scr, .ref 0, .ref 35, .int 0] [.int 0, ez_scr, .int (xs 1), .ref 35, .int (-2)] (ev_hp ev_I0 ev_J0 ev_R0 []) cz kz = G 241 436 [ez_scr, .ref 0, .ref 35, .int 0] [.int 2, ez_scr, .int (xs 1), .ref 35, .int (-2)] (ev_hp ev_I0 ev_J0 ev_R0 []) cz kz := by
  intro G
  rfl
set_option maxRecDepth 100000 in
set_option maxHeartbeats 100000 in
theorem eo_laid_r_r12 (xs : Nat → Int32)  (cz kz : Nat) : ∀ G : ez_F, fx_up (4, xs) 2 G 241 436 [ez_scr, .ref 0, .ref 35, .int 0] [.int 2, ez_scr, .int (xs 1), .ref 35, .int (-2)] (ev_hp ev_I0 ev_J0 ev_R0 []) cz kz = ev_C G 205 [.ref 35, .int (xs 1), .int (xs 2)] (ev_hp ev_I0 ev_J0 ev_R0 []) fun r h1 c1 k1 => G 241 440 [ez_scr, .ref 0, .ref 35, .int 0] (r.toList ++ [.int (-2)]) h1 (cz + c1) (kz + k1) := by
  intro G
  rfl
set_option maxRecDepth 100000 in
set_option maxHeartbeats 100000 in
theorem eo_laid_r_r13 (xs : Nat → Int32)  (cz kz : Nat) : ∀ G : ez_F, fx_up (4, xs) 2 G 241 440 [ez_scr, .ref 0, .ref 35, .int 0] [.int (-2), .int (-2)] (ev_hp ev_I0 ev_J0 ev_R0 []) cz kz = G 241 1078 [ez_scr, .ref 0, .ref 35, .int 4] [] (ev_hp ev_I0 ev_J0 ev_R0 []) cz kz := by
  intro G
  rfl
set_option maxRecDepth 100000 in
set_option maxHeartbeats 100000 in
theorem eo_laid_r_r14 (xs : Nat → Int32)  (cz kz : Nat) : ∀ G : ez_F, fx_up (4, xs) 2 G 241 1078 [ez_scr, .ref 0, .ref 35, .int 4] [] (ev_hp ev_I0 ev_J0 ev_R0 []) cz kz = G 241 19 [ez_scr, .ref 0, .ref 35, .int 4] [.int 4] (ev_hp ev_I0 ev_J0 ev_R0 []) cz kz := by
  intro G
  rfl
set_option maxRecDepth 100000 in
set_option maxHeartbeats 100000 in
theorem eo_laid_r_r15 (xs : Nat → Int32)  (cz kz : Nat) : ∀ G : ez_F, fx_up (4, xs) 2 G 241 19 [ez_scr, .ref 0, .ref 35, .int 4] [.int 4] (ev_hp ev_I0 ev_J0 ev_R0 []) cz kz = G 241 21 [ez_scr, .ref 0, .ref 35, .int 4] [.int 4, .int 4] (ev_hp ev_I0 ev_J0 ev_R0 []) cz kz := by
  intro G
  rfl
set_option maxRecDepth 100000 in
set_option maxHeartbeats 100000 in
theorem eo_laid_r_r16 (xs : Nat → Int32)  (cz kz : Nat) : ∀ G : ez_F, fx_up (4, xs) 2 G 241 21 [ez_scr, .ref 0, .ref 35, .int 4] [.int 4, .int 4] (ev_hp ev_I0 ev_J0 ev_R0 []) cz kz = G 241 23 [ez_scr, .ref 0, .ref 35, .int 4] [.int 0, .int 4] (ev_hp ev_I0 ev_J0 ev_R0 []) cz kz := by
  intro G
  rfl
set_option maxRecDepth 100000 in
set_option maxHeartbeats 100000 in
theorem eo_laid_r_r17 (xs : Nat → Int32)  (cz kz : Nat) : ∀ G : ez_F, fx_up (4, xs) 2 G 241 23 [ez_scr, .ref 0, .ref 35, .int 4] [.int 0, .int 4] (ev_hp ev_I0 ev_J0 ev_R0 []) cz kz = G 241 1082 [ez_scr, .ref 0, .ref 35, .int 4] [.int 1] (ev_hp ev_I0 ev_J0 ev_R0 []) cz kz := by
  intro G
  rfl
set_option maxRecDepth 100000 in
set_option maxHeartbeats 100000 in
theorem eo_laid_r_r18 (xs : Nat → Int32)  (cz kz : Nat) : ∀ G : ez_F, fx_up (4, xs) 1 G 241 1082 [ez_scr, .ref 0, .ref 35, .int 4] [.int 1] (ev_hp ev_I0 ev_J0 ev_R0 []) cz kz = some (some (.int 1), (ev_hp ev_I0 ev_J0 ev_R0 []), cz, kz) := by
  intro G
  rfl
theorem eo_laid_r (xs : Nat → Int32)  : ev_P1 (4, xs) 412 := by
  refine ev_seg (eo_laid_r_r1 xs  _ _) ?_
  refine ev_seg (eo_laid_r_r2 xs  _ _) ?_
  refine ev_seg (eo_laid_r_r3 xs  _ _) ?_
  refine ev_seg (eo_laid_r_r4 xs  _ _) ?_
  refine ev_seg (eo_laid_r_r5 xs  _ _) ?_
  refine ev_call (eo_laid_r_r6 xs  _ _) (ef_laid_r (4, xs) ev_I0 ev_J0 ev_R0 [] (xs 1) (xs 2)) ?_
  rintro r0 _ _ _ (⟨d35, rfl, rfl, rfl, rfl⟩)
  refine ev_seg (eo_laid_r_r7 xs  _ _) ?_
  refine ev_seg (eo_laid_r_r8 xs  _ _) ?_
  refine ev_seg (eo_laid_r_r9 xs  _ _) ?_
  refine ev_seg (eo_laid_r_r10 xs  _ _) ?_
  refine ev_seg (eo_laid_r_r11 xs  _ _) ?_
  refine ev_call (eo_laid_r_r12 xs  _ _) (eh_laid_r (4, xs) ev_I0 ev_J0 ev_R0 [] (xs 1) (xs 2)) ?_
  rintro r0 _ _ _ (⟨d36, rfl, rfl, rfl, rfl⟩)
  refine ev_seg (eo_laid_r_r13 xs  _ _) ?_
  refine ev_seg (eo_laid_r_r14 xs  _ _) ?_
  refine ev_seg (eo_laid_r_r15 xs  _ _) ?_
  refine ev_seg (eo_laid_r_r16 xs  _ _) ?_
  refine ev_seg (eo_laid_r_r17 xs  _ _) ?_
  refine ev_ret (eo_laid_r_r18 xs  _ _) ?_
  exact ⟨rfl, by omega, by omega⟩
set_option maxRecDepth 100000 in
set_option maxHeartbeats 100000 in
theorem ef_answer_r_r1 (X : ez_X) (I : Nat → Nat → Int32) (J : Nat → Nat → Int64) (R : Nat → Nat) (T : List ez_C) (a : Int32) (b : Int32) (cz kz : Nat) : ∀ G : ez_F, fx_up X 3 G 1 0 [.ref 0, .int a, .int b] [] (ev_hp ev_I0 ev_J0 ev_R0 []) cz kz = ev_C G 21 [.ref 0, .int a] (ev_hp ev_I0 ev_J0 ev_R0 []) fun r h1 c1 k1 => G 1 5 [.ref 0, .int a, .int b] (r.toList ++ []) h1 (cz + c1) (kz + k1) := by
  intro G
  rfl
set_option maxRecDepth 100000 in
set_option maxHeartbeats 100000 in
theorem ef_answer_r_r2 (X : ez_X) (I : Nat → Nat → Int32) (J : Nat → Nat → Int64) (R : Nat → Nat) (T : List ez_C) (a : Int32) (b : Int32) (q78 : Int32) (cz kz : Nat) : ∀ G : ez_F, fx_up X 1 G 1 5 [.ref 0, .int a, .int b] [.int q78] (ev_hp ev_I0 ev_J0 ev_R0 []) cz kz = bif decide (¬ q78 = 0) then G 1 11 [.ref 0, .int a, .int b] [] (ev_hp ev_I0 ev_J0 ev_R0 []) cz kz else G 1 8 [.ref 0, .int a, .int b] [] (ev_hp ev_I0 ev_J0 ev_R0 []) cz kz := by
  intro G
  rfl
set_option maxRecDepth 100000 in
set_option maxHeartbeats 100000 in
theorem ef_answer_r_r3 (X : ez_X) (I : Nat → Nat → Int32) (J : Nat → Nat → Int64) (R : Nat → Nat) (T : List ez_C) (a : Int32) (b : Int32) (q78 : Int32) (cz kz : Nat) : ∀ G : ez_F, fx_up X 2 G 1 8 [.ref 0, .int a, .int b] [] (ev_hp ev_I0 ev_J0 ev_R0 []) cz kz = some (some (.int (-2)), (ev_hp ev_I0 ev_J0 ev_R0 []), cz, kz) := by
  intro G
  rfl
theorem ef_answer_r (X : ez_X) (I : Nat → Nat → Int32) (J : Nat → Nat → Int64) (R : Nat → Nat) (T : List ez_C) (a : Int32) (b : Int32)  : ev_W X 1 0 (ez_lay [.ref 0, .int a, .int b]) [] (ev_hp ev_I0 ev_J0 ev_R0 []) 0 0 (fun r h1 c1 k1 => ((¬ (¬ (((ev_wi a 0 ((0 : Int32) - (1 : Int32))))) = 0)) ∧ r = some (.int (-2)) ∧ h1 = (ev_hp ev_I0 ev_J0 ev_R0 []) ∧ c1 = 0 ∧ k1 = 0)) := by
  refine ev_call (ef_answer_r_r1 X I J R T a b _ _) (eg_isCall X ev_I0 ev_J0 ev_R0 [] a) ?_
  rintro r0 _ _ _ (⟨hr0, rfl, rfl, rfl⟩)
  obtain ⟨q78, hq78⟩ : ∃ z : Int32, ((ev_wi a 0 ((0 : Int32) - (1 : Int32)))) = z := ⟨_, rfl⟩
  have eq78 : r0 = some (.int q78) := hr0.trans (by subst hq78; rfl)
  subst eq78
  refine ev_if (ef_answer_r_r2 X I J R T a b q78 _ _) (fun b1 => ?_) (fun b1 => ?_)
  · replace b1 := of_decide_eq_true b1
    exact (b1 (by rw [← hq78]; exact (ev_wi_neg a))).elim
  · replace b1 := of_decide_eq_false b1
    refine ev_ret (ef_answer_r_r3 X I J R T a b q78 _ _) ?_
    subst hq78
    exact ⟨b1, rfl, rfl, rfl, rfl⟩
set_option maxRecDepth 100000 in
set_option maxHeartbeats 100000 in
theorem eh_answer_r_r1 (X : ez_X) (I : Nat → Nat → Int32) (J : Nat → Nat → Int64) (R : Nat → Nat) (T : List ez_C) (a : Int32) (b : Int32) (cz kz : Nat) : ∀ G : ez_F, fx_up X 3 G 166 0 [.ref 35, .int a, .int b] [] (ev_hp ev_I0 ev_J0 ev_R0 []) cz kz = ev_C G 199 [.ref 35, .int a] (ev_hp ev_I0 ev_J0 ev_R0 []) fun r h1 c1 k1 => G 166 5 [.ref 35, .int a, .int b] (r.toList ++ []) h1 (cz + c1) (kz + k1) := by
  intro G
  rfl
set_option maxRecDepth 100000 in
set_option maxHeartbeats 100000 in
theorem eh_answer_r_r2 (X : ez_X) (I : Nat → Nat → Int32) (J : Nat → Nat → Int64) (R : Nat → Nat) (T : List ez_C) (a : Int32) (b : Int32) (q79 : Int32) (cz kz : Nat) : ∀ G : ez_F, fx_up X 1 G 166 5 [.ref 35, .int a, .int b] [.int q79] (ev_hp ev_I0 ev_J0 ev_R0 []) cz kz = bif decide (¬ q79 = 0) then G 166 11 [.ref 35, .int a, .int b] [] (ev_hp ev_I0 ev_J0 ev_R0 []) cz kz else G 166 8 [.ref 35, .int a, .int b] [] (ev_hp ev_I0 ev_J0 ev_R0 []) cz kz := by
  intro G
  rfl
set_option maxRecDepth 100000 in
set_option maxHeartbeats 100000 in
theorem eh_answer_r_r3 (X : ez_X) (I : Nat → Nat → Int32) (J : Nat → Nat → Int64) (R : Nat → Nat) (T : List ez_C) (a : Int32) (b : Int32) (q79 : Int32) (cz kz : Nat) : ∀ G : ez_F, fx_up X 2 G 166 8 [.ref 35, .int a, .int b] [] (ev_hp ev_I0 ev_J0 ev_R0 []) cz kz = some (some (.int (-2)), (ev_hp ev_I0 ev_J0 ev_R0 []), cz, kz) := by
  intro G
  rfl
theorem eh_answer_r (X : ez_X) (I : Nat → Nat → Int32) (J : Nat → Nat → Int64) (R : Nat → Nat) (T : List ez_C) (a : Int32) (b : Int32)  : ev_W X 166 0 (ez_lay [.ref 35, .int a, .int b]) [] (ev_hp ev_I0 ev_J0 ev_R0 []) 0 0 (fun r h1 c1 k1 => ((¬ (¬ (((ev_il (a.toInt64) 0 (((0 : Int32) - (1 : Int32)).toInt64)))) = 0)) ∧ r = some (.int (-2)) ∧ h1 = (ev_hp ev_I0 ev_J0 ev_R0 []) ∧ c1 = 0 ∧ k1 = 0)) := by
  refine ev_call (eh_answer_r_r1 X I J R T a b _ _) (em_isCall X ev_I0 ev_J0 ev_R0 [] a) ?_
  rintro r0 _ _ _ (⟨hr0, rfl, rfl, rfl⟩)
  obtain ⟨q79, hq79⟩ : ∃ z : Int32, ((ev_il (a.toInt64) 0 (((0 : Int32) - (1 : Int32)).toInt64))) = z := ⟨_, rfl⟩
  have eq79 : r0 = some (.int q79) := hr0.trans (by subst hq79; rfl)
  subst eq79
  refine ev_if (eh_answer_r_r2 X I J R T a b q79 _ _) (fun b1 => ?_) (fun b1 => ?_)
  · replace b1 := of_decide_eq_true b1
    exact (b1 (by rw [← hq79]; exact ((ev_il_wi a 0 (0 - 1)).trans (ev_wi_neg a)))).elim
  · replace b1 := of_decide_eq_false b1
    refine ev_ret (eh_answer_r_r3 X I J R T a b q79 _ _) ?_
    subst hq79
    exact ⟨b1, rfl, rfl, rfl, rfl⟩
set_option maxRecDepth 100000 in
set_option maxHeartbeats 100000 in
theorem eo_answer_r_r1 (xs : Nat → Int32)  (cz kz : Nat) : ∀ G : ez_F, fx_up (4, xs) 2 G 241 501 [ez_scr, .ref 0, .ref 35, .int 0] [] (ev_hp ev_I0 ev_J0 ev_R0 []) cz kz = G 241 503 [ez_scr, .ref 0, .ref 35, .int 0] [ez_scr, .ref 0] (ev_hp ev_I0 ev_J0 ev_R0 []) cz kz := by
  intro G
  rfl
set_option maxRecDepth 100000 in
set_option maxHeartbeats 100000 in
theorem eo_answer_r_r2 (xs : Nat → Int32)  (cz kz : Nat) : ∀ G : ez_F, fx_up (4, xs) 2 G 241 503 [ez_scr, .ref 0, .ref 35, .int 0] [ez_scr, .ref 0] (ev_hp ev_I0 ev_J0 ev_R0 []) cz kz = G 241 505 [ez_scr, .ref 0, .ref 35, .int 0] [.int 1, .int 0, ez_scr, .ref 0] (ev_hp ev_I0 ev_J0 ev_R0 []) cz kz := by
  intro G
  rfl
set_option maxRecDepth 100000 in
set_option maxHeartbeats 100000 in
theorem eo_answer_r_r3 (xs : Nat → Int32)  (cz kz : Nat) : ∀ G : ez_F, fx_up (4, xs) 2 G 241 505 [ez_scr, .ref 0, .ref 35, .int 0] [.int 1, .int 0, ez_scr, .ref 0] (ev_hp ev_I0 ev_J0 ev_R0 []) cz kz = G 241 507 [ez_scr, .ref 0, .ref 35, .int 0] [.int (xs 1), .ref 0] (ev_hp ev_I0 ev_J0 ev_R0 []) cz kz := by
  intro G
  rfl
set_option maxRecDepth 100000 in
set_option maxHeartbeats 100000 in
theorem eo_answer_r_r4 (xs : Nat → Int32)  (cz kz : Nat) : ∀ G : ez_F, fx_up (4, xs) 2 G 241 507 [ez_scr, .ref 0, .ref 35, .int 0] [.int (xs 1), .ref 0] (ev_hp ev_I0 ev_J0 ev_R0 []) cz kz = G 241 509 [ez_scr, .ref 0, .ref 35, .int 0] [.int 0, ez_scr, .int (xs 1), .ref 0] (ev_hp ev_I0 ev_J0 ev_R0 []) cz kz := by
  intro G
  rfl
set_option maxRecDepth 100000 in
set_option maxHeartbeats 100000 in
theorem eo_answer_r_r5 (xs : Nat → Int32)  (cz kz : Nat) : ∀ G : ez_F, fx_up (4, xs) 2 G 241 509 [ez_scr, .ref 0, .ref 35, .int 0] [.int 0, ez_scr, .int (xs 1), .ref 0] (ev_hp ev_I0 ev_J0 ev_R0 []) cz kz = G 241 511 [ez_scr, .ref 0, .ref 35, .int 0] [.int 2, ez_scr, .int (xs 1), .ref 0] (ev_hp ev_I0 ev_J0 ev_R0 []) cz kz := by
  intro G
  rfl
set_option maxRecDepth 100000 in
set_option maxHeartbeats 100000 in
theorem eo_answer_r_r6 (xs : Nat → Int32)  (cz kz : Nat) : ∀ G : ez_F, fx_up (4, xs) 2 G 241 511 [ez_scr, .ref 0, .ref 35, .int 0] [.int 2, ez_scr, .int (xs 1), .ref 0] (ev_hp ev_I0 ev_J0 ev_R0 []) cz kz = ev_C G 1 [.ref 0, .int (xs 1), .int (xs 2)] (ev_hp ev_I0 ev_J0 ev_R0 []) fun r h1 c1 k1 => G 241 515 [ez_scr, .ref 0, .ref 35, .int 0] (r.toList ++ []) h1 (cz + c1) (kz + k1) := by
  intro G
  rfl
set_option maxRecDepth 100000 in
set_option maxHeartbeats 100000 in
theorem eo_answer_r_r7 (xs : Nat → Int32)  (cz kz : Nat) : ∀ G : ez_F, fx_up (4, xs) 2 G 241 515 [ez_scr, .ref 0, .ref 35, .int 0] [.int (-2)] (ev_hp ev_I0 ev_J0 ev_R0 []) cz kz = G 241 517 [ez_scr, .ref 0, .ref 35, .int 0] [ez_scr, .ref 35, .int (-2)] (ev_hp ev_I0 ev_J0 ev_R0 []) cz kz := by
  intro G
  rfl
set_option maxRecDepth 100000 in
set_option maxHeartbeats 100000 in
theorem eo_answer_r_r8 (xs : Nat → Int32)  (cz kz : Nat) : ∀ G : ez_F, fx_up (4, xs) 2 G 241 517 [ez_scr, .ref 0, .ref 35, .int 0] [ez_scr, .ref 35, .int (-2)] (ev_hp ev_I0 ev_J0 ev_R0 []) cz kz = G 241 519 [ez_scr, .ref 0, .ref 35, .int 0] [.int 1, .int 0, ez_scr, .ref 35, .int (-2)] (ev_hp ev_I0 ev_J0 ev_R0 []) cz kz := by
  intro G
  rfl
set_option maxRecDepth 100000 in
set_option maxHeartbeats 100000 in
theorem eo_answer_r_r9 (xs : Nat → Int32)  (cz kz : Nat) : ∀ G : ez_F, fx_up (4, xs) 2 G 241 519 [ez_scr, .ref 0, .ref 35, .int 0] [.int 1, .int 0, ez_scr, .ref 35, .int (-2)] (ev_hp ev_I0 ev_J0 ev_R0 []) cz kz = G 241 521 [ez_scr, .ref 0, .ref 35, .int 0] [.int (xs 1), .ref 35, .int (-2)] (ev_hp ev_I0 ev_J0 ev_R0 []) cz kz := by
  intro G
  rfl
set_option maxRecDepth 100000 in
set_option maxHeartbeats 100000 in
theorem eo_answer_r_r10 (xs : Nat → Int32)  (cz kz : Nat) : ∀ G : ez_F, fx_up (4, xs) 2 G 241 521 [ez_scr, .ref 0, .ref 35, .int 0] [.int (xs 1), .ref 35, .int (-2)] (ev_hp ev_I0 ev_J0 ev_R0 []) cz kz = G 241 523 [ez_scr, .ref 0, .ref 35, .int 0] [.int 0, ez_scr, .int (xs 1), .ref 35, .int (-2)] (ev_hp ev_I0 ev_J0 ev_R0 []) cz kz := by
  intro G
  rfl
set_option maxRecDepth 100000 in
set_option maxHeartbeats 100000 in
theorem eo_answer_r_r11 (xs : Nat → Int32)  (cz kz : Nat) : ∀ G : ez_F, fx_up (4, xs) 2 G 241 523 [ez_scr, .ref 0, .ref 35, .int 0] [.int 0, ez_scr, .int (xs 1), .ref 35, .int (-2)] (ev_hp ev_I0 ev_J0 ev_R0 []) cz kz = G 241 525 [ez_scr, .ref 0, .ref 35, .int 0] [.int 2, ez_scr, .int (xs 1), .ref 35, .int (-2)] (ev_hp ev_I0 ev_J0 ev_R0 []) cz kz := by
  intro G
  rfl
set_option maxRecDepth 100000 in
set_option maxHeartbeats 100000 in
theorem eo_answer_r_r12 (xs : Nat → Int32)  (cz kz : Nat) : ∀ G : ez_F, fx_up (4, xs) 2 G 241 525 [ez_scr, .ref 0, .ref 35, .int 0] [.int 2, ez_scr, .int (xs 1), .ref 35, .int (-2)] (ev_hp ev_I0 ev_J0 ev_R0 []) cz kz = ev_C G 166 [.ref 35, .int (xs 1), .int (xs 2)] (ev_hp ev_I0 ev_J0 ev_R0 []) fun r h1 c1 k1 => G 241 529 [ez_scr, .ref 0, .ref 35, .int 0] (r.toList ++ [.int (-2)]) h1 (cz + c1) (kz + k1) := by
  intro G
  rfl
set_option maxRecDepth 100000 in
set_option maxHeartbeats 100000 in
theorem eo_answer_r_r13 (xs : Nat → Int32)  (cz kz : Nat) : ∀ G : ez_F, fx_up (4, xs) 2 G 241 529 [ez_scr, .ref 0, .ref 35, .int 0] [.int (-2), .int (-2)] (ev_hp ev_I0 ev_J0 ev_R0 []) cz kz = G 241 1078 [ez_scr, .ref 0, .ref 35, .int 4] [] (ev_hp ev_I0 ev_J0 ev_R0 []) cz kz := by
  intro G
  rfl
set_option maxRecDepth 100000 in
set_option maxHeartbeats 100000 in
theorem eo_answer_r_r14 (xs : Nat → Int32)  (cz kz : Nat) : ∀ G : ez_F, fx_up (4, xs) 2 G 241 1078 [ez_scr, .ref 0, .ref 35, .int 4] [] (ev_hp ev_I0 ev_J0 ev_R0 []) cz kz = G 241 19 [ez_scr, .ref 0, .ref 35, .int 4] [.int 4] (ev_hp ev_I0 ev_J0 ev_R0 []) cz kz := by
  intro G
  rfl
set_option maxRecDepth 100000 in
set_option maxHeartbeats 100000 in
theorem eo_answer_r_r15 (xs : Nat → Int32)  (cz kz : Nat) : ∀ G : ez_F, fx_up (4, xs) 2 G 241 19 [ez_scr, .ref 0, .ref 35, .int 4] [.int 4] (ev_hp ev_I0 ev_J0 ev_R0 []) cz kz = G 241 21 [ez_scr, .ref 0, .ref 35, .int 4] [.int 4, .int 4] (ev_hp ev_I0 ev_J0 ev_R0 []) cz kz := by
  intro G
  rfl
set_option maxRecDepth 100000 in
set_option maxHeartbeats 100000 in
theorem eo_answer_r_r16 (xs : Nat → Int32)  (cz kz : Nat) : ∀ G : ez_F, fx_up (4, xs) 2 G 241 21 [ez_scr, .ref 0, .ref 35, .int 4] [.int 4, .int 4] (ev_hp ev_I0 ev_J0 ev_R0 []) cz kz = G 241 23 [ez_scr, .ref 0, .ref 35, .int 4] [.int 0, .int 4] (ev_hp ev_I0 ev_J0 ev_R0 []) cz kz := by
  intro G
  rfl
set_option maxRecDepth 100000 in
set_option maxHeartbeats 100000 in
theorem eo_answer_r_r17 (xs : Nat → Int32)  (cz kz : Nat) : ∀ G : ez_F, fx_up (4, xs) 2 G 241 23 [ez_scr, .ref 0, .ref 35, .int 4] [.int 0, .int 4] (ev_hp ev_I0 ev_J0 ev_R0 []) cz kz = G 241 1082 [ez_scr, .ref 0, .ref 35, .int 4] [.int 1] (ev_hp ev_I0 ev_J0 ev_R0 []) cz kz := by
  intro G
  rfl
set_option maxRecDepth 100000 in
set_option maxHeartbeats 100000 in
theorem eo_answer_r_r18 (xs : Nat → Int32)  (cz kz : Nat) : ∀ G : ez_F, fx_up (4, xs) 1 G 241 1082 [ez_scr, .ref 0, .ref 35, .int 4] [.int 1] (ev_hp ev_I0 ev_J0 ev_R0 []) cz kz = some (some (.int 1), (ev_hp ev_I0 ev_J0 ev_R0 []), cz, kz) := by
  intro G
  rfl
theorem eo_answer_r (xs : Nat → Int32)  : ev_P1 (4, xs) 501 := by
  refine ev_seg (eo_answer_r_r1 xs  _ _) ?_
  refine ev_seg (eo_answer_r_r2 xs  _ _) ?_
  refine ev_seg (eo_answer_r_r3 xs  _ _) ?_
  refine ev_seg (eo_answer_r_r4 xs  _ _) ?_
  refine ev_seg (eo_answer_r_r5 xs  _ _) ?_
  refine ev_call (eo_answer_r_r6 xs  _ _) (ef_answer_r (4, xs) ev_I0 ev_J0 ev_R0 [] (xs 1) (xs 2)) ?_
  rintro r0 _ _ _ (⟨d37, rfl, rfl, rfl, rfl⟩)
  refine ev_seg (eo_answer_r_r7 xs  _ _) ?_
  refine ev_seg (eo_answer_r_r8 xs  _ _) ?_
  refine ev_seg (eo_answer_r_r9 xs  _ _) ?_
  refine ev_seg (eo_answer_r_r10 xs  _ _) ?_
  refine ev_seg (eo_answer_r_r11 xs  _ _) ?_
  refine ev_call (eo_answer_r_r12 xs  _ _) (eh_answer_r (4, xs) ev_I0 ev_J0 ev_R0 [] (xs 1) (xs 2)) ?_
  rintro r0 _ _ _ (⟨d38, rfl, rfl, rfl, rfl⟩)
  refine ev_seg (eo_answer_r_r13 xs  _ _) ?_
  refine ev_seg (eo_answer_r_r14 xs  _ _) ?_
  refine ev_seg (eo_answer_r_r15 xs  _ _) ?_
  refine ev_seg (eo_answer_r_r16 xs  _ _) ?_
  refine ev_seg (eo_answer_r_r17 xs  _ _) ?_
  refine ev_ret (eo_answer_r_r18 xs  _ _) ?_
  exact ⟨rfl, by omega, by omega⟩
set_option maxRecDepth 100000 in
set_option maxHeartbeats 100000 in
theorem ef_lose_r_r1 (X : ez_X) (I : Nat → Nat → Int32) (J : Nat → Nat → Int64) (R : Nat → Nat) (T : List ez_C) (a : Int32) (cz kz : Nat) : ∀ G : ez_F, fx_up X 3 G 32 0 [.ref 0, .int a] [] (ev_hp ev_I0 ev_J0 ev_R0 []) cz kz = ev_C G 21 [.ref 0, .int a] (ev_hp ev_I0 ev_J0 ev_R0 []) fun r h1 c1 k1 => G 32 5 [.ref 0, .int a] (r.toList ++ []) h1 (cz + c1) (kz + k1) := by
  intro G
  rfl
set_option maxRecDepth 100000 in
set_option maxHeartbeats 100000 in
theorem ef_lose_r_r2 (X : ez_X) (I : Nat → Nat → Int32) (J : Nat → Nat → Int64) (R : Nat → Nat) (T : List ez_C) (a : Int32) (q80 : Int32) (cz kz : Nat) : ∀ G : ez_F, fx_up X 1 G 32 5 [.ref 0, .int a] [.int q80] (ev_hp ev_I0 ev_J0 ev_R0 []) cz kz = bif decide (¬ q80 = 0) then G 32 11 [.ref 0, .int a] [] (ev_hp ev_I0 ev_J0 ev_R0 []) cz kz else G 32 8 [.ref 0, .int a] [] (ev_hp ev_I0 ev_J0 ev_R0 []) cz kz := by
  intro G
  rfl
set_option maxRecDepth 100000 in
set_option maxHeartbeats 100000 in
theorem ef_lose_r_r3 (X : ez_X) (I : Nat → Nat → Int32) (J : Nat → Nat → Int64) (R : Nat → Nat) (T : List ez_C) (a : Int32) (q80 : Int32) (cz kz : Nat) : ∀ G : ez_F, fx_up X 2 G 32 8 [.ref 0, .int a] [] (ev_hp ev_I0 ev_J0 ev_R0 []) cz kz = some (some (.int (-2)), (ev_hp ev_I0 ev_J0 ev_R0 []), cz, kz) := by
  intro G
  rfl
theorem ef_lose_r (X : ez_X) (I : Nat → Nat → Int32) (J : Nat → Nat → Int64) (R : Nat → Nat) (T : List ez_C) (a : Int32)  : ev_W X 32 0 (ez_lay [.ref 0, .int a]) [] (ev_hp ev_I0 ev_J0 ev_R0 []) 0 0 (fun r h1 c1 k1 => ((¬ (¬ (((ev_wi a 0 ((0 : Int32) - (1 : Int32))))) = 0)) ∧ r = some (.int (-2)) ∧ h1 = (ev_hp ev_I0 ev_J0 ev_R0 []) ∧ c1 = 0 ∧ k1 = 0)) := by
  refine ev_call (ef_lose_r_r1 X I J R T a _ _) (eg_isCall X ev_I0 ev_J0 ev_R0 [] a) ?_
  rintro r0 _ _ _ (⟨hr0, rfl, rfl, rfl⟩)
  obtain ⟨q80, hq80⟩ : ∃ z : Int32, ((ev_wi a 0 ((0 : Int32) - (1 : Int32)))) = z := ⟨_, rfl⟩
  have eq80 : r0 = some (.int q80) := hr0.trans (by subst hq80; rfl)
  subst eq80
  refine ev_if (ef_lose_r_r2 X I J R T a q80 _ _) (fun b1 => ?_) (fun b1 => ?_)
  · replace b1 := of_decide_eq_true b1
    exact (b1 (by rw [← hq80]; exact (ev_wi_neg a))).elim
  · replace b1 := of_decide_eq_false b1
    refine ev_ret (ef_lose_r_r3 X I J R T a q80 _ _) ?_
    subst hq80
    exact ⟨b1, rfl, rfl, rfl, rfl⟩
set_option maxRecDepth 100000 in
set_option maxHeartbeats 100000 in
theorem eh_lose_r_r1 (X : ez_X) (I : Nat → Nat → Int32) (J : Nat → Nat → Int64) (R : Nat → Nat) (T : List ez_C) (a : Int32) (cz kz : Nat) : ∀ G : ez_F, fx_up X 3 G 209 0 [.ref 35, .int a] [] (ev_hp ev_I0 ev_J0 ev_R0 []) cz kz = ev_C G 199 [.ref 35, .int a] (ev_hp ev_I0 ev_J0 ev_R0 []) fun r h1 c1 k1 => G 209 5 [.ref 35, .int a] (r.toList ++ []) h1 (cz + c1) (kz + k1) := by
  intro G
  rfl
set_option maxRecDepth 100000 in
set_option maxHeartbeats 100000 in
theorem eh_lose_r_r2 (X : ez_X) (I : Nat → Nat → Int32) (J : Nat → Nat → Int64) (R : Nat → Nat) (T : List ez_C) (a : Int32) (q81 : Int32) (cz kz : Nat) : ∀ G : ez_F, fx_up X 1 G 209 5 [.ref 35, .int a] [.int q81] (ev_hp ev_I0 ev_J0 ev_R0 []) cz kz = bif decide (¬ q81 = 0) then G 209 11 [.ref 35, .int a] [] (ev_hp ev_I0 ev_J0 ev_R0 []) cz kz else G 209 8 [.ref 35, .int a] [] (ev_hp ev_I0 ev_J0 ev_R0 []) cz kz := by
  intro G
  rfl
set_option maxRecDepth 100000 in
set_option maxHeartbeats 100000 in
theorem eh_lose_r_r3 (X : ez_X) (I : Nat → Nat → Int32) (J : Nat → Nat → Int64) (R : Nat → Nat) (T : List ez_C) (a : Int32) (q81 : Int32) (cz kz : Nat) : ∀ G : ez_F, fx_up X 2 G 209 8 [.ref 35, .int a] [] (ev_hp ev_I0 ev_J0 ev_R0 []) cz kz = some (some (.int (-2)), (ev_hp ev_I0 ev_J0 ev_R0 []), cz, kz) := by
  intro G
  rfl
theorem eh_lose_r (X : ez_X) (I : Nat → Nat → Int32) (J : Nat → Nat → Int64) (R : Nat → Nat) (T : List ez_C) (a : Int32)  : ev_W X 209 0 (ez_lay [.ref 35, .int a]) [] (ev_hp ev_I0 ev_J0 ev_R0 []) 0 0 (fun r h1 c1 k1 => ((¬ (¬ (((ev_il (a.toInt64) 0 (((0 : Int32) - (1 : Int32)).toInt64)))) = 0)) ∧ r = some (.int (-2)) ∧ h1 = (ev_hp ev_I0 ev_J0 ev_R0 []) ∧ c1 = 0 ∧ k1 = 0)) := by
  refine ev_call (eh_lose_r_r1 X I J R T a _ _) (em_isCall X ev_I0 ev_J0 ev_R0 [] a) ?_
  rintro r0 _ _ _ (⟨hr0, rfl, rfl, rfl⟩)
  obtain ⟨q81, hq81⟩ : ∃ z : Int32, ((ev_il (a.toInt64) 0 (((0 : Int32) - (1 : Int32)).toInt64))) = z := ⟨_, rfl⟩
  have eq81 : r0 = some (.int q81) := hr0.trans (by subst hq81; rfl)
  subst eq81
  refine ev_if (eh_lose_r_r2 X I J R T a q81 _ _) (fun b1 => ?_) (fun b1 => ?_)
  · replace b1 := of_decide_eq_true b1
    exact (b1 (by rw [← hq81]; exact ((ev_il_wi a 0 (0 - 1)).trans (ev_wi_neg a)))).elim
  · replace b1 := of_decide_eq_false b1
    refine ev_ret (eh_lose_r_r3 X I J R T a q81 _ _) ?_
    subst hq81
    exact ⟨b1, rfl, rfl, rfl, rfl⟩
set_option maxRecDepth 100000 in
set_option maxHeartbeats 100000 in
theorem eo_lose_r_r1 (xs : Nat → Int32)  (cz kz : Nat) : ∀ G : ez_F, fx_up (4, xs) 2 G 241 534 [ez_scr, .ref 0, .ref 35, .int 0] [] (ev_hp ev_I0 ev_J0 ev_R0 []) cz kz = G 241 536 [ez_scr, .ref 0, .ref 35, .int 0] [ez_scr, .ref 0] (ev_hp ev_I0 ev_J0 ev_R0 []) cz kz := by
  intro G
  rfl
set_option maxRecDepth 100000 in
set_option maxHeartbeats 100000 in
theorem eo_lose_r_r2 (xs : Nat → Int32)  (cz kz : Nat) : ∀ G : ez_F, fx_up (4, xs) 2 G 241 536 [ez_scr, .ref 0, .ref 35, .int 0] [ez_scr, .ref 0] (ev_hp ev_I0 ev_J0 ev_R0 []) cz kz = G 241 538 [ez_scr, .ref 0, .ref 35, .int 0] [.int 1, .int 0, ez_scr, .ref 0] (ev_hp ev_I0 ev_J0 ev_R0 []) cz kz := by
  intro G
  rfl
set_option maxRecDepth 100000 in
set_option maxHeartbeats 100000 in
theorem eo_lose_r_r3 (xs : Nat → Int32)  (cz kz : Nat) : ∀ G : ez_F, fx_up (4, xs) 2 G 241 538 [ez_scr, .ref 0, .ref 35, .int 0] [.int 1, .int 0, ez_scr, .ref 0] (ev_hp ev_I0 ev_J0 ev_R0 []) cz kz = G 241 540 [ez_scr, .ref 0, .ref 35, .int 0] [.int (xs 1), .ref 0] (ev_hp ev_I0 ev_J0 ev_R0 []) cz kz := by
  intro G
  rfl
set_option maxRecDepth 100000 in
set_option maxHeartbeats 100000 in
theorem eo_lose_r_r4 (xs : Nat → Int32)  (cz kz : Nat) : ∀ G : ez_F, fx_up (4, xs) 1 G 241 540 [ez_scr, .ref 0, .ref 35, .int 0] [.int (xs 1), .ref 0] (ev_hp ev_I0 ev_J0 ev_R0 []) cz kz = ev_C G 32 [.ref 0, .int (xs 1)] (ev_hp ev_I0 ev_J0 ev_R0 []) fun r h1 c1 k1 => G 241 543 [ez_scr, .ref 0, .ref 35, .int 0] (r.toList ++ []) h1 (cz + c1) (kz + k1) := by
  intro G
  rfl
set_option maxRecDepth 100000 in
set_option maxHeartbeats 100000 in
theorem eo_lose_r_r5 (xs : Nat → Int32)  (cz kz : Nat) : ∀ G : ez_F, fx_up (4, xs) 2 G 241 543 [ez_scr, .ref 0, .ref 35, .int 0] [.int (-2)] (ev_hp ev_I0 ev_J0 ev_R0 []) cz kz = G 241 545 [ez_scr, .ref 0, .ref 35, .int 0] [ez_scr, .ref 35, .int (-2)] (ev_hp ev_I0 ev_J0 ev_R0 []) cz kz := by
  intro G
  rfl
set_option maxRecDepth 100000 in
set_option maxHeartbeats 100000 in
theorem eo_lose_r_r6 (xs : Nat → Int32)  (cz kz : Nat) : ∀ G : ez_F, fx_up (4, xs) 2 G 241 545 [ez_scr, .ref 0, .ref 35, .int 0] [ez_scr, .ref 35, .int (-2)] (ev_hp ev_I0 ev_J0 ev_R0 []) cz kz = G 241 547 [ez_scr, .ref 0, .ref 35, .int 0] [.int 1, .int 0, ez_scr, .ref 35, .int (-2)] (ev_hp ev_I0 ev_J0 ev_R0 []) cz kz := by
  intro G
  rfl
set_option maxRecDepth 100000 in
set_option maxHeartbeats 100000 in
theorem eo_lose_r_r7 (xs : Nat → Int32)  (cz kz : Nat) : ∀ G : ez_F, fx_up (4, xs) 2 G 241 547 [ez_scr, .ref 0, .ref 35, .int 0] [.int 1, .int 0, ez_scr, .ref 35, .int (-2)] (ev_hp ev_I0 ev_J0 ev_R0 []) cz kz = G 241 549 [ez_scr, .ref 0, .ref 35, .int 0] [.int (xs 1), .ref 35, .int (-2)] (ev_hp ev_I0 ev_J0 ev_R0 []) cz kz := by
  intro G
  rfl
set_option maxRecDepth 100000 in
set_option maxHeartbeats 100000 in
theorem eo_lose_r_r8 (xs : Nat → Int32)  (cz kz : Nat) : ∀ G : ez_F, fx_up (4, xs) 1 G 241 549 [ez_scr, .ref 0, .ref 35, .int 0] [.int (xs 1), .ref 35, .int (-2)] (ev_hp ev_I0 ev_J0 ev_R0 []) cz kz = ev_C G 209 [.ref 35, .int (xs 1)] (ev_hp ev_I0 ev_J0 ev_R0 []) fun r h1 c1 k1 => G 241 552 [ez_scr, .ref 0, .ref 35, .int 0] (r.toList ++ [.int (-2)]) h1 (cz + c1) (kz + k1) := by
  intro G
  rfl
set_option maxRecDepth 100000 in
set_option maxHeartbeats 100000 in
theorem eo_lose_r_r9 (xs : Nat → Int32)  (cz kz : Nat) : ∀ G : ez_F, fx_up (4, xs) 2 G 241 552 [ez_scr, .ref 0, .ref 35, .int 0] [.int (-2), .int (-2)] (ev_hp ev_I0 ev_J0 ev_R0 []) cz kz = G 241 1078 [ez_scr, .ref 0, .ref 35, .int 4] [] (ev_hp ev_I0 ev_J0 ev_R0 []) cz kz := by
  intro G
  rfl
set_option maxRecDepth 100000 in
set_option maxHeartbeats 100000 in
theorem eo_lose_r_r10 (xs : Nat → Int32)  (cz kz : Nat) : ∀ G : ez_F, fx_up (4, xs) 2 G 241 1078 [ez_scr, .ref 0, .ref 35, .int 4] [] (ev_hp ev_I0 ev_J0 ev_R0 []) cz kz = G 241 19 [ez_scr, .ref 0, .ref 35, .int 4] [.int 4] (ev_hp ev_I0 ev_J0 ev_R0 []) cz kz := by
  intro G
  rfl
set_option maxRecDepth 100000 in
set_option maxHeartbeats 100000 in
theorem eo_lose_r_r11 (xs : Nat → Int32)  (cz kz : Nat) : ∀ G : ez_F, fx_up (4, xs) 2 G 241 19 [ez_scr, .ref 0, .ref 35, .int 4] [.int 4] (ev_hp ev_I0 ev_J0 ev_R0 []) cz kz = G 241 21 [ez_scr, .ref 0, .ref 35, .int 4] [.int 4, .int 4] (ev_hp ev_I0 ev_J0 ev_R0 []) cz kz := by
  intro G
  rfl
set_option maxRecDepth 100000 in
set_option maxHeartbeats 100000 in
theorem eo_lose_r_r12 (xs : Nat → Int32)  (cz kz : Nat) : ∀ G : ez_F, fx_up (4, xs) 2 G 241 21 [ez_scr, .ref 0, .ref 35, .int 4] [.int 4, .int 4] (ev_hp ev_I0 ev_J0 ev_R0 []) cz kz = G 241 23 [ez_scr, .ref 0, .ref 35, .int 4] [.int 0, .int 4] (ev_hp ev_I0 ev_J0 ev_R0 []) cz kz := by
  intro G
  rfl
set_option maxRecDepth 100000 in
set_option maxHeartbeats 100000 in
theorem eo_lose_r_r13 (xs : Nat → Int32)  (cz kz : Nat) : ∀ G : ez_F, fx_up (4, xs) 2 G 241 23 [ez_scr, .ref 0, .ref 35, .int 4] [.int 0, .int 4] (ev_hp ev_I0 ev_J0 ev_R0 []) cz kz = G 241 1082 [ez_scr, .ref 0, .ref 35, .int 4] [.int 1] (ev_hp ev_I0 ev_J0 ev_R0 []) cz kz := by
  intro G
  rfl
set_option maxRecDepth 100000 in
set_option maxHeartbeats 100000 in
theorem eo_lose_r_r14 (xs : Nat → Int32)  (cz kz : Nat) : ∀ G : ez_F, fx_up (4, xs) 1 G 241 1082 [ez_scr, .ref 0, .ref 35, .int 4] [.int 1] (ev_hp ev_I0 ev_J0 ev_R0 []) cz kz = some (some (.int 1), (ev_hp ev_I0 ev_J0 ev_R0 []), cz, kz) := by
  intro G
  rfl
theorem eo_lose_r (xs : Nat → Int32)  : ev_P1 (4, xs) 534 := by
  refine ev_seg (eo_lose_r_r1 xs  _ _) ?_
  refine ev_seg (eo_lose_r_r2 xs  _ _) ?_
  refine ev_seg (eo_lose_r_r3 xs  _ _) ?_
  refine ev_call (eo_lose_r_r4 xs  _ _) (ef_lose_r (4, xs) ev_I0 ev_J0 ev_R0 [] (xs 1)) ?_
  rintro r0 _ _ _ (⟨d39, rfl, rfl, rfl, rfl⟩)
  refine ev_seg (eo_lose_r_r5 xs  _ _) ?_
  refine ev_seg (eo_lose_r_r6 xs  _ _) ?_
  refine ev_seg (eo_lose_r_r7 xs  _ _) ?_
  refine ev_call (eo_lose_r_r8 xs  _ _) (eh_lose_r (4, xs) ev_I0 ev_J0 ev_R0 [] (xs 1)) ?_
  rintro r0 _ _ _ (⟨d40, rfl, rfl, rfl, rfl⟩)
  refine ev_seg (eo_lose_r_r9 xs  _ _) ?_
  refine ev_seg (eo_lose_r_r10 xs  _ _) ?_
  refine ev_seg (eo_lose_r_r11 xs  _ _) ?_
  refine ev_seg (eo_lose_r_r12 xs  _ _) ?_
  refine ev_seg (eo_lose_r_r13 xs  _ _) ?_
  refine ev_ret (eo_lose_r_r14 xs  _ _) ?_
  exact ⟨rfl, by omega, by omega⟩
set_option maxRecDepth 100000 in
set_option maxHeartbeats 100000 in
theorem ef_truth_r_r1 (X : ez_X) (I : Nat → Nat → Int32) (J : Nat → Nat → Int64) (R : Nat → Nat) (T : List ez_C) (a : Int32) (b : Int32) (cz kz : Nat) : ∀ G : ez_F, fx_up X 3 G 53 0 [.ref 0, .int a, .int b] [] (ev_hp ev_I0 ev_J0 ev_R0 []) cz kz = ev_C G 21 [.ref 0, .int b] (ev_hp ev_I0 ev_J0 ev_R0 []) fun r h1 c1 k1 => G 53 5 [.ref 0, .int a, .int b] (r.toList ++ []) h1 (cz + c1) (kz + k1) := by
  intro G
  rfl
set_option maxRecDepth 100000 in
set_option maxHeartbeats 100000 in
theorem ef_truth_r_r2 (X : ez_X) (I : Nat → Nat → Int32) (J : Nat → Nat → Int64) (R : Nat → Nat) (T : List ez_C) (a : Int32) (b : Int32) (q82 : Int32) (cz kz : Nat) : ∀ G : ez_F, fx_up X 1 G 53 5 [.ref 0, .int a, .int b] [.int q82] (ev_hp ev_I0 ev_J0 ev_R0 []) cz kz = bif decide (¬ q82 = 0) then G 53 11 [.ref 0, .int a, .int b] [] (ev_hp ev_I0 ev_J0 ev_R0 []) cz kz else G 53 8 [.ref 0, .int a, .int b] [] (ev_hp ev_I0 ev_J0 ev_R0 []) cz kz := by
  intro G
  rfl
set_option maxRecDepth 100000 in
set_option maxHeartbeats 100000 in
theorem ef_truth_r_r3 (X : ez_X) (I : Nat → Nat → Int32) (J : Nat → Nat → Int64) (R : Nat → Nat) (T : List ez_C) (a : Int32) (b : Int32) (q82 : Int32) (cz kz : Nat) : ∀ G : ez_F, fx_up X 2 G 53 8 [.ref 0, .int a, .int b] [] (ev_hp ev_I0 ev_J0 ev_R0 []) cz kz = some (some (.int (-2)), (ev_hp ev_I0 ev_J0 ev_R0 []), cz, kz) := by
  intro G
  rfl
theorem ef_truth_r (X : ez_X) (I : Nat → Nat → Int32) (J : Nat → Nat → Int64) (R : Nat → Nat) (T : List ez_C) (a : Int32) (b : Int32)  : ev_W X 53 0 (ez_lay [.ref 0, .int a, .int b]) [] (ev_hp ev_I0 ev_J0 ev_R0 []) 0 0 (fun r h1 c1 k1 => ((¬ (¬ (((ev_wi b 0 ((0 : Int32) - (1 : Int32))))) = 0)) ∧ r = some (.int (-2)) ∧ h1 = (ev_hp ev_I0 ev_J0 ev_R0 []) ∧ c1 = 0 ∧ k1 = 0)) := by
  refine ev_call (ef_truth_r_r1 X I J R T a b _ _) (eg_isCall X ev_I0 ev_J0 ev_R0 [] b) ?_
  rintro r0 _ _ _ (⟨hr0, rfl, rfl, rfl⟩)
  obtain ⟨q82, hq82⟩ : ∃ z : Int32, ((ev_wi b 0 ((0 : Int32) - (1 : Int32)))) = z := ⟨_, rfl⟩
  have eq82 : r0 = some (.int q82) := hr0.trans (by subst hq82; rfl)
  subst eq82
  refine ev_if (ef_truth_r_r2 X I J R T a b q82 _ _) (fun b1 => ?_) (fun b1 => ?_)
  · replace b1 := of_decide_eq_true b1
    exact (b1 (by rw [← hq82]; exact (ev_wi_neg b))).elim
  · replace b1 := of_decide_eq_false b1
    refine ev_ret (ef_truth_r_r3 X I J R T a b q82 _ _) ?_
    subst hq82
    exact ⟨b1, rfl, rfl, rfl, rfl⟩
set_option maxRecDepth 100000 in
set_option maxHeartbeats 100000 in
theorem eh_truth_r_r1 (X : ez_X) (I : Nat → Nat → Int32) (J : Nat → Nat → Int64) (R : Nat → Nat) (T : List ez_C) (a : Int32) (b : Int32) (cz kz : Nat) : ∀ G : ez_F, fx_up X 3 G 229 0 [.ref 35, .int a, .int b] [] (ev_hp ev_I0 ev_J0 ev_R0 []) cz kz = ev_C G 199 [.ref 35, .int b] (ev_hp ev_I0 ev_J0 ev_R0 []) fun r h1 c1 k1 => G 229 5 [.ref 35, .int a, .int b] (r.toList ++ []) h1 (cz + c1) (kz + k1) := by
  intro G
  rfl
set_option maxRecDepth 100000 in
set_option maxHeartbeats 100000 in
theorem eh_truth_r_r2 (X : ez_X) (I : Nat → Nat → Int32) (J : Nat → Nat → Int64) (R : Nat → Nat) (T : List ez_C) (a : Int32) (b : Int32) (q83 : Int32) (cz kz : Nat) : ∀ G : ez_F, fx_up X 1 G 229 5 [.ref 35, .int a, .int b] [.int q83] (ev_hp ev_I0 ev_J0 ev_R0 []) cz kz = bif decide (¬ q83 = 0) then G 229 11 [.ref 35, .int a, .int b] [] (ev_hp ev_I0 ev_J0 ev_R0 []) cz kz else G 229 8 [.ref 35, .int a, .int b] [] (ev_hp ev_I0 ev_J0 ev_R0 []) cz kz := by
  intro G
  rfl
set_option maxRecDepth 100000 in
set_option maxHeartbeats 100000 in
theorem eh_truth_r_r3 (X : ez_X) (I : Nat → Nat → Int32) (J : Nat → Nat → Int64) (R : Nat → Nat) (T : List ez_C) (a : Int32) (b : Int32) (q83 : Int32) (cz kz : Nat) : ∀ G : ez_F, fx_up X 2 G 229 8 [.ref 35, .int a, .int b] [] (ev_hp ev_I0 ev_J0 ev_R0 []) cz kz = some (some (.int (-2)), (ev_hp ev_I0 ev_J0 ev_R0 []), cz, kz) := by
  intro G
  rfl
theorem eh_truth_r (X : ez_X) (I : Nat → Nat → Int32) (J : Nat → Nat → Int64) (R : Nat → Nat) (T : List ez_C) (a : Int32) (b : Int32)  : ev_W X 229 0 (ez_lay [.ref 35, .int a, .int b]) [] (ev_hp ev_I0 ev_J0 ev_R0 []) 0 0 (fun r h1 c1 k1 => ((¬ (¬ (((ev_il (b.toInt64) 0 (((0 : Int32) - (1 : Int32)).toInt64)))) = 0)) ∧ r = some (.int (-2)) ∧ h1 = (ev_hp ev_I0 ev_J0 ev_R0 []) ∧ c1 = 0 ∧ k1 = 0)) := by
  refine ev_call (eh_truth_r_r1 X I J R T a b _ _) (em_isCall X ev_I0 ev_J0 ev_R0 [] b) ?_
  rintro r0 _ _ _ (⟨hr0, rfl, rfl, rfl⟩)
  obtain ⟨q83, hq83⟩ : ∃ z : Int32, ((ev_il (b.toInt64) 0 (((0 : Int32) - (1 : Int32)).toInt64))) = z := ⟨_, rfl⟩
  have eq83 : r0 = some (.int q83) := hr0.trans (by subst hq83; rfl)
  subst eq83
  refine ev_if (eh_truth_r_r2 X I J R T a b q83 _ _) (fun b1 => ?_) (fun b1 => ?_)
  · replace b1 := of_decide_eq_true b1
    exact (b1 (by rw [← hq83]; exact ((ev_il_wi b 0 (0 - 1)).trans (ev_wi_neg b)))).elim
  · replace b1 := of_decide_eq_false b1
    refine ev_ret (eh_truth_r_r3 X I J R T a b q83 _ _) ?_
    subst hq83
    exact ⟨b1, rfl, rfl, rfl, rfl⟩
set_option maxRecDepth 100000 in
set_option maxHeartbeats 100000 in
theorem eo_truth_r_r1 (xs : Nat → Int32)  (cz kz : Nat) : ∀ G : ez_F, fx_up (4, xs) 2 G 241 570 [ez_scr, .ref 0, .ref 35, .int 0] [] (ev_hp ev_I0 ev_J0 ev_R0 []) cz kz = G 241 572 [ez_scr, .ref 0, .ref 35, .int 0] [ez_scr, .ref 0] (ev_hp ev_I0 ev_J0 ev_R0 []) cz kz := by
  intro G
  rfl
set_option maxRecDepth 100000 in
set_option maxHeartbeats 100000 in
theorem eo_truth_r_r2 (xs : Nat → Int32)  (cz kz : Nat) : ∀ G : ez_F, fx_up (4, xs) 2 G 241 572 [ez_scr, .ref 0, .ref 35, .int 0] [ez_scr, .ref 0] (ev_hp ev_I0 ev_J0 ev_R0 []) cz kz = G 241 574 [ez_scr, .ref 0, .ref 35, .int 0] [.int 1, .int 0, ez_scr, .ref 0] (ev_hp ev_I0 ev_J0 ev_R0 []) cz kz := by
  intro G
  rfl
set_option maxRecDepth 100000 in
set_option maxHeartbeats 100000 in
theorem eo_truth_r_r3 (xs : Nat → Int32)  (cz kz : Nat) : ∀ G : ez_F, fx_up (4, xs) 2 G 241 574 [ez_scr, .ref 0, .ref 35, .int 0] [.int 1, .int 0, ez_scr, .ref 0] (ev_hp ev_I0 ev_J0 ev_R0 []) cz kz = G 241 576 [ez_scr, .ref 0, .ref 35, .int 0] [.int (xs 1), .ref 0] (ev_hp ev_I0 ev_J0 ev_R0 []) cz kz := by
  intro G
  rfl
set_option maxRecDepth 100000 in
set_option maxHeartbeats 100000 in
theorem eo_truth_r_r4 (xs : Nat → Int32)  (cz kz : Nat) : ∀ G : ez_F, fx_up (4, xs) 2 G 241 576 [ez_scr, .ref 0, .ref 35, .int 0] [.int (xs 1), .ref 0] (ev_hp ev_I0 ev_J0 ev_R0 []) cz kz = G 241 578 [ez_scr, .ref 0, .ref 35, .int 0] [.int 0, ez_scr, .int (xs 1), .ref 0] (ev_hp ev_I0 ev_J0 ev_R0 []) cz kz := by
  intro G
  rfl
set_option maxRecDepth 100000 in
set_option maxHeartbeats 100000 in
theorem eo_truth_r_r5 (xs : Nat → Int32)  (cz kz : Nat) : ∀ G : ez_F, fx_up (4, xs) 2 G 241 578 [ez_scr, .ref 0, .ref 35, .int 0] [.int 0, ez_scr, .int (xs 1), .ref 0] (ev_hp ev_I0 ev_J0 ev_R0 []) cz kz = G 241 580 [ez_scr, .ref 0, .ref 35, .int 0] [.int 2, ez_scr, .int (xs 1), .ref 0] (ev_hp ev_I0 ev_J0 ev_R0 []) cz kz := by
  intro G
  rfl
set_option maxRecDepth 100000 in
set_option maxHeartbeats 100000 in
theorem eo_truth_r_r6 (xs : Nat → Int32)  (cz kz : Nat) : ∀ G : ez_F, fx_up (4, xs) 2 G 241 580 [ez_scr, .ref 0, .ref 35, .int 0] [.int 2, ez_scr, .int (xs 1), .ref 0] (ev_hp ev_I0 ev_J0 ev_R0 []) cz kz = ev_C G 53 [.ref 0, .int (xs 1), .int (xs 2)] (ev_hp ev_I0 ev_J0 ev_R0 []) fun r h1 c1 k1 => G 241 584 [ez_scr, .ref 0, .ref 35, .int 0] (r.toList ++ []) h1 (cz + c1) (kz + k1) := by
  intro G
  rfl
set_option maxRecDepth 100000 in
set_option maxHeartbeats 100000 in
theorem eo_truth_r_r7 (xs : Nat → Int32)  (cz kz : Nat) : ∀ G : ez_F, fx_up (4, xs) 2 G 241 584 [ez_scr, .ref 0, .ref 35, .int 0] [.int (-2)] (ev_hp ev_I0 ev_J0 ev_R0 []) cz kz = G 241 586 [ez_scr, .ref 0, .ref 35, .int 0] [ez_scr, .ref 35, .int (-2)] (ev_hp ev_I0 ev_J0 ev_R0 []) cz kz := by
  intro G
  rfl
set_option maxRecDepth 100000 in
set_option maxHeartbeats 100000 in
theorem eo_truth_r_r8 (xs : Nat → Int32)  (cz kz : Nat) : ∀ G : ez_F, fx_up (4, xs) 2 G 241 586 [ez_scr, .ref 0, .ref 35, .int 0] [ez_scr, .ref 35, .int (-2)] (ev_hp ev_I0 ev_J0 ev_R0 []) cz kz = G 241 588 [ez_scr, .ref 0, .ref 35, .int 0] [.int 1, .int 0, ez_scr, .ref 35, .int (-2)] (ev_hp ev_I0 ev_J0 ev_R0 []) cz kz := by
  intro G
  rfl
set_option maxRecDepth 100000 in
set_option maxHeartbeats 100000 in
theorem eo_truth_r_r9 (xs : Nat → Int32)  (cz kz : Nat) : ∀ G : ez_F, fx_up (4, xs) 2 G 241 588 [ez_scr, .ref 0, .ref 35, .int 0] [.int 1, .int 0, ez_scr, .ref 35, .int (-2)] (ev_hp ev_I0 ev_J0 ev_R0 []) cz kz = G 241 590 [ez_scr, .ref 0, .ref 35, .int 0] [.int (xs 1), .ref 35, .int (-2)] (ev_hp ev_I0 ev_J0 ev_R0 []) cz kz := by
  intro G
  rfl
set_option maxRecDepth 100000 in
set_option maxHeartbeats 100000 in
theorem eo_truth_r_r10 (xs : Nat → Int32)  (cz kz : Nat) : ∀ G : ez_F, fx_up (4, xs) 2 G 241 590 [ez_scr, .ref 0, .ref 35, .int 0] [.int (xs 1), .ref 35, .int (-2)] (ev_hp ev_I0 ev_J0 ev_R0 []) cz kz = G 241 592 [ez_scr, .ref 0, .ref 35, .int 0] [.int 0, ez_scr, .int (xs 1), .ref 35, .int (-2)] (ev_hp ev_I0 ev_J0 ev_R0 []) cz kz := by
  intro G
  rfl
set_option maxRecDepth 100000 in
set_option maxHeartbeats 100000 in
theorem eo_truth_r_r11 (xs : Nat → Int32)  (cz kz : Nat) : ∀ G : ez_F, fx_up (4, xs) 2 G 241 592 [ez_scr, .ref 0, .ref 35, .int 0] [.int 0, ez_scr, .int (xs 1), .ref 35, .int (-2)] (ev_hp ev_I0 ev_J0 ev_R0 []) cz kz = G 241 594 [ez_scr, .ref 0, .ref 35, .int 0] [.int 2, ez_scr, .int (xs 1), .ref 35, .int (-2)] (ev_hp ev_I0 ev_J0 ev_R0 []) cz kz := by
  intro G
  rfl
set_option maxRecDepth 100000 in
set_option maxHeartbeats 100000 in
theorem eo_truth_r_r12 (xs : Nat → Int32)  (cz kz : Nat) : ∀ G : ez_F, fx_up (4, xs) 2 G 241 594 [ez_scr, .ref 0, .ref 35, .int 0] [.int 2, ez_scr, .int (xs 1), .ref 35, .int (-2)] (ev_hp ev_I0 ev_J0 ev_R0 []) cz kz = ev_C G 229 [.ref 35, .int (xs 1), .int (xs 2)] (ev_hp ev_I0 ev_J0 ev_R0 []) fun r h1 c1 k1 => G 241 598 [ez_scr, .ref 0, .ref 35, .int 0] (r.toList ++ [.int (-2)]) h1 (cz + c1) (kz + k1) := by
  intro G
  rfl
set_option maxRecDepth 100000 in
set_option maxHeartbeats 100000 in
theorem eo_truth_r_r13 (xs : Nat → Int32)  (cz kz : Nat) : ∀ G : ez_F, fx_up (4, xs) 2 G 241 598 [ez_scr, .ref 0, .ref 35, .int 0] [.int (-2), .int (-2)] (ev_hp ev_I0 ev_J0 ev_R0 []) cz kz = G 241 1078 [ez_scr, .ref 0, .ref 35, .int 4] [] (ev_hp ev_I0 ev_J0 ev_R0 []) cz kz := by
  intro G
  rfl
set_option maxRecDepth 100000 in
set_option maxHeartbeats 100000 in
theorem eo_truth_r_r14 (xs : Nat → Int32)  (cz kz : Nat) : ∀ G : ez_F, fx_up (4, xs) 2 G 241 1078 [ez_scr, .ref 0, .ref 35, .int 4] [] (ev_hp ev_I0 ev_J0 ev_R0 []) cz kz = G 241 19 [ez_scr, .ref 0, .ref 35, .int 4] [.int 4] (ev_hp ev_I0 ev_J0 ev_R0 []) cz kz := by
  intro G
  rfl
set_option maxRecDepth 100000 in
set_option maxHeartbeats 100000 in
theorem eo_truth_r_r15 (xs : Nat → Int32)  (cz kz : Nat) : ∀ G : ez_F, fx_up (4, xs) 2 G 241 19 [ez_scr, .ref 0, .ref 35, .int 4] [.int 4] (ev_hp ev_I0 ev_J0 ev_R0 []) cz kz = G 241 21 [ez_scr, .ref 0, .ref 35, .int 4] [.int 4, .int 4] (ev_hp ev_I0 ev_J0 ev_R0 []) cz kz := by
  intro G
  rfl
set_option maxRecDepth 100000 in
set_option maxHeartbeats 100000 in
theorem eo_truth_r_r16 (xs : Nat → Int32)  (cz kz : Nat) : ∀ G : ez_F, fx_up (4, xs) 2 G 241 21 [ez_scr, .ref 0, .ref 35, .int 4] [.int 4, .int 4] (ev_hp ev_I0 ev_J0 ev_R0 []) cz kz = G 241 23 [ez_scr, .ref 0, .ref 35, .int 4] [.int 0, .int 4] (ev_hp ev_I0 ev_J0 ev_R0 []) cz kz := by
  intro G
  rfl
set_option maxRecDepth 100000 in
set_option maxHeartbeats 100000 in
theorem eo_truth_r_r17 (xs : Nat → Int32)  (cz kz : Nat) : ∀ G : ez_F, fx_up (4, xs) 2 G 241 23 [ez_scr, .ref 0, .ref 35, .int 4] [.int 0, .int 4] (ev_hp ev_I0 ev_J0 ev_R0 []) cz kz = G 241 1082 [ez_scr, .ref 0, .ref 35, .int 4] [.int 1] (ev_hp ev_I0 ev_J0 ev_R0 []) cz kz := by
  intro G
  rfl
set_option maxRecDepth 100000 in
set_option maxHeartbeats 100000 in
theorem eo_truth_r_r18 (xs : Nat → Int32)  (cz kz : Nat) : ∀ G : ez_F, fx_up (4, xs) 1 G 241 1082 [ez_scr, .ref 0, .ref 35, .int 4] [.int 1] (ev_hp ev_I0 ev_J0 ev_R0 []) cz kz = some (some (.int 1), (ev_hp ev_I0 ev_J0 ev_R0 []), cz, kz) := by
  intro G
  rfl
theorem eo_truth_r (xs : Nat → Int32)  : ev_P1 (4, xs) 570 := by
  refine ev_seg (eo_truth_r_r1 xs  _ _) ?_
  refine ev_seg (eo_truth_r_r2 xs  _ _) ?_
  refine ev_seg (eo_truth_r_r3 xs  _ _) ?_
  refine ev_seg (eo_truth_r_r4 xs  _ _) ?_
  refine ev_seg (eo_truth_r_r5 xs  _ _) ?_
  refine ev_call (eo_truth_r_r6 xs  _ _) (ef_truth_r (4, xs) ev_I0 ev_J0 ev_R0 [] (xs 1) (xs 2)) ?_
  rintro r0 _ _ _ (⟨d41, rfl, rfl, rfl, rfl⟩)
  refine ev_seg (eo_truth_r_r7 xs  _ _) ?_
  refine ev_seg (eo_truth_r_r8 xs  _ _) ?_
  refine ev_seg (eo_truth_r_r9 xs  _ _) ?_
  refine ev_seg (eo_truth_r_r10 xs  _ _) ?_
  refine ev_seg (eo_truth_r_r11 xs  _ _) ?_
  refine ev_call (eo_truth_r_r12 xs  _ _) (eh_truth_r (4, xs) ev_I0 ev_J0 ev_R0 [] (xs 1) (xs 2)) ?_
  rintro r0 _ _ _ (⟨d42, rfl, rfl, rfl, rfl⟩)
  refine ev_seg (eo_truth_r_r13 xs  _ _) ?_
  refine ev_seg (eo_truth_r_r14 xs  _ _) ?_
  refine ev_seg (eo_truth_r_r15 xs  _ _) ?_
  refine ev_seg (eo_truth_r_r16 xs  _ _) ?_
  refine ev_seg (eo_truth_r_r17 xs  _ _) ?_
  refine ev_ret (eo_truth_r_r18 xs  _ _) ?_
  exact ⟨rfl, by omega, by omega⟩
set_option maxRecDepth 100000 in
set_option maxHeartbeats 100000 in
theorem ef_lies_r_r1 (X : ez_X) (I : Nat → Nat → Int32) (J : Nat → Nat → Int64) (R : Nat → Nat) (T : List ez_C) (a : Int32) (b : Int32) (c : Int32) (cz kz : Nat) : ∀ G : ez_F, fx_up X 3 G 31 0 [.ref 0, .int a, .int b, .int c] [] (ev_hp ev_I0 ev_J0 ev_R0 []) cz kz = ev_C G 25 [.ref 0, .int b] (ev_hp ev_I0 ev_J0 ev_R0 []) fun r h1 c1 k1 => G 31 5 [.ref 0, .int a, .int b, .int c] (r.toList ++ []) h1 (cz + c1) (kz + k1) := by
  intro G
  rfl
set_option maxRecDepth 100000 in
set_option maxHeartbeats 100000 in
theorem ef_lies_r_r2 (X : ez_X) (I : Nat → Nat → Int32) (J : Nat → Nat → Int64) (R : Nat → Nat) (T : List ez_C) (a : Int32) (b : Int32) (c : Int32) (q84 : Int32) (cz kz : Nat) : ∀ G : ez_F, fx_up X 1 G 31 5 [.ref 0, .int a, .int b, .int c] [.int q84] (ev_hp ev_I0 ev_J0 ev_R0 []) cz kz = bif decide (¬ q84 = 0) then G 31 12 [.ref 0, .int a, .int b, .int c] [] (ev_hp ev_I0 ev_J0 ev_R0 []) cz kz else G 31 8 [.ref 0, .int a, .int b, .int c] [] (ev_hp ev_I0 ev_J0 ev_R0 []) cz kz := by
  intro G
  rfl
set_option maxRecDepth 100000 in
set_option maxHeartbeats 100000 in
theorem ef_lies_r_r3 (X : ez_X) (I : Nat → Nat → Int32) (J : Nat → Nat → Int64) (R : Nat → Nat) (T : List ez_C) (a : Int32) (b : Int32) (c : Int32) (q84 : Int32) (cz kz : Nat) : ∀ G : ez_F, fx_up X 2 G 31 8 [.ref 0, .int a, .int b, .int c] [] (ev_hp ev_I0 ev_J0 ev_R0 []) cz kz = some (some (.long (-2)), (ev_hp ev_I0 ev_J0 ev_R0 []), cz, kz) := by
  intro G
  rfl
theorem ef_lies_r (X : ez_X) (I : Nat → Nat → Int32) (J : Nat → Nat → Int64) (R : Nat → Nat) (T : List ez_C) (a : Int32) (b : Int32) (c : Int32)  : ev_W X 31 0 (ez_lay [.ref 0, .int a, .int b, .int c]) [] (ev_hp ev_I0 ev_J0 ev_R0 []) 0 0 (fun r h1 c1 k1 => ((¬ (¬ (((ev_wi b 0 ((0 : Int32) - (1 : Int32))))) = 0)) ∧ r = some (.long (-2)) ∧ h1 = (ev_hp ev_I0 ev_J0 ev_R0 []) ∧ c1 = 0 ∧ k1 = 0)) := by
  refine ev_call (ef_lies_r_r1 X I J R T a b c _ _) (eg_isShip X ev_I0 ev_J0 ev_R0 [] b) ?_
  rintro r0 _ _ _ (⟨hr0, rfl, rfl, rfl⟩)
  obtain ⟨q84, hq84⟩ : ∃ z : Int32, ((ev_wi b 0 ((0 : Int32) - (1 : Int32)))) = z := ⟨_, rfl⟩
  have eq84 : r0 = some (.int q84) := hr0.trans (by subst hq84; rfl)
  subst eq84
  refine ev_if (ef_lies_r_r2 X I J R T a b c q84 _ _) (fun b1 => ?_) (fun b1 => ?_)
  · replace b1 := of_decide_eq_true b1
    exact (b1 (by rw [← hq84]; exact (ev_wi_neg b))).elim
  · replace b1 := of_decide_eq_false b1
    refine ev_ret (ef_lies_r_r3 X I J R T a b c q84 _ _) ?_
    subst hq84
    exact ⟨b1, rfl, rfl, rfl, rfl⟩
set_option maxRecDepth 100000 in
set_option maxHeartbeats 100000 in
theorem eh_lies_r_r1 (X : ez_X) (I : Nat → Nat → Int32) (J : Nat → Nat → Int64) (R : Nat → Nat) (T : List ez_C) (a : Int32) (b : Int32) (c : Int32) (cz kz : Nat) : ∀ G : ez_F, fx_up X 3 G 208 0 [.ref 35, .int a, .int b, .int c] [] (ev_hp ev_I0 ev_J0 ev_R0 []) cz kz = ev_C G 204 [.ref 35, .int b] (ev_hp ev_I0 ev_J0 ev_R0 []) fun r h1 c1 k1 => G 208 5 [.ref 35, .int a, .int b, .int c] (r.toList ++ []) h1 (cz + c1) (kz + k1) := by
  intro G
  rfl
set_option maxRecDepth 100000 in
set_option maxHeartbeats 100000 in
theorem eh_lies_r_r2 (X : ez_X) (I : Nat → Nat → Int32) (J : Nat → Nat → Int64) (R : Nat → Nat) (T : List ez_C) (a : Int32) (b : Int32) (c : Int32) (q85 : Int32) (cz kz : Nat) : ∀ G : ez_F, fx_up X 1 G 208 5 [.ref 35, .int a, .int b, .int c] [.int q85] (ev_hp ev_I0 ev_J0 ev_R0 []) cz kz = bif decide (¬ q85 = 0) then G 208 12 [.ref 35, .int a, .int b, .int c] [] (ev_hp ev_I0 ev_J0 ev_R0 []) cz kz else G 208 8 [.ref 35, .int a, .int b, .int c] [] (ev_hp ev_I0 ev_J0 ev_R0 []) cz kz := by
  intro G
  rfl
set_option maxRecDepth 100000 in
set_option maxHeartbeats 100000 in
theorem eh_lies_r_r3 (X : ez_X) (I : Nat → Nat → Int32) (J : Nat → Nat → Int64) (R : Nat → Nat) (T : List ez_C) (a : Int32) (b : Int32) (c : Int32) (q85 : Int32) (cz kz : Nat) : ∀ G : ez_F, fx_up X 2 G 208 8 [.ref 35, .int a, .int b, .int c] [] (ev_hp ev_I0 ev_J0 ev_R0 []) cz kz = some (some (.long (-2)), (ev_hp ev_I0 ev_J0 ev_R0 []), cz, kz) := by
  intro G
  rfl
theorem eh_lies_r (X : ez_X) (I : Nat → Nat → Int32) (J : Nat → Nat → Int64) (R : Nat → Nat) (T : List ez_C) (a : Int32) (b : Int32) (c : Int32)  : ev_W X 208 0 (ez_lay [.ref 35, .int a, .int b, .int c]) [] (ev_hp ev_I0 ev_J0 ev_R0 []) 0 0 (fun r h1 c1 k1 => ((¬ (¬ (((ev_il (b.toInt64) 0 (((0 : Int32) - (1 : Int32)).toInt64)))) = 0)) ∧ r = some (.long (-2)) ∧ h1 = (ev_hp ev_I0 ev_J0 ev_R0 []) ∧ c1 = 0 ∧ k1 = 0)) := by
  refine ev_call (eh_lies_r_r1 X I J R T a b c _ _) (em_isShip X ev_I0 ev_J0 ev_R0 [] b) ?_
  rintro r0 _ _ _ (⟨hr0, rfl, rfl, rfl⟩)
  obtain ⟨q85, hq85⟩ : ∃ z : Int32, ((ev_il (b.toInt64) 0 (((0 : Int32) - (1 : Int32)).toInt64))) = z := ⟨_, rfl⟩
  have eq85 : r0 = some (.int q85) := hr0.trans (by subst hq85; rfl)
  subst eq85
  refine ev_if (eh_lies_r_r2 X I J R T a b c q85 _ _) (fun b1 => ?_) (fun b1 => ?_)
  · replace b1 := of_decide_eq_true b1
    exact (b1 (by rw [← hq85]; exact ((ev_il_wi b 0 (0 - 1)).trans (ev_wi_neg b)))).elim
  · replace b1 := of_decide_eq_false b1
    refine ev_ret (eh_lies_r_r3 X I J R T a b c q85 _ _) ?_
    subst hq85
    exact ⟨b1, rfl, rfl, rfl, rfl⟩
set_option maxRecDepth 100000 in
set_option maxHeartbeats 100000 in
theorem eo_lies_r_r1 (xs : Nat → Int32)  (cz kz : Nat) : ∀ G : ez_F, fx_up (4, xs) 2 G 241 603 [ez_scr, .ref 0, .ref 35, .int 0] [] (ev_hp ev_I0 ev_J0 ev_R0 []) cz kz = G 241 605 [ez_scr, .ref 0, .ref 35, .int 0] [ez_scr, .ref 0] (ev_hp ev_I0 ev_J0 ev_R0 []) cz kz := by
  intro G
  rfl
set_option maxRecDepth 100000 in
set_option maxHeartbeats 100000 in
theorem eo_lies_r_r2 (xs : Nat → Int32)  (cz kz : Nat) : ∀ G : ez_F, fx_up (4, xs) 2 G 241 605 [ez_scr, .ref 0, .ref 35, .int 0] [ez_scr, .ref 0] (ev_hp ev_I0 ev_J0 ev_R0 []) cz kz = G 241 607 [ez_scr, .ref 0, .ref 35, .int 0] [.int 1, .int 0, ez_scr, .ref 0] (ev_hp ev_I0 ev_J0 ev_R0 []) cz kz := by
  intro G
  rfl
set_option maxRecDepth 100000 in
set_option maxHeartbeats 100000 in
theorem eo_lies_r_r3 (xs : Nat → Int32)  (cz kz : Nat) : ∀ G : ez_F, fx_up (4, xs) 2 G 241 607 [ez_scr, .ref 0, .ref 35, .int 0] [.int 1, .int 0, ez_scr, .ref 0] (ev_hp ev_I0 ev_J0 ev_R0 []) cz kz = G 241 609 [ez_scr, .ref 0, .ref 35, .int 0] [.int (xs 1), .ref 0] (ev_hp ev_I0 ev_J0 ev_R0 []) cz kz := by
  intro G
  rfl
set_option maxRecDepth 100000 in
set_option maxHeartbeats 100000 in
theorem eo_lies_r_r4 (xs : Nat → Int32)  (cz kz : Nat) : ∀ G : ez_F, fx_up (4, xs) 2 G 241 609 [ez_scr, .ref 0, .ref 35, .int 0] [.int (xs 1), .ref 0] (ev_hp ev_I0 ev_J0 ev_R0 []) cz kz = G 241 611 [ez_scr, .ref 0, .ref 35, .int 0] [.int 0, ez_scr, .int (xs 1), .ref 0] (ev_hp ev_I0 ev_J0 ev_R0 []) cz kz := by
  intro G
  rfl
set_option maxRecDepth 100000 in
set_option maxHeartbeats 100000 in
theorem eo_lies_r_r5 (xs : Nat → Int32)  (cz kz : Nat) : ∀ G : ez_F, fx_up (4, xs) 2 G 241 611 [ez_scr, .ref 0, .ref 35, .int 0] [.int 0, ez_scr, .int (xs 1), .ref 0] (ev_hp ev_I0 ev_J0 ev_R0 []) cz kz = G 241 613 [ez_scr, .ref 0, .ref 35, .int 0] [.int 2, ez_scr, .int (xs 1), .ref 0] (ev_hp ev_I0 ev_J0 ev_R0 []) cz kz := by
  intro G
  rfl
set_option maxRecDepth 100000 in
set_option maxHeartbeats 100000 in
theorem eo_lies_r_r6 (xs : Nat → Int32)  (cz kz : Nat) : ∀ G : ez_F, fx_up (4, xs) 2 G 241 613 [ez_scr, .ref 0, .ref 35, .int 0] [.int 2, ez_scr, .int (xs 1), .ref 0] (ev_hp ev_I0 ev_J0 ev_R0 []) cz kz = G 241 615 [ez_scr, .ref 0, .ref 35, .int 0] [ez_scr, .int (xs 2), .int (xs 1), .ref 0] (ev_hp ev_I0 ev_J0 ev_R0 []) cz kz := by
  intro G
  rfl
set_option maxRecDepth 100000 in
set_option maxHeartbeats 100000 in
theorem eo_lies_r_r7 (xs : Nat → Int32)  (cz kz : Nat) : ∀ G : ez_F, fx_up (4, xs) 2 G 241 615 [ez_scr, .ref 0, .ref 35, .int 0] [ez_scr, .int (xs 2), .int (xs 1), .ref 0] (ev_hp ev_I0 ev_J0 ev_R0 []) cz kz = G 241 617 [ez_scr, .ref 0, .ref 35, .int 0] [.int 3, .int 0, ez_scr, .int (xs 2), .int (xs 1), .ref 0] (ev_hp ev_I0 ev_J0 ev_R0 []) cz kz := by
  intro G
  rfl
set_option maxRecDepth 100000 in
set_option maxHeartbeats 100000 in
theorem eo_lies_r_r8 (xs : Nat → Int32)  (cz kz : Nat) : ∀ G : ez_F, fx_up (4, xs) 2 G 241 617 [ez_scr, .ref 0, .ref 35, .int 0] [.int 3, .int 0, ez_scr, .int (xs 2), .int (xs 1), .ref 0] (ev_hp ev_I0 ev_J0 ev_R0 []) cz kz = G 241 619 [ez_scr, .ref 0, .ref 35, .int 0] [.int (xs 3), .int (xs 2), .int (xs 1), .ref 0] (ev_hp ev_I0 ev_J0 ev_R0 []) cz kz := by
  intro G
  rfl
set_option maxRecDepth 100000 in
set_option maxHeartbeats 100000 in
theorem eo_lies_r_r9 (xs : Nat → Int32)  (cz kz : Nat) : ∀ G : ez_F, fx_up (4, xs) 1 G 241 619 [ez_scr, .ref 0, .ref 35, .int 0] [.int (xs 3), .int (xs 2), .int (xs 1), .ref 0] (ev_hp ev_I0 ev_J0 ev_R0 []) cz kz = ev_C G 31 [.ref 0, .int (xs 1), .int (xs 2), .int (xs 3)] (ev_hp ev_I0 ev_J0 ev_R0 []) fun r h1 c1 k1 => G 241 622 [ez_scr, .ref 0, .ref 35, .int 0] (r.toList ++ []) h1 (cz + c1) (kz + k1) := by
  intro G
  rfl
set_option maxRecDepth 100000 in
set_option maxHeartbeats 100000 in
theorem eo_lies_r_r10 (xs : Nat → Int32)  (cz kz : Nat) : ∀ G : ez_F, fx_up (4, xs) 2 G 241 622 [ez_scr, .ref 0, .ref 35, .int 0] [.long (-2)] (ev_hp ev_I0 ev_J0 ev_R0 []) cz kz = G 241 624 [ez_scr, .ref 0, .ref 35, .int 0] [ez_scr, .ref 35, .long (-2)] (ev_hp ev_I0 ev_J0 ev_R0 []) cz kz := by
  intro G
  rfl
set_option maxRecDepth 100000 in
set_option maxHeartbeats 100000 in
theorem eo_lies_r_r11 (xs : Nat → Int32)  (cz kz : Nat) : ∀ G : ez_F, fx_up (4, xs) 2 G 241 624 [ez_scr, .ref 0, .ref 35, .int 0] [ez_scr, .ref 35, .long (-2)] (ev_hp ev_I0 ev_J0 ev_R0 []) cz kz = G 241 626 [ez_scr, .ref 0, .ref 35, .int 0] [.int 1, .int 0, ez_scr, .ref 35, .long (-2)] (ev_hp ev_I0 ev_J0 ev_R0 []) cz kz := by
  intro G
  rfl
set_option maxRecDepth 100000 in
set_option maxHeartbeats 100000 in
theorem eo_lies_r_r12 (xs : Nat → Int32)  (cz kz : Nat) : ∀ G : ez_F, fx_up (4, xs) 2 G 241 626 [ez_scr, .ref 0, .ref 35, .int 0] [.int 1, .int 0, ez_scr, .ref 35, .long (-2)] (ev_hp ev_I0 ev_J0 ev_R0 []) cz kz = G 241 628 [ez_scr, .ref 0, .ref 35, .int 0] [.int (xs 1), .ref 35, .long (-2)] (ev_hp ev_I0 ev_J0 ev_R0 []) cz kz := by
  intro G
  rfl
set_option maxRecDepth 100000 in
set_option maxHeartbeats 100000 in
theorem eo_lies_r_r13 (xs : Nat → Int32)  (cz kz : Nat) : ∀ G : ez_F, fx_up (4, xs) 2 G 241 628 [ez_scr, .ref 0, .ref 35, .int 0] [.int (xs 1), .ref 35, .long (-2)] (ev_hp ev_I0 ev_J0 ev_R0 []) cz kz = G 241 630 [ez_scr, .ref 0, .ref 35, .int 0] [.int 0, ez_scr, .int (xs 1), .ref 35, .long (-2)] (ev_hp ev_I0 ev_J0 ev_R0 []) cz kz := by
  intro G
  rfl
set_option maxRecDepth 100000 in
set_option maxHeartbeats 100000 in
theorem eo_lies_r_r14 (xs : Nat → Int32)  (cz kz : Nat) : ∀ G : ez_F, fx_up (4, xs) 2 G 241 630 [ez_scr, .ref 0, .ref 35, .int 0] [.int 0, ez_scr, .int (xs 1), .ref 35, .long (-2)] (ev_hp ev_I0 ev_J0 ev_R0 []) cz kz = G 241 632 [ez_scr, .ref 0, .ref 35, .int 0] [.int 2, ez_scr, .int (xs 1), .ref 35, .long (-2)] (ev_hp ev_I0 ev_J0 ev_R0 []) cz kz := by
  intro G
  rfl
set_option maxRecDepth 100000 in
set_option maxHeartbeats 100000 in
theorem eo_lies_r_r15 (xs : Nat → Int32)  (cz kz : Nat) : ∀ G : ez_F, fx_up (4, xs) 2 G 241 632 [ez_scr, .ref 0, .ref 35, .int 0] [.int 2, ez_scr, .int (xs 1), .ref 35, .long (-2)] (ev_hp ev_I0 ev_J0 ev_R0 []) cz kz = G 241 634 [ez_scr, .ref 0, .ref 35, .int 0] [ez_scr, .int (xs 2), .int (xs 1), .ref 35, .long (-2)] (ev_hp ev_I0 ev_J0 ev_R0 []) cz kz := by
  intro G
  rfl
set_option maxRecDepth 100000 in
set_option maxHeartbeats 100000 in
theorem eo_lies_r_r16 (xs : Nat → Int32)  (cz kz : Nat) : ∀ G : ez_F, fx_up (4, xs) 2 G 241 634 [ez_scr, .ref 0, .ref 35, .int 0] [ez_scr, .int (xs 2), .int (xs 1), .ref 35, .long (-2)] (ev_hp ev_I0 ev_J0 ev_R0 []) cz kz = G 241 636 [ez_scr, .ref 0, .ref 35, .int 0] [.int 3, .int 0, ez_scr, .int (xs 2), .int (xs 1), .ref 35, .long (-2)] (ev_hp ev_I0 ev_J0 ev_R0 []) cz kz := by
  intro G
  rfl
set_option maxRecDepth 100000 in
set_option maxHeartbeats 100000 in
theorem eo_lies_r_r17 (xs : Nat → Int32)  (cz kz : Nat) : ∀ G : ez_F, fx_up (4, xs) 2 G 241 636 [ez_scr, .ref 0, .ref 35, .int 0] [.int 3, .int 0, ez_scr, .int (xs 2), .int (xs 1), .ref 35, .long (-2)] (ev_hp ev_I0 ev_J0 ev_R0 []) cz kz = G 241 638 [ez_scr, .ref 0, .ref 35, .int 0] [.int (xs 3), .int (xs 2), .int (xs 1), .ref 35, .long (-2)] (ev_hp ev_I0 ev_J0 ev_R0 []) cz kz := by
  intro G
  rfl
set_option maxRecDepth 100000 in
set_option maxHeartbeats 100000 in
theorem eo_lies_r_r18 (xs : Nat → Int32)  (cz kz : Nat) : ∀ G : ez_F, fx_up (4, xs) 1 G 241 638 [ez_scr, .ref 0, .ref 35, .int 0] [.int (xs 3), .int (xs 2), .int (xs 1), .ref 35, .long (-2)] (ev_hp ev_I0 ev_J0 ev_R0 []) cz kz = ev_C G 208 [.ref 35, .int (xs 1), .int (xs 2), .int (xs 3)] (ev_hp ev_I0 ev_J0 ev_R0 []) fun r h1 c1 k1 => G 241 641 [ez_scr, .ref 0, .ref 35, .int 0] (r.toList ++ [.long (-2)]) h1 (cz + c1) (kz + k1) := by
  intro G
  rfl
set_option maxRecDepth 100000 in
set_option maxHeartbeats 100000 in
theorem eo_lies_r_r19 (xs : Nat → Int32)  (cz kz : Nat) : ∀ G : ez_F, fx_up (4, xs) 2 G 241 641 [ez_scr, .ref 0, .ref 35, .int 0] [.long (-2), .long (-2)] (ev_hp ev_I0 ev_J0 ev_R0 []) cz kz = G 241 1075 [ez_scr, .ref 0, .ref 35, .int 0] [] (ev_hp ev_I0 ev_J0 ev_R0 []) cz kz := by
  intro G
  rfl
set_option maxRecDepth 100000 in
set_option maxHeartbeats 100000 in
theorem eo_lies_r_r20 (xs : Nat → Int32)  (cz kz : Nat) : ∀ G : ez_F, fx_up (4, xs) 2 G 241 1075 [ez_scr, .ref 0, .ref 35, .int 0] [] (ev_hp ev_I0 ev_J0 ev_R0 []) cz kz = G 241 18 [ez_scr, .ref 0, .ref 35, .int 4] [] (ev_hp ev_I0 ev_J0 ev_R0 []) cz kz := by
  intro G
  rfl
set_option maxRecDepth 100000 in
set_option maxHeartbeats 100000 in
theorem eo_lies_r_r21 (xs : Nat → Int32)  (cz kz : Nat) : ∀ G : ez_F, fx_up (4, xs) 2 G 241 18 [ez_scr, .ref 0, .ref 35, .int 4] [] (ev_hp ev_I0 ev_J0 ev_R0 []) cz kz = G 241 20 [ez_scr, .ref 0, .ref 35, .int 4] [ez_scr, .int 4] (ev_hp ev_I0 ev_J0 ev_R0 []) cz kz := by
  intro G
  rfl
set_option maxRecDepth 100000 in
set_option maxHeartbeats 100000 in
theorem eo_lies_r_r22 (xs : Nat → Int32)  (cz kz : Nat) : ∀ G : ez_F, fx_up (4, xs) 2 G 241 20 [ez_scr, .ref 0, .ref 35, .int 4] [ez_scr, .int 4] (ev_hp ev_I0 ev_J0 ev_R0 []) cz kz = G 241 22 [ez_scr, .ref 0, .ref 35, .int 4] [.int 4, .int 4, .int 4] (ev_hp ev_I0 ev_J0 ev_R0 []) cz kz := by
  intro G
  rfl
set_option maxRecDepth 100000 in
set_option maxHeartbeats 100000 in
theorem eo_lies_r_r23 (xs : Nat → Int32)  (cz kz : Nat) : ∀ G : ez_F, fx_up (4, xs) 2 G 241 22 [ez_scr, .ref 0, .ref 35, .int 4] [.int 4, .int 4, .int 4] (ev_hp ev_I0 ev_J0 ev_R0 []) cz kz = G 241 1081 [ez_scr, .ref 0, .ref 35, .int 4] [] (ev_hp ev_I0 ev_J0 ev_R0 []) cz kz := by
  intro G
  rfl
set_option maxRecDepth 100000 in
set_option maxHeartbeats 100000 in
theorem eo_lies_r_r24 (xs : Nat → Int32)  (cz kz : Nat) : ∀ G : ez_F, fx_up (4, xs) 2 G 241 1081 [ez_scr, .ref 0, .ref 35, .int 4] [] (ev_hp ev_I0 ev_J0 ev_R0 []) cz kz = some (some (.int 1), (ev_hp ev_I0 ev_J0 ev_R0 []), cz, kz) := by
  intro G
  rfl
theorem eo_lies_r (xs : Nat → Int32)  : ev_P1 (4, xs) 603 := by
  refine ev_seg (eo_lies_r_r1 xs  _ _) ?_
  refine ev_seg (eo_lies_r_r2 xs  _ _) ?_
  refine ev_seg (eo_lies_r_r3 xs  _ _) ?_
  refine ev_seg (eo_lies_r_r4 xs  _ _) ?_
  refine ev_seg (eo_lies_r_r5 xs  _ _) ?_
  refine ev_seg (eo_lies_r_r6 xs  _ _) ?_
  refine ev_seg (eo_lies_r_r7 xs  _ _) ?_
  refine ev_seg (eo_lies_r_r8 xs  _ _) ?_
  refine ev_call (eo_lies_r_r9 xs  _ _) (ef_lies_r (4, xs) ev_I0 ev_J0 ev_R0 [] (xs 1) (xs 2) (xs 3)) ?_
  rintro r0 _ _ _ (⟨d43, rfl, rfl, rfl, rfl⟩)
  refine ev_seg (eo_lies_r_r10 xs  _ _) ?_
  refine ev_seg (eo_lies_r_r11 xs  _ _) ?_
  refine ev_seg (eo_lies_r_r12 xs  _ _) ?_
  refine ev_seg (eo_lies_r_r13 xs  _ _) ?_
  refine ev_seg (eo_lies_r_r14 xs  _ _) ?_
  refine ev_seg (eo_lies_r_r15 xs  _ _) ?_
  refine ev_seg (eo_lies_r_r16 xs  _ _) ?_
  refine ev_seg (eo_lies_r_r17 xs  _ _) ?_
  refine ev_call (eo_lies_r_r18 xs  _ _) (eh_lies_r (4, xs) ev_I0 ev_J0 ev_R0 [] (xs 1) (xs 2) (xs 3)) ?_
  rintro r0 _ _ _ (⟨d44, rfl, rfl, rfl, rfl⟩)
  refine ev_seg (eo_lies_r_r19 xs  _ _) ?_
  refine ev_seg (eo_lies_r_r20 xs  _ _) ?_
  refine ev_seg (eo_lies_r_r21 xs  _ _) ?_
  refine ev_seg (eo_lies_r_r22 xs  _ _) ?_
  refine ev_seg (eo_lies_r_r23 xs  _ _) ?_
  refine ev_ret (eo_lies_r_r24 xs  _ _) ?_
  exact ⟨rfl, by omega, by omega⟩
set_option maxRecDepth 100000 in
set_option maxHeartbeats 100000 in
theorem ef_call_r_r1 (X : ez_X) (I : Nat → Nat → Int32) (J : Nat → Nat → Int64) (R : Nat → Nat) (T : List ez_C) (a : Int32) (cz kz : Nat) : ∀ G : ez_F, fx_up X 3 G 10 0 [.ref 0, .int a] [] (ev_hp ev_I0 ev_J0 ev_R0 []) cz kz = ev_C G 22 [.ref 0, .int a] (ev_hp ev_I0 ev_J0 ev_R0 []) fun r h1 c1 k1 => G 10 5 [.ref 0, .int a] (r.toList ++ []) h1 (cz + c1) (kz + k1) := by
  intro G
  rfl
set_option maxRecDepth 100000 in
set_option maxHeartbeats 100000 in
theorem ef_call_r_r2 (X : ez_X) (I : Nat → Nat → Int32) (J : Nat → Nat → Int64) (R : Nat → Nat) (T : List ez_C) (a : Int32) (q86 : Int32) (cz kz : Nat) : ∀ G : ez_F, fx_up X 1 G 10 5 [.ref 0, .int a] [.int q86] (ev_hp ev_I0 ev_J0 ev_R0 []) cz kz = bif decide (q86 = 0) then G 10 18 [.ref 0, .int a] [] (ev_hp ev_I0 ev_J0 ev_R0 []) cz kz else G 10 8 [.ref 0, .int a] [] (ev_hp ev_I0 ev_J0 ev_R0 []) cz kz := by
  intro G
  rfl
set_option maxRecDepth 100000 in
set_option maxHeartbeats 100000 in
theorem ef_call_r_r3 (X : ez_X) (I : Nat → Nat → Int32) (J : Nat → Nat → Int64) (R : Nat → Nat) (T : List ez_C) (a : Int32) (q86 : Int32) (cz kz : Nat) : ∀ G : ez_F, fx_up X 2 G 10 18 [.ref 0, .int a] [] (ev_hp ev_I0 ev_J0 ev_R0 []) cz kz = some (some (.int (-2)), (ev_hp ev_I0 ev_J0 ev_R0 []), cz, kz) := by
  intro G
  rfl
theorem ef_call_r (X : ez_X) (I : Nat → Nat → Int32) (J : Nat → Nat → Int64) (R : Nat → Nat) (T : List ez_C) (a : Int32) (ha : ev_wi a 0 24 = 0) : ev_W X 10 0 (ez_lay [.ref 0, .int a]) [] (ev_hp ev_I0 ev_J0 ev_R0 []) 0 0 (fun r h1 c1 k1 => (((((ev_wi a 0 ((25 : Int32) - (1 : Int32))))) = 0) ∧ r = some (.int (-2)) ∧ h1 = (ev_hp ev_I0 ev_J0 ev_R0 []) ∧ c1 = 0 ∧ k1 = 0)) := by
  refine ev_call (ef_call_r_r1 X I J R T a _ _) (eg_isCell X ev_I0 ev_J0 ev_R0 [] a) ?_
  rintro r0 _ _ _ (⟨hr0, rfl, rfl, rfl⟩)
  obtain ⟨q86, hq86⟩ : ∃ z : Int32, ((ev_wi a 0 ((25 : Int32) - (1 : Int32)))) = z := ⟨_, rfl⟩
  have eq86 : r0 = some (.int q86) := hr0.trans (by subst hq86; rfl)
  subst eq86
  refine ev_if (ef_call_r_r2 X I J R T a q86 _ _) (fun b1 => ?_) (fun b1 => ?_)
  · replace b1 := of_decide_eq_true b1
    refine ev_ret (ef_call_r_r3 X I J R T a q86 _ _) ?_
    subst hq86
    exact ⟨b1, rfl, rfl, rfl, rfl⟩
  · replace b1 := of_decide_eq_false b1
    exact (b1 (by rw [← hq86]; exact ha)).elim
set_option maxRecDepth 100000 in
set_option maxHeartbeats 100000 in
theorem eh_call_r_r1 (X : ez_X) (I : Nat → Nat → Int32) (J : Nat → Nat → Int64) (R : Nat → Nat) (T : List ez_C) (a : Int32) (cz kz : Nat) : ∀ G : ez_F, fx_up X 3 G 175 0 [.ref 35, .int a] [] (ev_hp ev_I0 ev_J0 ev_R0 []) cz kz = ev_C G 200 [.ref 35, .int a] (ev_hp ev_I0 ev_J0 ev_R0 []) fun r h1 c1 k1 => G 175 5 [.ref 35, .int a] (r.toList ++ []) h1 (cz + c1) (kz + k1) := by
  intro G
  rfl
set_option maxRecDepth 100000 in
set_option maxHeartbeats 100000 in
theorem eh_call_r_r2 (X : ez_X) (I : Nat → Nat → Int32) (J : Nat → Nat → Int64) (R : Nat → Nat) (T : List ez_C) (a : Int32) (q87 : Int32) (cz kz : Nat) : ∀ G : ez_F, fx_up X 1 G 175 5 [.ref 35, .int a] [.int q87] (ev_hp ev_I0 ev_J0 ev_R0 []) cz kz = bif decide (¬ q87 = 0) then G 175 11 [.ref 35, .int a] [] (ev_hp ev_I0 ev_J0 ev_R0 []) cz kz else G 175 8 [.ref 35, .int a] [] (ev_hp ev_I0 ev_J0 ev_R0 []) cz kz := by
  intro G
  rfl
set_option maxRecDepth 100000 in
set_option maxHeartbeats 100000 in
theorem eh_call_r_r3 (X : ez_X) (I : Nat → Nat → Int32) (J : Nat → Nat → Int64) (R : Nat → Nat) (T : List ez_C) (a : Int32) (q87 : Int32) (cz kz : Nat) : ∀ G : ez_F, fx_up X 2 G 175 8 [.ref 35, .int a] [] (ev_hp ev_I0 ev_J0 ev_R0 []) cz kz = some (some (.int (-2)), (ev_hp ev_I0 ev_J0 ev_R0 []), cz, kz) := by
  intro G
  rfl
theorem eh_call_r (X : ez_X) (I : Nat → Nat → Int32) (J : Nat → Nat → Int64) (R : Nat → Nat) (T : List ez_C) (a : Int32) (ha : ev_wi a 0 24 = 0) : ev_W X 175 0 (ez_lay [.ref 35, .int a]) [] (ev_hp ev_I0 ev_J0 ev_R0 []) 0 0 (fun r h1 c1 k1 => ((¬ (¬ (((ev_il (a.toInt64) 0 (((((5 : Int32) * (5 : Int32))) - (1 : Int32)).toInt64)))) = 0)) ∧ r = some (.int (-2)) ∧ h1 = (ev_hp ev_I0 ev_J0 ev_R0 []) ∧ c1 = 0 ∧ k1 = 0)) := by
  refine ev_call (eh_call_r_r1 X I J R T a _ _) (em_isCell X ev_I0 ev_J0 ev_R0 [] a) ?_
  rintro r0 _ _ _ (⟨hr0, rfl, rfl, rfl⟩)
  obtain ⟨q87, hq87⟩ : ∃ z : Int32, ((ev_il (a.toInt64) 0 (((((5 : Int32) * (5 : Int32))) - (1 : Int32)).toInt64))) = z := ⟨_, rfl⟩
  have eq87 : r0 = some (.int q87) := hr0.trans (by subst hq87; rfl)
  subst eq87
  refine ev_if (eh_call_r_r2 X I J R T a q87 _ _) (fun b1 => ?_) (fun b1 => ?_)
  · replace b1 := of_decide_eq_true b1
    exact (b1 (by rw [← hq87]; exact ((ev_il_wi a 0 24).trans ha))).elim
  · replace b1 := of_decide_eq_false b1
    refine ev_ret (eh_call_r_r3 X I J R T a q87 _ _) ?_
    subst hq87
    exact ⟨b1, rfl, rfl, rfl, rfl⟩
set_option maxRecDepth 100000 in
set_option maxHeartbeats 100000 in
theorem eo_call_r_r1 (xs : Nat → Int32)  (cz kz : Nat) : ∀ G : ez_F, fx_up (4, xs) 2 G 241 445 [ez_scr, .ref 0, .ref 35, .int 0] [] (ev_hp ev_I0 ev_J0 ev_R0 []) cz kz = G 241 447 [ez_scr, .ref 0, .ref 35, .int 0] [ez_scr, .ref 0] (ev_hp ev_I0 ev_J0 ev_R0 []) cz kz := by
  intro G
  rfl
set_option maxRecDepth 100000 in
set_option maxHeartbeats 100000 in
theorem eo_call_r_r2 (xs : Nat → Int32)  (cz kz : Nat) : ∀ G : ez_F, fx_up (4, xs) 2 G 241 447 [ez_scr, .ref 0, .ref 35, .int 0] [ez_scr, .ref 0] (ev_hp ev_I0 ev_J0 ev_R0 []) cz kz = G 241 449 [ez_scr, .ref 0, .ref 35, .int 0] [.int 1, .int 0, ez_scr, .ref 0] (ev_hp ev_I0 ev_J0 ev_R0 []) cz kz := by
  intro G
  rfl
set_option maxRecDepth 100000 in
set_option maxHeartbeats 100000 in
theorem eo_call_r_r3 (xs : Nat → Int32)  (cz kz : Nat) : ∀ G : ez_F, fx_up (4, xs) 2 G 241 449 [ez_scr, .ref 0, .ref 35, .int 0] [.int 1, .int 0, ez_scr, .ref 0] (ev_hp ev_I0 ev_J0 ev_R0 []) cz kz = G 241 451 [ez_scr, .ref 0, .ref 35, .int 0] [.int (xs 1), .ref 0] (ev_hp ev_I0 ev_J0 ev_R0 []) cz kz := by
  intro G
  rfl
set_option maxRecDepth 100000 in
set_option maxHeartbeats 100000 in
theorem eo_call_r_r4 (xs : Nat → Int32)  (cz kz : Nat) : ∀ G : ez_F, fx_up (4, xs) 1 G 241 451 [ez_scr, .ref 0, .ref 35, .int 0] [.int (xs 1), .ref 0] (ev_hp ev_I0 ev_J0 ev_R0 []) cz kz = ev_C G 10 [.ref 0, .int (xs 1)] (ev_hp ev_I0 ev_J0 ev_R0 []) fun r h1 c1 k1 => G 241 454 [ez_scr, .ref 0, .ref 35, .int 0] (r.toList ++ []) h1 (cz + c1) (kz + k1) := by
  intro G
  rfl
set_option maxRecDepth 100000 in
set_option maxHeartbeats 100000 in
theorem eo_call_r_r5 (xs : Nat → Int32)  (cz kz : Nat) : ∀ G : ez_F, fx_up (4, xs) 2 G 241 454 [ez_scr, .ref 0, .ref 35, .int 0] [.int (-2)] (ev_hp ev_I0 ev_J0 ev_R0 []) cz kz = G 241 456 [ez_scr, .ref 0, .ref 35, .int 0] [ez_scr, .ref 35, .int (-2)] (ev_hp ev_I0 ev_J0 ev_R0 []) cz kz := by
  intro G
  rfl
set_option maxRecDepth 100000 in
set_option maxHeartbeats 100000 in
theorem eo_call_r_r6 (xs : Nat → Int32)  (cz kz : Nat) : ∀ G : ez_F, fx_up (4, xs) 2 G 241 456 [ez_scr, .ref 0, .ref 35, .int 0] [ez_scr, .ref 35, .int (-2)] (ev_hp ev_I0 ev_J0 ev_R0 []) cz kz = G 241 458 [ez_scr, .ref 0, .ref 35, .int 0] [.int 1, .int 0, ez_scr, .ref 35, .int (-2)] (ev_hp ev_I0 ev_J0 ev_R0 []) cz kz := by
  intro G
  rfl
set_option maxRecDepth 100000 in
set_option maxHeartbeats 100000 in
theorem eo_call_r_r7 (xs : Nat → Int32)  (cz kz : Nat) : ∀ G : ez_F, fx_up (4, xs) 2 G 241 458 [ez_scr, .ref 0, .ref 35, .int 0] [.int 1, .int 0, ez_scr, .ref 35, .int (-2)] (ev_hp ev_I0 ev_J0 ev_R0 []) cz kz = G 241 460 [ez_scr, .ref 0, .ref 35, .int 0] [.int (xs 1), .ref 35, .int (-2)] (ev_hp ev_I0 ev_J0 ev_R0 []) cz kz := by
  intro G
  rfl
set_option maxRecDepth 100000 in
set_option maxHeartbeats 100000 in
theorem eo_call_r_r8 (xs : Nat → Int32)  (cz kz : Nat) : ∀ G : ez_F, fx_up (4, xs) 1 G 241 460 [ez_scr, .ref 0, .ref 35, .int 0] [.int (xs 1), .ref 35, .int (-2)] (ev_hp ev_I0 ev_J0 ev_R0 []) cz kz = ev_C G 175 [.ref 35, .int (xs 1)] (ev_hp ev_I0 ev_J0 ev_R0 []) fun r h1 c1 k1 => G 241 463 [ez_scr, .ref 0, .ref 35, .int 0] (r.toList ++ [.int (-2)]) h1 (cz + c1) (kz + k1) := by
  intro G
  rfl
set_option maxRecDepth 100000 in
set_option maxHeartbeats 100000 in
theorem eo_call_r_r9 (xs : Nat → Int32)  (cz kz : Nat) : ∀ G : ez_F, fx_up (4, xs) 2 G 241 463 [ez_scr, .ref 0, .ref 35, .int 0] [.int (-2), .int (-2)] (ev_hp ev_I0 ev_J0 ev_R0 []) cz kz = G 241 1078 [ez_scr, .ref 0, .ref 35, .int 4] [] (ev_hp ev_I0 ev_J0 ev_R0 []) cz kz := by
  intro G
  rfl
set_option maxRecDepth 100000 in
set_option maxHeartbeats 100000 in
theorem eo_call_r_r10 (xs : Nat → Int32)  (cz kz : Nat) : ∀ G : ez_F, fx_up (4, xs) 2 G 241 1078 [ez_scr, .ref 0, .ref 35, .int 4] [] (ev_hp ev_I0 ev_J0 ev_R0 []) cz kz = G 241 19 [ez_scr, .ref 0, .ref 35, .int 4] [.int 4] (ev_hp ev_I0 ev_J0 ev_R0 []) cz kz := by
  intro G
  rfl
set_option maxRecDepth 100000 in
set_option maxHeartbeats 100000 in
theorem eo_call_r_r11 (xs : Nat → Int32)  (cz kz : Nat) : ∀ G : ez_F, fx_up (4, xs) 2 G 241 19 [ez_scr, .ref 0, .ref 35, .int 4] [.int 4] (ev_hp ev_I0 ev_J0 ev_R0 []) cz kz = G 241 21 [ez_scr, .ref 0, .ref 35, .int 4] [.int 4, .int 4] (ev_hp ev_I0 ev_J0 ev_R0 []) cz kz := by
  intro G
  rfl
set_option maxRecDepth 100000 in
set_option maxHeartbeats 100000 in
theorem eo_call_r_r12 (xs : Nat → Int32)  (cz kz : Nat) : ∀ G : ez_F, fx_up (4, xs) 2 G 241 21 [ez_scr, .ref 0, .ref 35, .int 4] [.int 4, .int 4] (ev_hp ev_I0 ev_J0 ev_R0 []) cz kz = G 241 23 [ez_scr, .ref 0, .ref 35, .int 4] [.int 0, .int 4] (ev_hp ev_I0 ev_J0 ev_R0 []) cz kz := by
  intro G
  rfl
set_option maxRecDepth 100000 in
set_option maxHeartbeats 100000 in
theorem eo_call_r_r13 (xs : Nat → Int32)  (cz kz : Nat) : ∀ G : ez_F, fx_up (4, xs) 2 G 241 23 [ez_scr, .ref 0, .ref 35, .int 4] [.int 0, .int 4] (ev_hp ev_I0 ev_J0 ev_R0 []) cz kz = G 241 1082 [ez_scr, .ref 0, .ref 35, .int 4] [.int 1] (ev_hp ev_I0 ev_J0 ev_R0 []) cz kz := by
  intro G
  rfl
set_option maxRecDepth 100000 in
set_option maxHeartbeats 100000 in
theorem eo_call_r_r14 (xs : Nat → Int32)  (cz kz : Nat) : ∀ G : ez_F, fx_up (4, xs) 1 G 241 1082 [ez_scr, .ref 0, .ref 35, .int 4] [.int 1] (ev_hp ev_I0 ev_J0 ev_R0 []) cz kz = some (some (.int 1), (ev_hp ev_I0 ev_J0 ev_R0 []), cz, kz) := by
  intro G
  rfl
theorem eo_call_r (xs : Nat → Int32) (ha : ev_wi (xs 1) 0 24 = 0) : ev_P1 (4, xs) 445 := by
  refine ev_seg (eo_call_r_r1 xs  _ _) ?_
  refine ev_seg (eo_call_r_r2 xs  _ _) ?_
  refine ev_seg (eo_call_r_r3 xs  _ _) ?_
  refine ev_call (eo_call_r_r4 xs  _ _) (ef_call_r (4, xs) ev_I0 ev_J0 ev_R0 [] (xs 1) ha) ?_
  rintro r0 _ _ _ (⟨d45, rfl, rfl, rfl, rfl⟩)
  refine ev_seg (eo_call_r_r5 xs  _ _) ?_
  refine ev_seg (eo_call_r_r6 xs  _ _) ?_
  refine ev_seg (eo_call_r_r7 xs  _ _) ?_
  refine ev_call (eo_call_r_r8 xs  _ _) (eh_call_r (4, xs) ev_I0 ev_J0 ev_R0 [] (xs 1) ha) ?_
  rintro r0 _ _ _ (⟨d46, rfl, rfl, rfl, rfl⟩)
  refine ev_seg (eo_call_r_r9 xs  _ _) ?_
  refine ev_seg (eo_call_r_r10 xs  _ _) ?_
  refine ev_seg (eo_call_r_r11 xs  _ _) ?_
  refine ev_seg (eo_call_r_r12 xs  _ _) ?_
  refine ev_seg (eo_call_r_r13 xs  _ _) ?_
  refine ev_ret (eo_call_r_r14 xs  _ _) ?_
  exact ⟨rfl, by omega, by omega⟩
set_option maxRecDepth 100000 in
set_option maxHeartbeats 100000 in
theorem ef_there_r_r1 (X : ez_X) (I : Nat → Nat → Int32) (J : Nat → Nat → Int64) (R : Nat → Nat) (T : List ez_C) (a : Int32) (cz kz : Nat) : ∀ G : ez_F, fx_up X 3 G 51 0 [.ref 0, .int a] [] (ev_hp ev_I0 ev_J0 ev_R0 []) cz kz = ev_C G 22 [.ref 0, .int a] (ev_hp ev_I0 ev_J0 ev_R0 []) fun r h1 c1 k1 => G 51 5 [.ref 0, .int a] (r.toList ++ []) h1 (cz + c1) (kz + k1) := by
  intro G
  rfl
set_option maxRecDepth 100000 in
set_option maxHeartbeats 100000 in
theorem ef_there_r_r2 (X : ez_X) (I : Nat → Nat → Int32) (J : Nat → Nat → Int64) (R : Nat → Nat) (T : List ez_C) (a : Int32) (q88 : Int32) (cz kz : Nat) : ∀ G : ez_F, fx_up X 1 G 51 5 [.ref 0, .int a] [.int q88] (ev_hp ev_I0 ev_J0 ev_R0 []) cz kz = bif decide (¬ q88 = 0) then G 51 11 [.ref 0, .int a] [] (ev_hp ev_I0 ev_J0 ev_R0 []) cz kz else G 51 8 [.ref 0, .int a] [] (ev_hp ev_I0 ev_J0 ev_R0 []) cz kz := by
  intro G
  rfl
set_option maxRecDepth 100000 in
set_option maxHeartbeats 100000 in
theorem ef_there_r_r3 (X : ez_X) (I : Nat → Nat → Int32) (J : Nat → Nat → Int64) (R : Nat → Nat) (T : List ez_C) (a : Int32) (q88 : Int32) (cz kz : Nat) : ∀ G : ez_F, fx_up X 2 G 51 8 [.ref 0, .int a] [] (ev_hp ev_I0 ev_J0 ev_R0 []) cz kz = some (some (.int (-2)), (ev_hp ev_I0 ev_J0 ev_R0 []), cz, kz) := by
  intro G
  rfl
theorem ef_there_r (X : ez_X) (I : Nat → Nat → Int32) (J : Nat → Nat → Int64) (R : Nat → Nat) (T : List ez_C) (a : Int32) (ha : ev_wi a 0 24 = 0) : ev_W X 51 0 (ez_lay [.ref 0, .int a]) [] (ev_hp ev_I0 ev_J0 ev_R0 []) 0 0 (fun r h1 c1 k1 => ((¬ (¬ (((ev_wi a 0 ((25 : Int32) - (1 : Int32))))) = 0)) ∧ r = some (.int (-2)) ∧ h1 = (ev_hp ev_I0 ev_J0 ev_R0 []) ∧ c1 = 0 ∧ k1 = 0)) := by
  refine ev_call (ef_there_r_r1 X I J R T a _ _) (eg_isCell X ev_I0 ev_J0 ev_R0 [] a) ?_
  rintro r0 _ _ _ (⟨hr0, rfl, rfl, rfl⟩)
  obtain ⟨q88, hq88⟩ : ∃ z : Int32, ((ev_wi a 0 ((25 : Int32) - (1 : Int32)))) = z := ⟨_, rfl⟩
  have eq88 : r0 = some (.int q88) := hr0.trans (by subst hq88; rfl)
  subst eq88
  refine ev_if (ef_there_r_r2 X I J R T a q88 _ _) (fun b1 => ?_) (fun b1 => ?_)
  · replace b1 := of_decide_eq_true b1
    exact (b1 (by rw [← hq88]; exact ha)).elim
  · replace b1 := of_decide_eq_false b1
    refine ev_ret (ef_there_r_r3 X I J R T a q88 _ _) ?_
    subst hq88
    exact ⟨b1, rfl, rfl, rfl, rfl⟩
set_option maxRecDepth 100000 in
set_option maxHeartbeats 100000 in
theorem eh_there_r_r1 (X : ez_X) (I : Nat → Nat → Int32) (J : Nat → Nat → Int64) (R : Nat → Nat) (T : List ez_C) (a : Int32) (cz kz : Nat) : ∀ G : ez_F, fx_up X 3 G 227 0 [.ref 35, .int a] [] (ev_hp ev_I0 ev_J0 ev_R0 []) cz kz = ev_C G 200 [.ref 35, .int a] (ev_hp ev_I0 ev_J0 ev_R0 []) fun r h1 c1 k1 => G 227 5 [.ref 35, .int a] (r.toList ++ []) h1 (cz + c1) (kz + k1) := by
  intro G
  rfl
set_option maxRecDepth 100000 in
set_option maxHeartbeats 100000 in
theorem eh_there_r_r2 (X : ez_X) (I : Nat → Nat → Int32) (J : Nat → Nat → Int64) (R : Nat → Nat) (T : List ez_C) (a : Int32) (q89 : Int32) (cz kz : Nat) : ∀ G : ez_F, fx_up X 1 G 227 5 [.ref 35, .int a] [.int q89] (ev_hp ev_I0 ev_J0 ev_R0 []) cz kz = bif decide (¬ q89 = 0) then G 227 11 [.ref 35, .int a] [] (ev_hp ev_I0 ev_J0 ev_R0 []) cz kz else G 227 8 [.ref 35, .int a] [] (ev_hp ev_I0 ev_J0 ev_R0 []) cz kz := by
  intro G
  rfl
set_option maxRecDepth 100000 in
set_option maxHeartbeats 100000 in
theorem eh_there_r_r3 (X : ez_X) (I : Nat → Nat → Int32) (J : Nat → Nat → Int64) (R : Nat → Nat) (T : List ez_C) (a : Int32) (q89 : Int32) (cz kz : Nat) : ∀ G : ez_F, fx_up X 2 G 227 8 [.ref 35, .int a] [] (ev_hp ev_I0 ev_J0 ev_R0 []) cz kz = some (some (.int (-2)), (ev_hp ev_I0 ev_J0 ev_R0 []), cz, kz) := by
  intro G
  rfl
theorem eh_there_r (X : ez_X) (I : Nat → Nat → Int32) (J : Nat → Nat → Int64) (R : Nat → Nat) (T : List ez_C) (a : Int32) (ha : ev_wi a 0 24 = 0) : ev_W X 227 0 (ez_lay [.ref 35, .int a]) [] (ev_hp ev_I0 ev_J0 ev_R0 []) 0 0 (fun r h1 c1 k1 => ((¬ (¬ (((ev_il (a.toInt64) 0 (((((5 : Int32) * (5 : Int32))) - (1 : Int32)).toInt64)))) = 0)) ∧ r = some (.int (-2)) ∧ h1 = (ev_hp ev_I0 ev_J0 ev_R0 []) ∧ c1 = 0 ∧ k1 = 0)) := by
  refine ev_call (eh_there_r_r1 X I J R T a _ _) (em_isCell X ev_I0 ev_J0 ev_R0 [] a) ?_
  rintro r0 _ _ _ (⟨hr0, rfl, rfl, rfl⟩)
  obtain ⟨q89, hq89⟩ : ∃ z : Int32, ((ev_il (a.toInt64) 0 (((((5 : Int32) * (5 : Int32))) - (1 : Int32)).toInt64))) = z := ⟨_, rfl⟩
  have eq89 : r0 = some (.int q89) := hr0.trans (by subst hq89; rfl)
  subst eq89
  refine ev_if (eh_there_r_r2 X I J R T a q89 _ _) (fun b1 => ?_) (fun b1 => ?_)
  · replace b1 := of_decide_eq_true b1
    exact (b1 (by rw [← hq89]; exact ((ev_il_wi a 0 24).trans ha))).elim
  · replace b1 := of_decide_eq_false b1
    refine ev_ret (eh_there_r_r3 X I J R T a q89 _ _) ?_
    subst hq89
    exact ⟨b1, rfl, rfl, rfl, rfl⟩
set_option maxRecDepth 100000 in
set_option maxHeartbeats 100000 in
theorem eo_there_r_r1 (xs : Nat → Int32)  (cz kz : Nat) : ∀ G : ez_F, fx_up (4, xs) 2 G 241 683 [ez_scr, .ref 0, .ref 35, .int 0] [] (ev_hp ev_I0 ev_J0 ev_R0 []) cz kz = G 241 685 [ez_scr, .ref 0, .ref 35, .int 0] [ez_scr, .ref 0] (ev_hp ev_I0 ev_J0 ev_R0 []) cz kz := by
  intro G
  rfl
set_option maxRecDepth 100000 in
set_option maxHeartbeats 100000 in
theorem eo_there_r_r2 (xs : Nat → Int32)  (cz kz : Nat) : ∀ G : ez_F, fx_up (4, xs) 2 G 241 685 [ez_scr, .ref 0, .ref 35, .int 0] [ez_scr, .ref 0] (ev_hp ev_I0 ev_J0 ev_R0 []) cz kz = G 241 687 [ez_scr, .ref 0, .ref 35, .int 0] [.int 1, .int 0, ez_scr, .ref 0] (ev_hp ev_I0 ev_J0 ev_R0 []) cz kz := by
  intro G
  rfl
set_option maxRecDepth 100000 in
set_option maxHeartbeats 100000 in
theorem eo_there_r_r3 (xs : Nat → Int32)  (cz kz : Nat) : ∀ G : ez_F, fx_up (4, xs) 2 G 241 687 [ez_scr, .ref 0, .ref 35, .int 0] [.int 1, .int 0, ez_scr, .ref 0] (ev_hp ev_I0 ev_J0 ev_R0 []) cz kz = G 241 689 [ez_scr, .ref 0, .ref 35, .int 0] [.int (xs 1), .ref 0] (ev_hp ev_I0 ev_J0 ev_R0 []) cz kz := by
  intro G
  rfl
set_option maxRecDepth 100000 in
set_option maxHeartbeats 100000 in
theorem eo_there_r_r4 (xs : Nat → Int32)  (cz kz : Nat) : ∀ G : ez_F, fx_up (4, xs) 1 G 241 689 [ez_scr, .ref 0, .ref 35, .int 0] [.int (xs 1), .ref 0] (ev_hp ev_I0 ev_J0 ev_R0 []) cz kz = ev_C G 51 [.ref 0, .int (xs 1)] (ev_hp ev_I0 ev_J0 ev_R0 []) fun r h1 c1 k1 => G 241 692 [ez_scr, .ref 0, .ref 35, .int 0] (r.toList ++ []) h1 (cz + c1) (kz + k1) := by
  intro G
  rfl
set_option maxRecDepth 100000 in
set_option maxHeartbeats 100000 in
theorem eo_there_r_r5 (xs : Nat → Int32)  (cz kz : Nat) : ∀ G : ez_F, fx_up (4, xs) 2 G 241 692 [ez_scr, .ref 0, .ref 35, .int 0] [.int (-2)] (ev_hp ev_I0 ev_J0 ev_R0 []) cz kz = G 241 694 [ez_scr, .ref 0, .ref 35, .int 0] [ez_scr, .ref 35, .int (-2)] (ev_hp ev_I0 ev_J0 ev_R0 []) cz kz := by
  intro G
  rfl
set_option maxRecDepth 100000 in
set_option maxHeartbeats 100000 in
theorem eo_there_r_r6 (xs : Nat → Int32)  (cz kz : Nat) : ∀ G : ez_F, fx_up (4, xs) 2 G 241 694 [ez_scr, .ref 0, .ref 35, .int 0] [ez_scr, .ref 35, .int (-2)] (ev_hp ev_I0 ev_J0 ev_R0 []) cz kz = G 241 696 [ez_scr, .ref 0, .ref 35, .int 0] [.int 1, .int 0, ez_scr, .ref 35, .int (-2)] (ev_hp ev_I0 ev_J0 ev_R0 []) cz kz := by
  intro G
  rfl
set_option maxRecDepth 100000 in
set_option maxHeartbeats 100000 in
theorem eo_there_r_r7 (xs : Nat → Int32)  (cz kz : Nat) : ∀ G : ez_F, fx_up (4, xs) 2 G 241 696 [ez_scr, .ref 0, .ref 35, .int 0] [.int 1, .int 0, ez_scr, .ref 35, .int (-2)] (ev_hp ev_I0 ev_J0 ev_R0 []) cz kz = G 241 698 [ez_scr, .ref 0, .ref 35, .int 0] [.int (xs 1), .ref 35, .int (-2)] (ev_hp ev_I0 ev_J0 ev_R0 []) cz kz := by
  intro G
  rfl
set_option maxRecDepth 100000 in
set_option maxHeartbeats 100000 in
theorem eo_there_r_r8 (xs : Nat → Int32)  (cz kz : Nat) : ∀ G : ez_F, fx_up (4, xs) 1 G 241 698 [ez_scr, .ref 0, .ref 35, .int 0] [.int (xs 1), .ref 35, .int (-2)] (ev_hp ev_I0 ev_J0 ev_R0 []) cz kz = ev_C G 227 [.ref 35, .int (xs 1)] (ev_hp ev_I0 ev_J0 ev_R0 []) fun r h1 c1 k1 => G 241 701 [ez_scr, .ref 0, .ref 35, .int 0] (r.toList ++ [.int (-2)]) h1 (cz + c1) (kz + k1) := by
  intro G
  rfl
set_option maxRecDepth 100000 in
set_option maxHeartbeats 100000 in
theorem eo_there_r_r9 (xs : Nat → Int32)  (cz kz : Nat) : ∀ G : ez_F, fx_up (4, xs) 2 G 241 701 [ez_scr, .ref 0, .ref 35, .int 0] [.int (-2), .int (-2)] (ev_hp ev_I0 ev_J0 ev_R0 []) cz kz = G 241 1078 [ez_scr, .ref 0, .ref 35, .int 4] [] (ev_hp ev_I0 ev_J0 ev_R0 []) cz kz := by
  intro G
  rfl
set_option maxRecDepth 100000 in
set_option maxHeartbeats 100000 in
theorem eo_there_r_r10 (xs : Nat → Int32)  (cz kz : Nat) : ∀ G : ez_F, fx_up (4, xs) 2 G 241 1078 [ez_scr, .ref 0, .ref 35, .int 4] [] (ev_hp ev_I0 ev_J0 ev_R0 []) cz kz = G 241 19 [ez_scr, .ref 0, .ref 35, .int 4] [.int 4] (ev_hp ev_I0 ev_J0 ev_R0 []) cz kz := by
  intro G
  rfl
set_option maxRecDepth 100000 in
set_option maxHeartbeats 100000 in
theorem eo_there_r_r11 (xs : Nat → Int32)  (cz kz : Nat) : ∀ G : ez_F, fx_up (4, xs) 2 G 241 19 [ez_scr, .ref 0, .ref 35, .int 4] [.int 4] (ev_hp ev_I0 ev_J0 ev_R0 []) cz kz = G 241 21 [ez_scr, .ref 0, .ref 35, .int 4] [.int 4, .int 4] (ev_hp ev_I0 ev_J0 ev_R0 []) cz kz := by
  intro G
  rfl
set_option maxRecDepth 100000 in
set_option maxHeartbeats 100000 in
theorem eo_there_r_r12 (xs : Nat → Int32)  (cz kz : Nat) : ∀ G : ez_F, fx_up (4, xs) 2 G 241 21 [ez_scr, .ref 0, .ref 35, .int 4] [.int 4, .int 4] (ev_hp ev_I0 ev_J0 ev_R0 []) cz kz = G 241 23 [ez_scr, .ref 0, .ref 35, .int 4] [.int 0, .int 4] (ev_hp ev_I0 ev_J0 ev_R0 []) cz kz := by
  intro G
  rfl
set_option maxRecDepth 100000 in
set_option maxHeartbeats 100000 in
theorem eo_there_r_r13 (xs : Nat → Int32)  (cz kz : Nat) : ∀ G : ez_F, fx_up (4, xs) 2 G 241 23 [ez_scr, .ref 0, .ref 35, .int 4] [.int 0, .int 4] (ev_hp ev_I0 ev_J0 ev_R0 []) cz kz = G 241 1082 [ez_scr, .ref 0, .ref 35, .int 4] [.int 1] (ev_hp ev_I0 ev_J0 ev_R0 []) cz kz := by
  intro G
  rfl
set_option maxRecDepth 100000 in
set_option maxHeartbeats 100000 in
theorem eo_there_r_r14 (xs : Nat → Int32)  (cz kz : Nat) : ∀ G : ez_F, fx_up (4, xs) 1 G 241 1082 [ez_scr, .ref 0, .ref 35, .int 4] [.int 1] (ev_hp ev_I0 ev_J0 ev_R0 []) cz kz = some (some (.int 1), (ev_hp ev_I0 ev_J0 ev_R0 []), cz, kz) := by
  intro G
  rfl
theorem eo_there_r (xs : Nat → Int32) (ha : ev_wi (xs 1) 0 24 = 0) : ev_P1 (4, xs) 683 := by
  refine ev_seg (eo_there_r_r1 xs  _ _) ?_
  refine ev_seg (eo_there_r_r2 xs  _ _) ?_
  refine ev_seg (eo_there_r_r3 xs  _ _) ?_
  refine ev_call (eo_there_r_r4 xs  _ _) (ef_there_r (4, xs) ev_I0 ev_J0 ev_R0 [] (xs 1) ha) ?_
  rintro r0 _ _ _ (⟨d47, rfl, rfl, rfl, rfl⟩)
  refine ev_seg (eo_there_r_r5 xs  _ _) ?_
  refine ev_seg (eo_there_r_r6 xs  _ _) ?_
  refine ev_seg (eo_there_r_r7 xs  _ _) ?_
  refine ev_call (eo_there_r_r8 xs  _ _) (eh_there_r (4, xs) ev_I0 ev_J0 ev_R0 [] (xs 1) ha) ?_
  rintro r0 _ _ _ (⟨d48, rfl, rfl, rfl, rfl⟩)
  refine ev_seg (eo_there_r_r9 xs  _ _) ?_
  refine ev_seg (eo_there_r_r10 xs  _ _) ?_
  refine ev_seg (eo_there_r_r11 xs  _ _) ?_
  refine ev_seg (eo_there_r_r12 xs  _ _) ?_
  refine ev_seg (eo_there_r_r13 xs  _ _) ?_
  refine ev_ret (eo_there_r_r14 xs  _ _) ?_
  exact ⟨rfl, by omega, by omega⟩
set_option maxRecDepth 100000 in
set_option maxHeartbeats 100000 in
theorem ef_sure_r_r1 (X : ez_X) (I : Nat → Nat → Int32) (J : Nat → Nat → Int64) (R : Nat → Nat) (T : List ez_C) (a : Int32) (cz kz : Nat) : ∀ G : ez_F, fx_up X 4 G 48 0 [.ref 0, .int a] [] (ev_hp ev_I0 ev_J0 ev_R0 []) cz kz = ev_C G 55 [.int a, .int 0, .int 1] (ev_hp ev_I0 ev_J0 ev_R0 []) fun r h1 c1 k1 => G 48 6 [.ref 0, .int a] (r.toList ++ []) h1 (cz + c1) (kz + k1) := by
  intro G
  rfl
set_option maxRecDepth 100000 in
set_option maxHeartbeats 100000 in
theorem ef_sure_r_r2 (X : ez_X) (I : Nat → Nat → Int32) (J : Nat → Nat → Int64) (R : Nat → Nat) (T : List ez_C) (a : Int32) (q90 : Int32) (cz kz : Nat) : ∀ G : ez_F, fx_up X 1 G 48 6 [.ref 0, .int a] [.int q90] (ev_hp ev_I0 ev_J0 ev_R0 []) cz kz = bif decide (¬ q90 = 0) then G 48 13 [.ref 0, .int a] [] (ev_hp ev_I0 ev_J0 ev_R0 []) cz kz else G 48 9 [.ref 0, .int a] [] (ev_hp ev_I0 ev_J0 ev_R0 []) cz kz := by
  intro G
  rfl
set_option maxRecDepth 100000 in
set_option maxHeartbeats 100000 in
theorem ef_sure_r_r3 (X : ez_X) (I : Nat → Nat → Int32) (J : Nat → Nat → Int64) (R : Nat → Nat) (T : List ez_C) (a : Int32) (q90 : Int32) (cz kz : Nat) : ∀ G : ez_F, fx_up X 2 G 48 9 [.ref 0, .int a] [] (ev_hp ev_I0 ev_J0 ev_R0 []) cz kz = some (some (.long (-3)), (ev_hp ev_I0 ev_J0 ev_R0 []), cz, kz) := by
  intro G
  rfl
theorem ef_sure_r (X : ez_X) (I : Nat → Nat → Int32) (J : Nat → Nat → Int64) (R : Nat → Nat) (T : List ez_C) (a : Int32) (ha : ev_wi a 0 1 = 0) : ev_W X 48 0 (ez_lay [.ref 0, .int a]) [] (ev_hp ev_I0 ev_J0 ev_R0 []) 0 0 (fun r h1 c1 k1 => ((¬ (¬ ((ev_wi a 0 1)) = 0)) ∧ r = some (.long (-3)) ∧ h1 = (ev_hp ev_I0 ev_J0 ev_R0 []) ∧ c1 = 0 ∧ k1 = 0)) := by
  refine ev_call (ef_sure_r_r1 X I J R T a _ _) (ec_within X (ev_hp ev_I0 ev_J0 ev_R0 []) a 0 1) ?_
  rintro _ _ _ _ ⟨rfl, rfl, rfl, rfl⟩
  generalize hq90 : (ev_wi a 0 1) = q90
  refine ev_if (ef_sure_r_r2 X I J R T a q90 _ _) (fun b1 => ?_) (fun b1 => ?_)
  · replace b1 := of_decide_eq_true b1
    exact (b1 (by rw [← hq90]; exact ha)).elim
  · replace b1 := of_decide_eq_false b1
    refine ev_ret (ef_sure_r_r3 X I J R T a q90 _ _) ?_
    subst hq90
    exact ⟨b1, rfl, rfl, rfl, rfl⟩
set_option maxRecDepth 100000 in
set_option maxHeartbeats 100000 in
theorem eh_sure_r_r1 (X : ez_X) (I : Nat → Nat → Int32) (J : Nat → Nat → Int64) (R : Nat → Nat) (T : List ez_C) (a : Int32) (cz kz : Nat) : ∀ G : ez_F, fx_up X 5 G 225 0 [.ref 35, .int a] [] (ev_hp ev_I0 ev_J0 ev_R0 []) cz kz = ev_C G 198 [.long (a.toInt64), .long 0, .long 1] (ev_hp ev_I0 ev_J0 ev_R0 []) fun r h1 c1 k1 => G 225 7 [.ref 35, .int a] (r.toList ++ []) h1 (cz + c1) (kz + k1) := by
  intro G
  rfl
set_option maxRecDepth 100000 in
set_option maxHeartbeats 100000 in
theorem eh_sure_r_r2 (X : ez_X) (I : Nat → Nat → Int32) (J : Nat → Nat → Int64) (R : Nat → Nat) (T : List ez_C) (a : Int32) (q91 : Int32) (cz kz : Nat) : ∀ G : ez_F, fx_up X 1 G 225 7 [.ref 35, .int a] [.int q91] (ev_hp ev_I0 ev_J0 ev_R0 []) cz kz = bif decide (¬ q91 = 0) then G 225 14 [.ref 35, .int a] [] (ev_hp ev_I0 ev_J0 ev_R0 []) cz kz else G 225 10 [.ref 35, .int a] [] (ev_hp ev_I0 ev_J0 ev_R0 []) cz kz := by
  intro G
  rfl
set_option maxRecDepth 100000 in
set_option maxHeartbeats 100000 in
theorem eh_sure_r_r3 (X : ez_X) (I : Nat → Nat → Int32) (J : Nat → Nat → Int64) (R : Nat → Nat) (T : List ez_C) (a : Int32) (q91 : Int32) (cz kz : Nat) : ∀ G : ez_F, fx_up X 2 G 225 10 [.ref 35, .int a] [] (ev_hp ev_I0 ev_J0 ev_R0 []) cz kz = some (some (.long (-3)), (ev_hp ev_I0 ev_J0 ev_R0 []), cz, kz) := by
  intro G
  rfl
theorem eh_sure_r (X : ez_X) (I : Nat → Nat → Int32) (J : Nat → Nat → Int64) (R : Nat → Nat) (T : List ez_C) (a : Int32) (ha : ev_wi a 0 1 = 0) : ev_W X 225 0 (ez_lay [.ref 35, .int a]) [] (ev_hp ev_I0 ev_J0 ev_R0 []) 0 0 (fun r h1 c1 k1 => ((¬ (¬ ((ev_il (a.toInt64) 0 1)) = 0)) ∧ r = some (.long (-3)) ∧ h1 = (ev_hp ev_I0 ev_J0 ev_R0 []) ∧ c1 = 0 ∧ k1 = 0)) := by
  refine ev_call (eh_sure_r_r1 X I J R T a _ _) (ec_in X (ev_hp ev_I0 ev_J0 ev_R0 []) (a.toInt64) 0 1) ?_
  rintro _ _ _ _ ⟨rfl, rfl, rfl, rfl⟩
  generalize hq91 : (ev_il (a.toInt64) 0 1) = q91
  refine ev_if (eh_sure_r_r2 X I J R T a q91 _ _) (fun b1 => ?_) (fun b1 => ?_)
  · replace b1 := of_decide_eq_true b1
    exact (b1 (by rw [← hq91]; exact ((ev_il_wi a 0 1).trans ha))).elim
  · replace b1 := of_decide_eq_false b1
    refine ev_ret (eh_sure_r_r3 X I J R T a q91 _ _) ?_
    subst hq91
    exact ⟨b1, rfl, rfl, rfl, rfl⟩
set_option maxRecDepth 100000 in
set_option maxHeartbeats 100000 in
theorem eo_sure_r_r1 (xs : Nat → Int32)  (cz kz : Nat) : ∀ G : ez_F, fx_up (4, xs) 2 G 241 706 [ez_scr, .ref 0, .ref 35, .int 0] [] (ev_hp ev_I0 ev_J0 ev_R0 []) cz kz = G 241 708 [ez_scr, .ref 0, .ref 35, .int 0] [ez_scr, .ref 0] (ev_hp ev_I0 ev_J0 ev_R0 []) cz kz := by
  intro G
  rfl
set_option maxRecDepth 100000 in
set_option maxHeartbeats 100000 in
theorem eo_sure_r_r2 (xs : Nat → Int32)  (cz kz : Nat) : ∀ G : ez_F, fx_up (4, xs) 2 G 241 708 [ez_scr, .ref 0, .ref 35, .int 0] [ez_scr, .ref 0] (ev_hp ev_I0 ev_J0 ev_R0 []) cz kz = G 241 710 [ez_scr, .ref 0, .ref 35, .int 0] [.int 1, .int 0, ez_scr, .ref 0] (ev_hp ev_I0 ev_J0 ev_R0 []) cz kz := by
  intro G
  rfl
set_option maxRecDepth 100000 in
set_option maxHeartbeats 100000 in
theorem eo_sure_r_r3 (xs : Nat → Int32)  (cz kz : Nat) : ∀ G : ez_F, fx_up (4, xs) 2 G 241 710 [ez_scr, .ref 0, .ref 35, .int 0] [.int 1, .int 0, ez_scr, .ref 0] (ev_hp ev_I0 ev_J0 ev_R0 []) cz kz = G 241 712 [ez_scr, .ref 0, .ref 35, .int 0] [.int (xs 1), .ref 0] (ev_hp ev_I0 ev_J0 ev_R0 []) cz kz := by
  intro G
  rfl
set_option maxRecDepth 100000 in
set_option maxHeartbeats 100000 in
theorem eo_sure_r_r4 (xs : Nat → Int32)  (cz kz : Nat) : ∀ G : ez_F, fx_up (4, xs) 1 G 241 712 [ez_scr, .ref 0, .ref 35, .int 0] [.int (xs 1), .ref 0] (ev_hp ev_I0 ev_J0 ev_R0 []) cz kz = ev_C G 48 [.ref 0, .int (xs 1)] (ev_hp ev_I0 ev_J0 ev_R0 []) fun r h1 c1 k1 => G 241 715 [ez_scr, .ref 0, .ref 35, .int 0] (r.toList ++ []) h1 (cz + c1) (kz + k1) := by
  intro G
  rfl
set_option maxRecDepth 100000 in
set_option maxHeartbeats 100000 in
theorem eo_sure_r_r5 (xs : Nat → Int32)  (cz kz : Nat) : ∀ G : ez_F, fx_up (4, xs) 2 G 241 715 [ez_scr, .ref 0, .ref 35, .int 0] [.long (-3)] (ev_hp ev_I0 ev_J0 ev_R0 []) cz kz = G 241 717 [ez_scr, .ref 0, .ref 35, .int 0] [ez_scr, .ref 35, .long (-3)] (ev_hp ev_I0 ev_J0 ev_R0 []) cz kz := by
  intro G
  rfl
set_option maxRecDepth 100000 in
set_option maxHeartbeats 100000 in
theorem eo_sure_r_r6 (xs : Nat → Int32)  (cz kz : Nat) : ∀ G : ez_F, fx_up (4, xs) 2 G 241 717 [ez_scr, .ref 0, .ref 35, .int 0] [ez_scr, .ref 35, .long (-3)] (ev_hp ev_I0 ev_J0 ev_R0 []) cz kz = G 241 719 [ez_scr, .ref 0, .ref 35, .int 0] [.int 1, .int 0, ez_scr, .ref 35, .long (-3)] (ev_hp ev_I0 ev_J0 ev_R0 []) cz kz := by
  intro G
  rfl
set_option maxRecDepth 100000 in
set_option maxHeartbeats 100000 in
theorem eo_sure_r_r7 (xs : Nat → Int32)  (cz kz : Nat) : ∀ G : ez_F, fx_up (4, xs) 2 G 241 719 [ez_scr, .ref 0, .ref 35, .int 0] [.int 1, .int 0, ez_scr, .ref 35, .long (-3)] (ev_hp ev_I0 ev_J0 ev_R0 []) cz kz = G 241 721 [ez_scr, .ref 0, .ref 35, .int 0] [.int (xs 1), .ref 35, .long (-3)] (ev_hp ev_I0 ev_J0 ev_R0 []) cz kz := by
  intro G
  rfl
set_option maxRecDepth 100000 in
set_option maxHeartbeats 100000 in
theorem eo_sure_r_r8 (xs : Nat → Int32)  (cz kz : Nat) : ∀ G : ez_F, fx_up (4, xs) 1 G 241 721 [ez_scr, .ref 0, .ref 35, .int 0] [.int (xs 1), .ref 35, .long (-3)] (ev_hp ev_I0 ev_J0 ev_R0 []) cz kz = ev_C G 225 [.ref 35, .int (xs 1)] (ev_hp ev_I0 ev_J0 ev_R0 []) fun r h1 c1 k1 => G 241 724 [ez_scr, .ref 0, .ref 35, .int 0] (r.toList ++ [.long (-3)]) h1 (cz + c1) (kz + k1) := by
  intro G
  rfl
set_option maxRecDepth 100000 in
set_option maxHeartbeats 100000 in
theorem eo_sure_r_r9 (xs : Nat → Int32)  (cz kz : Nat) : ∀ G : ez_F, fx_up (4, xs) 2 G 241 724 [ez_scr, .ref 0, .ref 35, .int 0] [.long (-3), .long (-3)] (ev_hp ev_I0 ev_J0 ev_R0 []) cz kz = G 241 1075 [ez_scr, .ref 0, .ref 35, .int 0] [] (ev_hp ev_I0 ev_J0 ev_R0 []) cz kz := by
  intro G
  rfl
set_option maxRecDepth 100000 in
set_option maxHeartbeats 100000 in
theorem eo_sure_r_r10 (xs : Nat → Int32)  (cz kz : Nat) : ∀ G : ez_F, fx_up (4, xs) 2 G 241 1075 [ez_scr, .ref 0, .ref 35, .int 0] [] (ev_hp ev_I0 ev_J0 ev_R0 []) cz kz = G 241 18 [ez_scr, .ref 0, .ref 35, .int 4] [] (ev_hp ev_I0 ev_J0 ev_R0 []) cz kz := by
  intro G
  rfl
set_option maxRecDepth 100000 in
set_option maxHeartbeats 100000 in
theorem eo_sure_r_r11 (xs : Nat → Int32)  (cz kz : Nat) : ∀ G : ez_F, fx_up (4, xs) 2 G 241 18 [ez_scr, .ref 0, .ref 35, .int 4] [] (ev_hp ev_I0 ev_J0 ev_R0 []) cz kz = G 241 20 [ez_scr, .ref 0, .ref 35, .int 4] [ez_scr, .int 4] (ev_hp ev_I0 ev_J0 ev_R0 []) cz kz := by
  intro G
  rfl
set_option maxRecDepth 100000 in
set_option maxHeartbeats 100000 in
theorem eo_sure_r_r12 (xs : Nat → Int32)  (cz kz : Nat) : ∀ G : ez_F, fx_up (4, xs) 2 G 241 20 [ez_scr, .ref 0, .ref 35, .int 4] [ez_scr, .int 4] (ev_hp ev_I0 ev_J0 ev_R0 []) cz kz = G 241 22 [ez_scr, .ref 0, .ref 35, .int 4] [.int 4, .int 4, .int 4] (ev_hp ev_I0 ev_J0 ev_R0 []) cz kz := by
  intro G
  rfl
set_option maxRecDepth 100000 in
set_option maxHeartbeats 100000 in
theorem eo_sure_r_r13 (xs : Nat → Int32)  (cz kz : Nat) : ∀ G : ez_F, fx_up (4, xs) 2 G 241 22 [ez_scr, .ref 0, .ref 35, .int 4] [.int 4, .int 4, .int 4] (ev_hp ev_I0 ev_J0 ev_R0 []) cz kz = G 241 1081 [ez_scr, .ref 0, .ref 35, .int 4] [] (ev_hp ev_I0 ev_J0 ev_R0 []) cz kz := by
  intro G
  rfl
set_option maxRecDepth 100000 in
set_option maxHeartbeats 100000 in
theorem eo_sure_r_r14 (xs : Nat → Int32)  (cz kz : Nat) : ∀ G : ez_F, fx_up (4, xs) 2 G 241 1081 [ez_scr, .ref 0, .ref 35, .int 4] [] (ev_hp ev_I0 ev_J0 ev_R0 []) cz kz = some (some (.int 1), (ev_hp ev_I0 ev_J0 ev_R0 []), cz, kz) := by
  intro G
  rfl
theorem eo_sure_r (xs : Nat → Int32) (ha : ev_wi (xs 1) 0 1 = 0) : ev_P1 (4, xs) 706 := by
  refine ev_seg (eo_sure_r_r1 xs  _ _) ?_
  refine ev_seg (eo_sure_r_r2 xs  _ _) ?_
  refine ev_seg (eo_sure_r_r3 xs  _ _) ?_
  refine ev_call (eo_sure_r_r4 xs  _ _) (ef_sure_r (4, xs) ev_I0 ev_J0 ev_R0 [] (xs 1) ha) ?_
  rintro r0 _ _ _ (⟨d49, rfl, rfl, rfl, rfl⟩)
  refine ev_seg (eo_sure_r_r5 xs  _ _) ?_
  refine ev_seg (eo_sure_r_r6 xs  _ _) ?_
  refine ev_seg (eo_sure_r_r7 xs  _ _) ?_
  refine ev_call (eo_sure_r_r8 xs  _ _) (eh_sure_r (4, xs) ev_I0 ev_J0 ev_R0 [] (xs 1) ha) ?_
  rintro r0 _ _ _ (⟨d50, rfl, rfl, rfl, rfl⟩)
  refine ev_seg (eo_sure_r_r9 xs  _ _) ?_
  refine ev_seg (eo_sure_r_r10 xs  _ _) ?_
  refine ev_seg (eo_sure_r_r11 xs  _ _) ?_
  refine ev_seg (eo_sure_r_r12 xs  _ _) ?_
  refine ev_seg (eo_sure_r_r13 xs  _ _) ?_
  refine ev_ret (eo_sure_r_r14 xs  _ _) ?_
  exact ⟨rfl, by omega, by omega⟩
set_option maxRecDepth 100000 in
set_option maxHeartbeats 100000 in
theorem ef_best_r_r1 (X : ez_X) (I : Nat → Nat → Int32) (J : Nat → Nat → Int64) (R : Nat → Nat) (T : List ez_C) (a : Int32) (cz kz : Nat) : ∀ G : ez_F, fx_up X 4 G 6 0 [.ref 0, .int a] [] (ev_hp ev_I0 ev_J0 ev_R0 []) cz kz = ev_C G 55 [.int a, .int 0, .int 1] (ev_hp ev_I0 ev_J0 ev_R0 []) fun r h1 c1 k1 => G 6 6 [.ref 0, .int a] (r.toList ++ []) h1 (cz + c1) (kz + k1) := by
  intro G
  rfl
set_option maxRecDepth 100000 in
set_option maxHeartbeats 100000 in
theorem ef_best_r_r2 (X : ez_X) (I : Nat → Nat → Int32) (J : Nat → Nat → Int64) (R : Nat → Nat) (T : List ez_C) (a : Int32) (q92 : Int32) (cz kz : Nat) : ∀ G : ez_F, fx_up X 1 G 6 6 [.ref 0, .int a] [.int q92] (ev_hp ev_I0 ev_J0 ev_R0 []) cz kz = bif decide (¬ q92 = 0) then G 6 12 [.ref 0, .int a] [] (ev_hp ev_I0 ev_J0 ev_R0 []) cz kz else G 6 9 [.ref 0, .int a] [] (ev_hp ev_I0 ev_J0 ev_R0 []) cz kz := by
  intro G
  rfl
set_option maxRecDepth 100000 in
set_option maxHeartbeats 100000 in
theorem ef_best_r_r3 (X : ez_X) (I : Nat → Nat → Int32) (J : Nat → Nat → Int64) (R : Nat → Nat) (T : List ez_C) (a : Int32) (q92 : Int32) (cz kz : Nat) : ∀ G : ez_F, fx_up X 2 G 6 9 [.ref 0, .int a] [] (ev_hp ev_I0 ev_J0 ev_R0 []) cz kz = some (some (.int (-3)), (ev_hp ev_I0 ev_J0 ev_R0 []), cz, kz) := by
  intro G
  rfl
theorem ef_best_r (X : ez_X) (I : Nat → Nat → Int32) (J : Nat → Nat → Int64) (R : Nat → Nat) (T : List ez_C) (a : Int32) (ha : ev_wi a 0 1 = 0) : ev_W X 6 0 (ez_lay [.ref 0, .int a]) [] (ev_hp ev_I0 ev_J0 ev_R0 []) 0 0 (fun r h1 c1 k1 => ((¬ (¬ ((ev_wi a 0 1)) = 0)) ∧ r = some (.int (-3)) ∧ h1 = (ev_hp ev_I0 ev_J0 ev_R0 []) ∧ c1 = 0 ∧ k1 = 0)) := by
  refine ev_call (ef_best_r_r1 X I J R T a _ _) (ec_within X (ev_hp ev_I0 ev_J0 ev_R0 []) a 0 1) ?_
  rintro _ _ _ _ ⟨rfl, rfl, rfl, rfl⟩
  generalize hq92 : (ev_wi a 0 1) = q92
  refine ev_if (ef_best_r_r2 X I J R T a q92 _ _) (fun b1 => ?_) (fun b1 => ?_)
  · replace b1 := of_decide_eq_true b1
    exact (b1 (by rw [← hq92]; exact ha)).elim
  · replace b1 := of_decide_eq_false b1
    refine ev_ret (ef_best_r_r3 X I J R T a q92 _ _) ?_
    subst hq92
    exact ⟨b1, rfl, rfl, rfl, rfl⟩
set_option maxRecDepth 100000 in
set_option maxHeartbeats 100000 in
theorem eh_best_r_r1 (X : ez_X) (I : Nat → Nat → Int32) (J : Nat → Nat → Int64) (R : Nat → Nat) (T : List ez_C) (a : Int32) (cz kz : Nat) : ∀ G : ez_F, fx_up X 5 G 169 0 [.ref 35, .int a] [] (ev_hp ev_I0 ev_J0 ev_R0 []) cz kz = ev_C G 198 [.long (a.toInt64), .long 0, .long 1] (ev_hp ev_I0 ev_J0 ev_R0 []) fun r h1 c1 k1 => G 169 7 [.ref 35, .int a] (r.toList ++ []) h1 (cz + c1) (kz + k1) := by
  intro G
  rfl
set_option maxRecDepth 100000 in
set_option maxHeartbeats 100000 in
theorem eh_best_r_r2 (X : ez_X) (I : Nat → Nat → Int32) (J : Nat → Nat → Int64) (R : Nat → Nat) (T : List ez_C) (a : Int32) (q93 : Int32) (cz kz : Nat) : ∀ G : ez_F, fx_up X 1 G 169 7 [.ref 35, .int a] [.int q93] (ev_hp ev_I0 ev_J0 ev_R0 []) cz kz = bif decide (¬ q93 = 0) then G 169 13 [.ref 35, .int a] [] (ev_hp ev_I0 ev_J0 ev_R0 []) cz kz else G 169 10 [.ref 35, .int a] [] (ev_hp ev_I0 ev_J0 ev_R0 []) cz kz := by
  intro G
  rfl
set_option maxRecDepth 100000 in
set_option maxHeartbeats 100000 in
theorem eh_best_r_r3 (X : ez_X) (I : Nat → Nat → Int32) (J : Nat → Nat → Int64) (R : Nat → Nat) (T : List ez_C) (a : Int32) (q93 : Int32) (cz kz : Nat) : ∀ G : ez_F, fx_up X 2 G 169 10 [.ref 35, .int a] [] (ev_hp ev_I0 ev_J0 ev_R0 []) cz kz = some (some (.int (-3)), (ev_hp ev_I0 ev_J0 ev_R0 []), cz, kz) := by
  intro G
  rfl
theorem eh_best_r (X : ez_X) (I : Nat → Nat → Int32) (J : Nat → Nat → Int64) (R : Nat → Nat) (T : List ez_C) (a : Int32) (ha : ev_wi a 0 1 = 0) : ev_W X 169 0 (ez_lay [.ref 35, .int a]) [] (ev_hp ev_I0 ev_J0 ev_R0 []) 0 0 (fun r h1 c1 k1 => ((¬ (¬ ((ev_il (a.toInt64) 0 1)) = 0)) ∧ r = some (.int (-3)) ∧ h1 = (ev_hp ev_I0 ev_J0 ev_R0 []) ∧ c1 = 0 ∧ k1 = 0)) := by
  refine ev_call (eh_best_r_r1 X I J R T a _ _) (ec_in X (ev_hp ev_I0 ev_J0 ev_R0 []) (a.toInt64) 0 1) ?_
  rintro _ _ _ _ ⟨rfl, rfl, rfl, rfl⟩
  generalize hq93 : (ev_il (a.toInt64) 0 1) = q93
  refine ev_if (eh_best_r_r2 X I J R T a q93 _ _) (fun b1 => ?_) (fun b1 => ?_)
  · replace b1 := of_decide_eq_true b1
    exact (b1 (by rw [← hq93]; exact ((ev_il_wi a 0 1).trans ha))).elim
  · replace b1 := of_decide_eq_false b1
    refine ev_ret (eh_best_r_r3 X I J R T a q93 _ _) ?_
    subst hq93
    exact ⟨b1, rfl, rfl, rfl, rfl⟩
set_option maxRecDepth 100000 in
set_option maxHeartbeats 100000 in
theorem eo_best_r_r1 (xs : Nat → Int32)  (cz kz : Nat) : ∀ G : ez_F, fx_up (4, xs) 2 G 241 763 [ez_scr, .ref 0, .ref 35, .int 0] [] (ev_hp ev_I0 ev_J0 ev_R0 []) cz kz = G 241 765 [ez_scr, .ref 0, .ref 35, .int 0] [ez_scr, .ref 0] (ev_hp ev_I0 ev_J0 ev_R0 []) cz kz := by
  intro G
  rfl
set_option maxRecDepth 100000 in
set_option maxHeartbeats 100000 in
theorem eo_best_r_r2 (xs : Nat → Int32)  (cz kz : Nat) : ∀ G : ez_F, fx_up (4, xs) 2 G 241 765 [ez_scr, .ref 0, .ref 35, .int 0] [ez_scr, .ref 0] (ev_hp ev_I0 ev_J0 ev_R0 []) cz kz = G 241 767 [ez_scr, .ref 0, .ref 35, .int 0] [.int 1, .int 0, ez_scr, .ref 0] (ev_hp ev_I0 ev_J0 ev_R0 []) cz kz := by
  intro G
  rfl
set_option maxRecDepth 100000 in
set_option maxHeartbeats 100000 in
theorem eo_best_r_r3 (xs : Nat → Int32)  (cz kz : Nat) : ∀ G : ez_F, fx_up (4, xs) 2 G 241 767 [ez_scr, .ref 0, .ref 35, .int 0] [.int 1, .int 0, ez_scr, .ref 0] (ev_hp ev_I0 ev_J0 ev_R0 []) cz kz = G 241 769 [ez_scr, .ref 0, .ref 35, .int 0] [.int (xs 1), .ref 0] (ev_hp ev_I0 ev_J0 ev_R0 []) cz kz := by
  intro G
  rfl
set_option maxRecDepth 100000 in
set_option maxHeartbeats 100000 in
theorem eo_best_r_r4 (xs : Nat → Int32)  (cz kz : Nat) : ∀ G : ez_F, fx_up (4, xs) 1 G 241 769 [ez_scr, .ref 0, .ref 35, .int 0] [.int (xs 1), .ref 0] (ev_hp ev_I0 ev_J0 ev_R0 []) cz kz = ev_C G 6 [.ref 0, .int (xs 1)] (ev_hp ev_I0 ev_J0 ev_R0 []) fun r h1 c1 k1 => G 241 772 [ez_scr, .ref 0, .ref 35, .int 0] (r.toList ++ []) h1 (cz + c1) (kz + k1) := by
  intro G
  rfl
set_option maxRecDepth 100000 in
set_option maxHeartbeats 100000 in
theorem eo_best_r_r5 (xs : Nat → Int32)  (cz kz : Nat) : ∀ G : ez_F, fx_up (4, xs) 2 G 241 772 [ez_scr, .ref 0, .ref 35, .int 0] [.int (-3)] (ev_hp ev_I0 ev_J0 ev_R0 []) cz kz = G 241 774 [ez_scr, .ref 0, .ref 35, .int 0] [ez_scr, .ref 35, .int (-3)] (ev_hp ev_I0 ev_J0 ev_R0 []) cz kz := by
  intro G
  rfl
set_option maxRecDepth 100000 in
set_option maxHeartbeats 100000 in
theorem eo_best_r_r6 (xs : Nat → Int32)  (cz kz : Nat) : ∀ G : ez_F, fx_up (4, xs) 2 G 241 774 [ez_scr, .ref 0, .ref 35, .int 0] [ez_scr, .ref 35, .int (-3)] (ev_hp ev_I0 ev_J0 ev_R0 []) cz kz = G 241 776 [ez_scr, .ref 0, .ref 35, .int 0] [.int 1, .int 0, ez_scr, .ref 35, .int (-3)] (ev_hp ev_I0 ev_J0 ev_R0 []) cz kz := by
  intro G
  rfl
set_option maxRecDepth 100000 in
set_option maxHeartbeats 100000 in
theorem eo_best_r_r7 (xs : Nat → Int32)  (cz kz : Nat) : ∀ G : ez_F, fx_up (4, xs) 2 G 241 776 [ez_scr, .ref 0, .ref 35, .int 0] [.int 1, .int 0, ez_scr, .ref 35, .int (-3)] (ev_hp ev_I0 ev_J0 ev_R0 []) cz kz = G 241 778 [ez_scr, .ref 0, .ref 35, .int 0] [.int (xs 1), .ref 35, .int (-3)] (ev_hp ev_I0 ev_J0 ev_R0 []) cz kz := by
  intro G
  rfl
set_option maxRecDepth 100000 in
set_option maxHeartbeats 100000 in
theorem eo_best_r_r8 (xs : Nat → Int32)  (cz kz : Nat) : ∀ G : ez_F, fx_up (4, xs) 1 G 241 778 [ez_scr, .ref 0, .ref 35, .int 0] [.int (xs 1), .ref 35, .int (-3)] (ev_hp ev_I0 ev_J0 ev_R0 []) cz kz = ev_C G 169 [.ref 35, .int (xs 1)] (ev_hp ev_I0 ev_J0 ev_R0 []) fun r h1 c1 k1 => G 241 781 [ez_scr, .ref 0, .ref 35, .int 0] (r.toList ++ [.int (-3)]) h1 (cz + c1) (kz + k1) := by
  intro G
  rfl
set_option maxRecDepth 100000 in
set_option maxHeartbeats 100000 in
theorem eo_best_r_r9 (xs : Nat → Int32)  (cz kz : Nat) : ∀ G : ez_F, fx_up (4, xs) 2 G 241 781 [ez_scr, .ref 0, .ref 35, .int 0] [.int (-3), .int (-3)] (ev_hp ev_I0 ev_J0 ev_R0 []) cz kz = G 241 1078 [ez_scr, .ref 0, .ref 35, .int 4] [] (ev_hp ev_I0 ev_J0 ev_R0 []) cz kz := by
  intro G
  rfl
set_option maxRecDepth 100000 in
set_option maxHeartbeats 100000 in
theorem eo_best_r_r10 (xs : Nat → Int32)  (cz kz : Nat) : ∀ G : ez_F, fx_up (4, xs) 2 G 241 1078 [ez_scr, .ref 0, .ref 35, .int 4] [] (ev_hp ev_I0 ev_J0 ev_R0 []) cz kz = G 241 19 [ez_scr, .ref 0, .ref 35, .int 4] [.int 4] (ev_hp ev_I0 ev_J0 ev_R0 []) cz kz := by
  intro G
  rfl
set_option maxRecDepth 100000 in
set_option maxHeartbeats 100000 in
theorem eo_best_r_r11 (xs : Nat → Int32)  (cz kz : Nat) : ∀ G : ez_F, fx_up (4, xs) 2 G 241 19 [ez_scr, .ref 0, .ref 35, .int 4] [.int 4] (ev_hp ev_I0 ev_J0 ev_R0 []) cz kz = G 241 21 [ez_scr, .ref 0, .ref 35, .int 4] [.int 4, .int 4] (ev_hp ev_I0 ev_J0 ev_R0 []) cz kz := by
  intro G
  rfl
set_option maxRecDepth 100000 in
set_option maxHeartbeats 100000 in
theorem eo_best_r_r12 (xs : Nat → Int32)  (cz kz : Nat) : ∀ G : ez_F, fx_up (4, xs) 2 G 241 21 [ez_scr, .ref 0, .ref 35, .int 4] [.int 4, .int 4] (ev_hp ev_I0 ev_J0 ev_R0 []) cz kz = G 241 23 [ez_scr, .ref 0, .ref 35, .int 4] [.int 0, .int 4] (ev_hp ev_I0 ev_J0 ev_R0 []) cz kz := by
  intro G
  rfl
set_option maxRecDepth 100000 in
set_option maxHeartbeats 100000 in
theorem eo_best_r_r13 (xs : Nat → Int32)  (cz kz : Nat) : ∀ G : ez_F, fx_up (4, xs) 2 G 241 23 [ez_scr, .ref 0, .ref 35, .int 4] [.int 0, .int 4] (ev_hp ev_I0 ev_J0 ev_R0 []) cz kz = G 241 1082 [ez_scr, .ref 0, .ref 35, .int 4] [.int 1] (ev_hp ev_I0 ev_J0 ev_R0 []) cz kz := by
  intro G
  rfl
set_option maxRecDepth 100000 in
set_option maxHeartbeats 100000 in
theorem eo_best_r_r14 (xs : Nat → Int32)  (cz kz : Nat) : ∀ G : ez_F, fx_up (4, xs) 1 G 241 1082 [ez_scr, .ref 0, .ref 35, .int 4] [.int 1] (ev_hp ev_I0 ev_J0 ev_R0 []) cz kz = some (some (.int 1), (ev_hp ev_I0 ev_J0 ev_R0 []), cz, kz) := by
  intro G
  rfl
theorem eo_best_r (xs : Nat → Int32) (ha : ev_wi (xs 1) 0 1 = 0) : ev_P1 (4, xs) 763 := by
  refine ev_seg (eo_best_r_r1 xs  _ _) ?_
  refine ev_seg (eo_best_r_r2 xs  _ _) ?_
  refine ev_seg (eo_best_r_r3 xs  _ _) ?_
  refine ev_call (eo_best_r_r4 xs  _ _) (ef_best_r (4, xs) ev_I0 ev_J0 ev_R0 [] (xs 1) ha) ?_
  rintro r0 _ _ _ (⟨d51, rfl, rfl, rfl, rfl⟩)
  refine ev_seg (eo_best_r_r5 xs  _ _) ?_
  refine ev_seg (eo_best_r_r6 xs  _ _) ?_
  refine ev_seg (eo_best_r_r7 xs  _ _) ?_
  refine ev_call (eo_best_r_r8 xs  _ _) (eh_best_r (4, xs) ev_I0 ev_J0 ev_R0 [] (xs 1) ha) ?_
  rintro r0 _ _ _ (⟨d52, rfl, rfl, rfl, rfl⟩)
  refine ev_seg (eo_best_r_r9 xs  _ _) ?_
  refine ev_seg (eo_best_r_r10 xs  _ _) ?_
  refine ev_seg (eo_best_r_r11 xs  _ _) ?_
  refine ev_seg (eo_best_r_r12 xs  _ _) ?_
  refine ev_seg (eo_best_r_r13 xs  _ _) ?_
  refine ev_ret (eo_best_r_r14 xs  _ _) ?_
  exact ⟨rfl, by omega, by omega⟩
set_option maxRecDepth 100000 in
set_option maxHeartbeats 100000 in
theorem ef_bestSalvo_r_r1 (X : ez_X) (I : Nat → Nat → Int32) (J : Nat → Nat → Int64) (R : Nat → Nat) (T : List ez_C) (a : Int32) (cz kz : Nat) : ∀ G : ez_F, fx_up X 4 G 7 0 [.ref 0, .int a] [] (ev_hp ev_I0 ev_J0 ev_R0 []) cz kz = ev_C G 55 [.int a, .int 0, .int 2] (ev_hp ev_I0 ev_J0 ev_R0 []) fun r h1 c1 k1 => G 7 6 [.ref 0, .int a] (r.toList ++ []) h1 (cz + c1) (kz + k1) := by
  intro G
  rfl
set_option maxRecDepth 100000 in
set_option maxHeartbeats 100000 in
theorem ef_bestSalvo_r_r2 (X : ez_X) (I : Nat → Nat → Int32) (J : Nat → Nat → Int64) (R : Nat → Nat) (T : List ez_C) (a : Int32) (q94 : Int32) (cz kz : Nat) : ∀ G : ez_F, fx_up X 1 G 7 6 [.ref 0, .int a] [.int q94] (ev_hp ev_I0 ev_J0 ev_R0 []) cz kz = bif decide (¬ q94 = 0) then G 7 12 [.ref 0, .int a] [] (ev_hp ev_I0 ev_J0 ev_R0 []) cz kz else G 7 9 [.ref 0, .int a] [] (ev_hp ev_I0 ev_J0 ev_R0 []) cz kz := by
  intro G
  rfl
set_option maxRecDepth 100000 in
set_option maxHeartbeats 100000 in
theorem ef_bestSalvo_r_r3 (X : ez_X) (I : Nat → Nat → Int32) (J : Nat → Nat → Int64) (R : Nat → Nat) (T : List ez_C) (a : Int32) (q94 : Int32) (cz kz : Nat) : ∀ G : ez_F, fx_up X 2 G 7 9 [.ref 0, .int a] [] (ev_hp ev_I0 ev_J0 ev_R0 []) cz kz = some (some (.int (-3)), (ev_hp ev_I0 ev_J0 ev_R0 []), cz, kz) := by
  intro G
  rfl
theorem ef_bestSalvo_r (X : ez_X) (I : Nat → Nat → Int32) (J : Nat → Nat → Int64) (R : Nat → Nat) (T : List ez_C) (a : Int32) (ha : ev_wi a 0 2 = 0) : ev_W X 7 0 (ez_lay [.ref 0, .int a]) [] (ev_hp ev_I0 ev_J0 ev_R0 []) 0 0 (fun r h1 c1 k1 => ((¬ (¬ ((ev_wi a 0 2)) = 0)) ∧ r = some (.int (-3)) ∧ h1 = (ev_hp ev_I0 ev_J0 ev_R0 []) ∧ c1 = 0 ∧ k1 = 0)) := by
  refine ev_call (ef_bestSalvo_r_r1 X I J R T a _ _) (ec_within X (ev_hp ev_I0 ev_J0 ev_R0 []) a 0 2) ?_
  rintro _ _ _ _ ⟨rfl, rfl, rfl, rfl⟩
  generalize hq94 : (ev_wi a 0 2) = q94
  refine ev_if (ef_bestSalvo_r_r2 X I J R T a q94 _ _) (fun b1 => ?_) (fun b1 => ?_)
  · replace b1 := of_decide_eq_true b1
    exact (b1 (by rw [← hq94]; exact ha)).elim
  · replace b1 := of_decide_eq_false b1
    refine ev_ret (ef_bestSalvo_r_r3 X I J R T a q94 _ _) ?_
    subst hq94
    exact ⟨b1, rfl, rfl, rfl, rfl⟩
set_option maxRecDepth 100000 in
set_option maxHeartbeats 100000 in
theorem eh_bestSalvo_r_r1 (X : ez_X) (I : Nat → Nat → Int32) (J : Nat → Nat → Int64) (R : Nat → Nat) (T : List ez_C) (a : Int32) (cz kz : Nat) : ∀ G : ez_F, fx_up X 5 G 170 0 [.ref 35, .int a] [] (ev_hp ev_I0 ev_J0 ev_R0 []) cz kz = ev_C G 198 [.long (a.toInt64), .long 0, .long 2] (ev_hp ev_I0 ev_J0 ev_R0 []) fun r h1 c1 k1 => G 170 9 [.ref 35, .int a] (r.toList ++ []) h1 (cz + c1) (kz + k1) := by
  intro G
  rfl
set_option maxRecDepth 100000 in
set_option maxHeartbeats 100000 in
theorem eh_bestSalvo_r_r2 (X : ez_X) (I : Nat → Nat → Int32) (J : Nat → Nat → Int64) (R : Nat → Nat) (T : List ez_C) (a : Int32) (q95 : Int32) (cz kz : Nat) : ∀ G : ez_F, fx_up X 1 G 170 9 [.ref 35, .int a] [.int q95] (ev_hp ev_I0 ev_J0 ev_R0 []) cz kz = bif decide (¬ q95 = 0) then G 170 15 [.ref 35, .int a] [] (ev_hp ev_I0 ev_J0 ev_R0 []) cz kz else G 170 12 [.ref 35, .int a] [] (ev_hp ev_I0 ev_J0 ev_R0 []) cz kz := by
  intro G
  rfl
set_option maxRecDepth 100000 in
set_option maxHeartbeats 100000 in
theorem eh_bestSalvo_r_r3 (X : ez_X) (I : Nat → Nat → Int32) (J : Nat → Nat → Int64) (R : Nat → Nat) (T : List ez_C) (a : Int32) (q95 : Int32) (cz kz : Nat) : ∀ G : ez_F, fx_up X 2 G 170 12 [.ref 35, .int a] [] (ev_hp ev_I0 ev_J0 ev_R0 []) cz kz = some (some (.int (-3)), (ev_hp ev_I0 ev_J0 ev_R0 []), cz, kz) := by
  intro G
  rfl
theorem eh_bestSalvo_r (X : ez_X) (I : Nat → Nat → Int32) (J : Nat → Nat → Int64) (R : Nat → Nat) (T : List ez_C) (a : Int32) (ha : ev_wi a 0 2 = 0) : ev_W X 170 0 (ez_lay [.ref 35, .int a]) [] (ev_hp ev_I0 ev_J0 ev_R0 []) 0 0 (fun r h1 c1 k1 => ((¬ (¬ ((ev_il (a.toInt64) 0 2)) = 0)) ∧ r = some (.int (-3)) ∧ h1 = (ev_hp ev_I0 ev_J0 ev_R0 []) ∧ c1 = 0 ∧ k1 = 0)) := by
  refine ev_call (eh_bestSalvo_r_r1 X I J R T a _ _) (ec_in X (ev_hp ev_I0 ev_J0 ev_R0 []) (a.toInt64) 0 2) ?_
  rintro _ _ _ _ ⟨rfl, rfl, rfl, rfl⟩
  generalize hq95 : (ev_il (a.toInt64) 0 2) = q95
  refine ev_if (eh_bestSalvo_r_r2 X I J R T a q95 _ _) (fun b1 => ?_) (fun b1 => ?_)
  · replace b1 := of_decide_eq_true b1
    exact (b1 (by rw [← hq95]; exact ((ev_il_wi a 0 2).trans ha))).elim
  · replace b1 := of_decide_eq_false b1
    refine ev_ret (eh_bestSalvo_r_r3 X I J R T a q95 _ _) ?_
    subst hq95
    exact ⟨b1, rfl, rfl, rfl, rfl⟩
set_option maxRecDepth 100000 in
set_option maxHeartbeats 100000 in
theorem eo_bestSalvo_r_r1 (xs : Nat → Int32)  (cz kz : Nat) : ∀ G : ez_F, fx_up (4, xs) 2 G 241 786 [ez_scr, .ref 0, .ref 35, .int 0] [] (ev_hp ev_I0 ev_J0 ev_R0 []) cz kz = G 241 788 [ez_scr, .ref 0, .ref 35, .int 0] [ez_scr, .ref 0] (ev_hp ev_I0 ev_J0 ev_R0 []) cz kz := by
  intro G
  rfl
set_option maxRecDepth 100000 in
set_option maxHeartbeats 100000 in
theorem eo_bestSalvo_r_r2 (xs : Nat → Int32)  (cz kz : Nat) : ∀ G : ez_F, fx_up (4, xs) 2 G 241 788 [ez_scr, .ref 0, .ref 35, .int 0] [ez_scr, .ref 0] (ev_hp ev_I0 ev_J0 ev_R0 []) cz kz = G 241 790 [ez_scr, .ref 0, .ref 35, .int 0] [.int 1, .int 0, ez_scr, .ref 0] (ev_hp ev_I0 ev_J0 ev_R0 []) cz kz := by
  intro G
  rfl
set_option maxRecDepth 100000 in
set_option maxHeartbeats 100000 in
theorem eo_bestSalvo_r_r3 (xs : Nat → Int32)  (cz kz : Nat) : ∀ G : ez_F, fx_up (4, xs) 2 G 241 790 [ez_scr, .ref 0, .ref 35, .int 0] [.int 1, .int 0, ez_scr, .ref 0] (ev_hp ev_I0 ev_J0 ev_R0 []) cz kz = G 241 792 [ez_scr, .ref 0, .ref 35, .int 0] [.int (xs 1), .ref 0] (ev_hp ev_I0 ev_J0 ev_R0 []) cz kz := by
  intro G
  rfl
set_option maxRecDepth 100000 in
set_option maxHeartbeats 100000 in
theorem eo_bestSalvo_r_r4 (xs : Nat → Int32)  (cz kz : Nat) : ∀ G : ez_F, fx_up (4, xs) 1 G 241 792 [ez_scr, .ref 0, .ref 35, .int 0] [.int (xs 1), .ref 0] (ev_hp ev_I0 ev_J0 ev_R0 []) cz kz = ev_C G 7 [.ref 0, .int (xs 1)] (ev_hp ev_I0 ev_J0 ev_R0 []) fun r h1 c1 k1 => G 241 795 [ez_scr, .ref 0, .ref 35, .int 0] (r.toList ++ []) h1 (cz + c1) (kz + k1) := by
  intro G
  rfl
set_option maxRecDepth 100000 in
set_option maxHeartbeats 100000 in
theorem eo_bestSalvo_r_r5 (xs : Nat → Int32)  (cz kz : Nat) : ∀ G : ez_F, fx_up (4, xs) 2 G 241 795 [ez_scr, .ref 0, .ref 35, .int 0] [.int (-3)] (ev_hp ev_I0 ev_J0 ev_R0 []) cz kz = G 241 797 [ez_scr, .ref 0, .ref 35, .int 0] [ez_scr, .ref 35, .int (-3)] (ev_hp ev_I0 ev_J0 ev_R0 []) cz kz := by
  intro G
  rfl
set_option maxRecDepth 100000 in
set_option maxHeartbeats 100000 in
theorem eo_bestSalvo_r_r6 (xs : Nat → Int32)  (cz kz : Nat) : ∀ G : ez_F, fx_up (4, xs) 2 G 241 797 [ez_scr, .ref 0, .ref 35, .int 0] [ez_scr, .ref 35, .int (-3)] (ev_hp ev_I0 ev_J0 ev_R0 []) cz kz = G 241 799 [ez_scr, .ref 0, .ref 35, .int 0] [.int 1, .int 0, ez_scr, .ref 35, .int (-3)] (ev_hp ev_I0 ev_J0 ev_R0 []) cz kz := by
  intro G
  rfl
set_option maxRecDepth 100000 in
set_option maxHeartbeats 100000 in
theorem eo_bestSalvo_r_r7 (xs : Nat → Int32)  (cz kz : Nat) : ∀ G : ez_F, fx_up (4, xs) 2 G 241 799 [ez_scr, .ref 0, .ref 35, .int 0] [.int 1, .int 0, ez_scr, .ref 35, .int (-3)] (ev_hp ev_I0 ev_J0 ev_R0 []) cz kz = G 241 801 [ez_scr, .ref 0, .ref 35, .int 0] [.int (xs 1), .ref 35, .int (-3)] (ev_hp ev_I0 ev_J0 ev_R0 []) cz kz := by
  intro G
  rfl
set_option maxRecDepth 100000 in
set_option maxHeartbeats 100000 in
theorem eo_bestSalvo_r_r8 (xs : Nat → Int32)  (cz kz : Nat) : ∀ G : ez_F, fx_up (4, xs) 1 G 241 801 [ez_scr, .ref 0, .ref 35, .int 0] [.int (xs 1), .ref 35, .int (-3)] (ev_hp ev_I0 ev_J0 ev_R0 []) cz kz = ev_C G 170 [.ref 35, .int (xs 1)] (ev_hp ev_I0 ev_J0 ev_R0 []) fun r h1 c1 k1 => G 241 804 [ez_scr, .ref 0, .ref 35, .int 0] (r.toList ++ [.int (-3)]) h1 (cz + c1) (kz + k1) := by
  intro G
  rfl
set_option maxRecDepth 100000 in
set_option maxHeartbeats 100000 in
theorem eo_bestSalvo_r_r9 (xs : Nat → Int32)  (cz kz : Nat) : ∀ G : ez_F, fx_up (4, xs) 2 G 241 804 [ez_scr, .ref 0, .ref 35, .int 0] [.int (-3), .int (-3)] (ev_hp ev_I0 ev_J0 ev_R0 []) cz kz = G 241 1078 [ez_scr, .ref 0, .ref 35, .int 4] [] (ev_hp ev_I0 ev_J0 ev_R0 []) cz kz := by
  intro G
  rfl
set_option maxRecDepth 100000 in
set_option maxHeartbeats 100000 in
theorem eo_bestSalvo_r_r10 (xs : Nat → Int32)  (cz kz : Nat) : ∀ G : ez_F, fx_up (4, xs) 2 G 241 1078 [ez_scr, .ref 0, .ref 35, .int 4] [] (ev_hp ev_I0 ev_J0 ev_R0 []) cz kz = G 241 19 [ez_scr, .ref 0, .ref 35, .int 4] [.int 4] (ev_hp ev_I0 ev_J0 ev_R0 []) cz kz := by
  intro G
  rfl
set_option maxRecDepth 100000 in
set_option maxHeartbeats 100000 in
theorem eo_bestSalvo_r_r11 (xs : Nat → Int32)  (cz kz : Nat) : ∀ G : ez_F, fx_up (4, xs) 2 G 241 19 [ez_scr, .ref 0, .ref 35, .int 4] [.int 4] (ev_hp ev_I0 ev_J0 ev_R0 []) cz kz = G 241 21 [ez_scr, .ref 0, .ref 35, .int 4] [.int 4, .int 4] (ev_hp ev_I0 ev_J0 ev_R0 []) cz kz := by
  intro G
  rfl
set_option maxRecDepth 100000 in
set_option maxHeartbeats 100000 in
theorem eo_bestSalvo_r_r12 (xs : Nat → Int32)  (cz kz : Nat) : ∀ G : ez_F, fx_up (4, xs) 2 G 241 21 [ez_scr, .ref 0, .ref 35, .int 4] [.int 4, .int 4] (ev_hp ev_I0 ev_J0 ev_R0 []) cz kz = G 241 23 [ez_scr, .ref 0, .ref 35, .int 4] [.int 0, .int 4] (ev_hp ev_I0 ev_J0 ev_R0 []) cz kz := by
  intro G
  rfl
set_option maxRecDepth 100000 in
set_option maxHeartbeats 100000 in
theorem eo_bestSalvo_r_r13 (xs : Nat → Int32)  (cz kz : Nat) : ∀ G : ez_F, fx_up (4, xs) 2 G 241 23 [ez_scr, .ref 0, .ref 35, .int 4] [.int 0, .int 4] (ev_hp ev_I0 ev_J0 ev_R0 []) cz kz = G 241 1082 [ez_scr, .ref 0, .ref 35, .int 4] [.int 1] (ev_hp ev_I0 ev_J0 ev_R0 []) cz kz := by
  intro G
  rfl
set_option maxRecDepth 100000 in
set_option maxHeartbeats 100000 in
theorem eo_bestSalvo_r_r14 (xs : Nat → Int32)  (cz kz : Nat) : ∀ G : ez_F, fx_up (4, xs) 1 G 241 1082 [ez_scr, .ref 0, .ref 35, .int 4] [.int 1] (ev_hp ev_I0 ev_J0 ev_R0 []) cz kz = some (some (.int 1), (ev_hp ev_I0 ev_J0 ev_R0 []), cz, kz) := by
  intro G
  rfl
theorem eo_bestSalvo_r (xs : Nat → Int32) (ha : ev_wi (xs 1) 0 2 = 0) : ev_P1 (4, xs) 786 := by
  refine ev_seg (eo_bestSalvo_r_r1 xs  _ _) ?_
  refine ev_seg (eo_bestSalvo_r_r2 xs  _ _) ?_
  refine ev_seg (eo_bestSalvo_r_r3 xs  _ _) ?_
  refine ev_call (eo_bestSalvo_r_r4 xs  _ _) (ef_bestSalvo_r (4, xs) ev_I0 ev_J0 ev_R0 [] (xs 1) ha) ?_
  rintro r0 _ _ _ (⟨d53, rfl, rfl, rfl, rfl⟩)
  refine ev_seg (eo_bestSalvo_r_r5 xs  _ _) ?_
  refine ev_seg (eo_bestSalvo_r_r6 xs  _ _) ?_
  refine ev_seg (eo_bestSalvo_r_r7 xs  _ _) ?_
  refine ev_call (eo_bestSalvo_r_r8 xs  _ _) (eh_bestSalvo_r (4, xs) ev_I0 ev_J0 ev_R0 [] (xs 1) ha) ?_
  rintro r0 _ _ _ (⟨d54, rfl, rfl, rfl, rfl⟩)
  refine ev_seg (eo_bestSalvo_r_r9 xs  _ _) ?_
  refine ev_seg (eo_bestSalvo_r_r10 xs  _ _) ?_
  refine ev_seg (eo_bestSalvo_r_r11 xs  _ _) ?_
  refine ev_seg (eo_bestSalvo_r_r12 xs  _ _) ?_
  refine ev_seg (eo_bestSalvo_r_r13 xs  _ _) ?_
  refine ev_ret (eo_bestSalvo_r_r14 xs  _ _) ?_
  exact ⟨rfl, by omega, by omega⟩
set_option maxRecDepth 100000 in
set_option maxHeartbeats 100000 in
theorem ef_hardest_r_r1 (X : ez_X) (I : Nat → Nat → Int32) (J : Nat → Nat → Int64) (R : Nat → Nat) (T : List ez_C) (a : Int32) (cz kz : Nat) : ∀ G : ez_F, fx_up X 4 G 20 0 [.ref 0, .int a] [] (ev_hp ev_I0 ev_J0 ev_R0 []) cz kz = ev_C G 55 [.int a, .int 0, .int 2] (ev_hp ev_I0 ev_J0 ev_R0 []) fun r h1 c1 k1 => G 20 6 [.ref 0, .int a] (r.toList ++ []) h1 (cz + c1) (kz + k1) := by
  intro G
  rfl
set_option maxRecDepth 100000 in
set_option maxHeartbeats 100000 in
theorem ef_hardest_r_r2 (X : ez_X) (I : Nat → Nat → Int32) (J : Nat → Nat → Int64) (R : Nat → Nat) (T : List ez_C) (a : Int32) (q96 : Int32) (cz kz : Nat) : ∀ G : ez_F, fx_up X 1 G 20 6 [.ref 0, .int a] [.int q96] (ev_hp ev_I0 ev_J0 ev_R0 []) cz kz = bif decide (¬ q96 = 0) then G 20 12 [.ref 0, .int a] [] (ev_hp ev_I0 ev_J0 ev_R0 []) cz kz else G 20 9 [.ref 0, .int a] [] (ev_hp ev_I0 ev_J0 ev_R0 []) cz kz := by
  intro G
  rfl
set_option maxRecDepth 100000 in
set_option maxHeartbeats 100000 in
theorem ef_hardest_r_r3 (X : ez_X) (I : Nat → Nat → Int32) (J : Nat → Nat → Int64) (R : Nat → Nat) (T : List ez_C) (a : Int32) (q96 : Int32) (cz kz : Nat) : ∀ G : ez_F, fx_up X 2 G 20 9 [.ref 0, .int a] [] (ev_hp ev_I0 ev_J0 ev_R0 []) cz kz = some (some (.int (-3)), (ev_hp ev_I0 ev_J0 ev_R0 []), cz, kz) := by
  intro G
  rfl
theorem ef_hardest_r (X : ez_X) (I : Nat → Nat → Int32) (J : Nat → Nat → Int64) (R : Nat → Nat) (T : List ez_C) (a : Int32) (ha : ev_wi a 0 2 = 0) : ev_W X 20 0 (ez_lay [.ref 0, .int a]) [] (ev_hp ev_I0 ev_J0 ev_R0 []) 0 0 (fun r h1 c1 k1 => ((¬ (¬ ((ev_wi a 0 2)) = 0)) ∧ r = some (.int (-3)) ∧ h1 = (ev_hp ev_I0 ev_J0 ev_R0 []) ∧ c1 = 0 ∧ k1 = 0)) := by
  refine ev_call (ef_hardest_r_r1 X I J R T a _ _) (ec_within X (ev_hp ev_I0 ev_J0 ev_R0 []) a 0 2) ?_
  rintro _ _ _ _ ⟨rfl, rfl, rfl, rfl⟩
  generalize hq96 : (ev_wi a 0 2) = q96
  refine ev_if (ef_hardest_r_r2 X I J R T a q96 _ _) (fun b1 => ?_) (fun b1 => ?_)
  · replace b1 := of_decide_eq_true b1
    exact (b1 (by rw [← hq96]; exact ha)).elim
  · replace b1 := of_decide_eq_false b1
    refine ev_ret (ef_hardest_r_r3 X I J R T a q96 _ _) ?_
    subst hq96
    exact ⟨b1, rfl, rfl, rfl, rfl⟩
set_option maxRecDepth 100000 in
set_option maxHeartbeats 100000 in
theorem eh_hardest_r_r1 (X : ez_X) (I : Nat → Nat → Int32) (J : Nat → Nat → Int64) (R : Nat → Nat) (T : List ez_C) (a : Int32) (cz kz : Nat) : ∀ G : ez_F, fx_up X 5 G 196 0 [.ref 35, .int a] [] (ev_hp ev_I0 ev_J0 ev_R0 []) cz kz = ev_C G 198 [.long (a.toInt64), .long 0, .long 2] (ev_hp ev_I0 ev_J0 ev_R0 []) fun r h1 c1 k1 => G 196 9 [.ref 35, .int a] (r.toList ++ []) h1 (cz + c1) (kz + k1) := by
  intro G
  rfl
set_option maxRecDepth 100000 in
set_option maxHeartbeats 100000 in
theorem eh_hardest_r_r2 (X : ez_X) (I : Nat → Nat → Int32) (J : Nat → Nat → Int64) (R : Nat → Nat) (T : List ez_C) (a : Int32) (q97 : Int32) (cz kz : Nat) : ∀ G : ez_F, fx_up X 1 G 196 9 [.ref 35, .int a] [.int q97] (ev_hp ev_I0 ev_J0 ev_R0 []) cz kz = bif decide (¬ q97 = 0) then G 196 15 [.ref 35, .int a] [] (ev_hp ev_I0 ev_J0 ev_R0 []) cz kz else G 196 12 [.ref 35, .int a] [] (ev_hp ev_I0 ev_J0 ev_R0 []) cz kz := by
  intro G
  rfl
set_option maxRecDepth 100000 in
set_option maxHeartbeats 100000 in
theorem eh_hardest_r_r3 (X : ez_X) (I : Nat → Nat → Int32) (J : Nat → Nat → Int64) (R : Nat → Nat) (T : List ez_C) (a : Int32) (q97 : Int32) (cz kz : Nat) : ∀ G : ez_F, fx_up X 2 G 196 12 [.ref 35, .int a] [] (ev_hp ev_I0 ev_J0 ev_R0 []) cz kz = some (some (.int (-3)), (ev_hp ev_I0 ev_J0 ev_R0 []), cz, kz) := by
  intro G
  rfl
theorem eh_hardest_r (X : ez_X) (I : Nat → Nat → Int32) (J : Nat → Nat → Int64) (R : Nat → Nat) (T : List ez_C) (a : Int32) (ha : ev_wi a 0 2 = 0) : ev_W X 196 0 (ez_lay [.ref 35, .int a]) [] (ev_hp ev_I0 ev_J0 ev_R0 []) 0 0 (fun r h1 c1 k1 => ((¬ (¬ ((ev_il (a.toInt64) 0 2)) = 0)) ∧ r = some (.int (-3)) ∧ h1 = (ev_hp ev_I0 ev_J0 ev_R0 []) ∧ c1 = 0 ∧ k1 = 0)) := by
  refine ev_call (eh_hardest_r_r1 X I J R T a _ _) (ec_in X (ev_hp ev_I0 ev_J0 ev_R0 []) (a.toInt64) 0 2) ?_
  rintro _ _ _ _ ⟨rfl, rfl, rfl, rfl⟩
  generalize hq97 : (ev_il (a.toInt64) 0 2) = q97
  refine ev_if (eh_hardest_r_r2 X I J R T a q97 _ _) (fun b1 => ?_) (fun b1 => ?_)
  · replace b1 := of_decide_eq_true b1
    exact (b1 (by rw [← hq97]; exact ((ev_il_wi a 0 2).trans ha))).elim
  · replace b1 := of_decide_eq_false b1
    refine ev_ret (eh_hardest_r_r3 X I J R T a q97 _ _) ?_
    subst hq97
    exact ⟨b1, rfl, rfl, rfl, rfl⟩
set_option maxRecDepth 100000 in
set_option maxHeartbeats 100000 in
theorem eo_hardest_r_r1 (xs : Nat → Int32)  (cz kz : Nat) : ∀ G : ez_F, fx_up (4, xs) 2 G 241 865 [ez_scr, .ref 0, .ref 35, .int 0] [] (ev_hp ev_I0 ev_J0 ev_R0 []) cz kz = G 241 867 [ez_scr, .ref 0, .ref 35, .int 0] [ez_scr, .ref 0] (ev_hp ev_I0 ev_J0 ev_R0 []) cz kz := by
  intro G
  rfl
set_option maxRecDepth 100000 in
set_option maxHeartbeats 100000 in
theorem eo_hardest_r_r2 (xs : Nat → Int32)  (cz kz : Nat) : ∀ G : ez_F, fx_up (4, xs) 2 G 241 867 [ez_scr, .ref 0, .ref 35, .int 0] [ez_scr, .ref 0] (ev_hp ev_I0 ev_J0 ev_R0 []) cz kz = G 241 869 [ez_scr, .ref 0, .ref 35, .int 0] [.int 1, .int 0, ez_scr, .ref 0] (ev_hp ev_I0 ev_J0 ev_R0 []) cz kz := by
  intro G
  rfl
set_option maxRecDepth 100000 in
set_option maxHeartbeats 100000 in
theorem eo_hardest_r_r3 (xs : Nat → Int32)  (cz kz : Nat) : ∀ G : ez_F, fx_up (4, xs) 2 G 241 869 [ez_scr, .ref 0, .ref 35, .int 0] [.int 1, .int 0, ez_scr, .ref 0] (ev_hp ev_I0 ev_J0 ev_R0 []) cz kz = G 241 871 [ez_scr, .ref 0, .ref 35, .int 0] [.int (xs 1), .ref 0] (ev_hp ev_I0 ev_J0 ev_R0 []) cz kz := by
  intro G
  rfl
set_option maxRecDepth 100000 in
set_option maxHeartbeats 100000 in
theorem eo_hardest_r_r4 (xs : Nat → Int32)  (cz kz : Nat) : ∀ G : ez_F, fx_up (4, xs) 1 G 241 871 [ez_scr, .ref 0, .ref 35, .int 0] [.int (xs 1), .ref 0] (ev_hp ev_I0 ev_J0 ev_R0 []) cz kz = ev_C G 20 [.ref 0, .int (xs 1)] (ev_hp ev_I0 ev_J0 ev_R0 []) fun r h1 c1 k1 => G 241 874 [ez_scr, .ref 0, .ref 35, .int 0] (r.toList ++ []) h1 (cz + c1) (kz + k1) := by
  intro G
  rfl
set_option maxRecDepth 100000 in
set_option maxHeartbeats 100000 in
theorem eo_hardest_r_r5 (xs : Nat → Int32)  (cz kz : Nat) : ∀ G : ez_F, fx_up (4, xs) 2 G 241 874 [ez_scr, .ref 0, .ref 35, .int 0] [.int (-3)] (ev_hp ev_I0 ev_J0 ev_R0 []) cz kz = G 241 876 [ez_scr, .ref 0, .ref 35, .int 0] [ez_scr, .ref 35, .int (-3)] (ev_hp ev_I0 ev_J0 ev_R0 []) cz kz := by
  intro G
  rfl
set_option maxRecDepth 100000 in
set_option maxHeartbeats 100000 in
theorem eo_hardest_r_r6 (xs : Nat → Int32)  (cz kz : Nat) : ∀ G : ez_F, fx_up (4, xs) 2 G 241 876 [ez_scr, .ref 0, .ref 35, .int 0] [ez_scr, .ref 35, .int (-3)] (ev_hp ev_I0 ev_J0 ev_R0 []) cz kz = G 241 878 [ez_scr, .ref 0, .ref 35, .int 0] [.int 1, .int 0, ez_scr, .ref 35, .int (-3)] (ev_hp ev_I0 ev_J0 ev_R0 []) cz kz := by
  intro G
  rfl
set_option maxRecDepth 100000 in
set_option maxHeartbeats 100000 in
theorem eo_hardest_r_r7 (xs : Nat → Int32)  (cz kz : Nat) : ∀ G : ez_F, fx_up (4, xs) 2 G 241 878 [ez_scr, .ref 0, .ref 35, .int 0] [.int 1, .int 0, ez_scr, .ref 35, .int (-3)] (ev_hp ev_I0 ev_J0 ev_R0 []) cz kz = G 241 880 [ez_scr, .ref 0, .ref 35, .int 0] [.int (xs 1), .ref 35, .int (-3)] (ev_hp ev_I0 ev_J0 ev_R0 []) cz kz := by
  intro G
  rfl
set_option maxRecDepth 100000 in
set_option maxHeartbeats 100000 in
theorem eo_hardest_r_r8 (xs : Nat → Int32)  (cz kz : Nat) : ∀ G : ez_F, fx_up (4, xs) 1 G 241 880 [ez_scr, .ref 0, .ref 35, .int 0] [.int (xs 1), .ref 35, .int (-3)] (ev_hp ev_I0 ev_J0 ev_R0 []) cz kz = ev_C G 196 [.ref 35, .int (xs 1)] (ev_hp ev_I0 ev_J0 ev_R0 []) fun r h1 c1 k1 => G 241 883 [ez_scr, .ref 0, .ref 35, .int 0] (r.toList ++ [.int (-3)]) h1 (cz + c1) (kz + k1) := by
  intro G
  rfl
set_option maxRecDepth 100000 in
set_option maxHeartbeats 100000 in
theorem eo_hardest_r_r9 (xs : Nat → Int32)  (cz kz : Nat) : ∀ G : ez_F, fx_up (4, xs) 2 G 241 883 [ez_scr, .ref 0, .ref 35, .int 0] [.int (-3), .int (-3)] (ev_hp ev_I0 ev_J0 ev_R0 []) cz kz = G 241 1078 [ez_scr, .ref 0, .ref 35, .int 4] [] (ev_hp ev_I0 ev_J0 ev_R0 []) cz kz := by
  intro G
  rfl
set_option maxRecDepth 100000 in
set_option maxHeartbeats 100000 in
theorem eo_hardest_r_r10 (xs : Nat → Int32)  (cz kz : Nat) : ∀ G : ez_F, fx_up (4, xs) 2 G 241 1078 [ez_scr, .ref 0, .ref 35, .int 4] [] (ev_hp ev_I0 ev_J0 ev_R0 []) cz kz = G 241 19 [ez_scr, .ref 0, .ref 35, .int 4] [.int 4] (ev_hp ev_I0 ev_J0 ev_R0 []) cz kz := by
  intro G
  rfl
set_option maxRecDepth 100000 in
set_option maxHeartbeats 100000 in
theorem eo_hardest_r_r11 (xs : Nat → Int32)  (cz kz : Nat) : ∀ G : ez_F, fx_up (4, xs) 2 G 241 19 [ez_scr, .ref 0, .ref 35, .int 4] [.int 4] (ev_hp ev_I0 ev_J0 ev_R0 []) cz kz = G 241 21 [ez_scr, .ref 0, .ref 35, .int 4] [.int 4, .int 4] (ev_hp ev_I0 ev_J0 ev_R0 []) cz kz := by
  intro G
  rfl
set_option maxRecDepth 100000 in
set_option maxHeartbeats 100000 in
theorem eo_hardest_r_r12 (xs : Nat → Int32)  (cz kz : Nat) : ∀ G : ez_F, fx_up (4, xs) 2 G 241 21 [ez_scr, .ref 0, .ref 35, .int 4] [.int 4, .int 4] (ev_hp ev_I0 ev_J0 ev_R0 []) cz kz = G 241 23 [ez_scr, .ref 0, .ref 35, .int 4] [.int 0, .int 4] (ev_hp ev_I0 ev_J0 ev_R0 []) cz kz := by
  intro G
  rfl
set_option maxRecDepth 100000 in
set_option maxHeartbeats 100000 in
theorem eo_hardest_r_r13 (xs : Nat → Int32)  (cz kz : Nat) : ∀ G : ez_F, fx_up (4, xs) 2 G 241 23 [ez_scr, .ref 0, .ref 35, .int 4] [.int 0, .int 4] (ev_hp ev_I0 ev_J0 ev_R0 []) cz kz = G 241 1082 [ez_scr, .ref 0, .ref 35, .int 4] [.int 1] (ev_hp ev_I0 ev_J0 ev_R0 []) cz kz := by
  intro G
  rfl
set_option maxRecDepth 100000 in
set_option maxHeartbeats 100000 in
theorem eo_hardest_r_r14 (xs : Nat → Int32)  (cz kz : Nat) : ∀ G : ez_F, fx_up (4, xs) 1 G 241 1082 [ez_scr, .ref 0, .ref 35, .int 4] [.int 1] (ev_hp ev_I0 ev_J0 ev_R0 []) cz kz = some (some (.int 1), (ev_hp ev_I0 ev_J0 ev_R0 []), cz, kz) := by
  intro G
  rfl
theorem eo_hardest_r (xs : Nat → Int32) (ha : ev_wi (xs 1) 0 2 = 0) : ev_P1 (4, xs) 865 := by
  refine ev_seg (eo_hardest_r_r1 xs  _ _) ?_
  refine ev_seg (eo_hardest_r_r2 xs  _ _) ?_
  refine ev_seg (eo_hardest_r_r3 xs  _ _) ?_
  refine ev_call (eo_hardest_r_r4 xs  _ _) (ef_hardest_r (4, xs) ev_I0 ev_J0 ev_R0 [] (xs 1) ha) ?_
  rintro r0 _ _ _ (⟨d55, rfl, rfl, rfl, rfl⟩)
  refine ev_seg (eo_hardest_r_r5 xs  _ _) ?_
  refine ev_seg (eo_hardest_r_r6 xs  _ _) ?_
  refine ev_seg (eo_hardest_r_r7 xs  _ _) ?_
  refine ev_call (eo_hardest_r_r8 xs  _ _) (eh_hardest_r (4, xs) ev_I0 ev_J0 ev_R0 [] (xs 1) ha) ?_
  rintro r0 _ _ _ (⟨d56, rfl, rfl, rfl, rfl⟩)
  refine ev_seg (eo_hardest_r_r9 xs  _ _) ?_
  refine ev_seg (eo_hardest_r_r10 xs  _ _) ?_
  refine ev_seg (eo_hardest_r_r11 xs  _ _) ?_
  refine ev_seg (eo_hardest_r_r12 xs  _ _) ?_
  refine ev_seg (eo_hardest_r_r13 xs  _ _) ?_
  refine ev_ret (eo_hardest_r_r14 xs  _ _) ?_
  exact ⟨rfl, by omega, by omega⟩
set_option maxRecDepth 100000 in
set_option maxHeartbeats 100000 in
theorem ef_switched_r_r1 (X : ez_X) (I : Nat → Nat → Int32) (J : Nat → Nat → Int64) (R : Nat → Nat) (T : List ez_C) (a : Int32) (cz kz : Nat) : ∀ G : ez_F, fx_up X 4 G 50 0 [.ref 0, .int a] [] (ev_hp ev_I0 ev_J0 ev_R0 []) cz kz = ev_C G 55 [.int a, .int 0, .int 1] (ev_hp ev_I0 ev_J0 ev_R0 []) fun r h1 c1 k1 => G 50 6 [.ref 0, .int a] (r.toList ++ []) h1 (cz + c1) (kz + k1) := by
  intro G
  rfl
set_option maxRecDepth 100000 in
set_option maxHeartbeats 100000 in
theorem ef_switched_r_r2 (X : ez_X) (I : Nat → Nat → Int32) (J : Nat → Nat → Int64) (R : Nat → Nat) (T : List ez_C) (a : Int32) (q98 : Int32) (cz kz : Nat) : ∀ G : ez_F, fx_up X 1 G 50 6 [.ref 0, .int a] [.int q98] (ev_hp ev_I0 ev_J0 ev_R0 []) cz kz = bif decide (¬ q98 = 0) then G 50 12 [.ref 0, .int a] [] (ev_hp ev_I0 ev_J0 ev_R0 []) cz kz else G 50 9 [.ref 0, .int a] [] (ev_hp ev_I0 ev_J0 ev_R0 []) cz kz := by
  intro G
  rfl
set_option maxRecDepth 100000 in
set_option maxHeartbeats 100000 in
theorem ef_switched_r_r3 (X : ez_X) (I : Nat → Nat → Int32) (J : Nat → Nat → Int64) (R : Nat → Nat) (T : List ez_C) (a : Int32) (q98 : Int32) (cz kz : Nat) : ∀ G : ez_F, fx_up X 2 G 50 9 [.ref 0, .int a] [] (ev_hp ev_I0 ev_J0 ev_R0 []) cz kz = some (some (.int (-3)), (ev_hp ev_I0 ev_J0 ev_R0 []), cz, kz) := by
  intro G
  rfl
theorem ef_switched_r (X : ez_X) (I : Nat → Nat → Int32) (J : Nat → Nat → Int64) (R : Nat → Nat) (T : List ez_C) (a : Int32) (ha : ev_wi a 0 1 = 0) : ev_W X 50 0 (ez_lay [.ref 0, .int a]) [] (ev_hp ev_I0 ev_J0 ev_R0 []) 0 0 (fun r h1 c1 k1 => ((¬ (¬ ((ev_wi a 0 1)) = 0)) ∧ r = some (.int (-3)) ∧ h1 = (ev_hp ev_I0 ev_J0 ev_R0 []) ∧ c1 = 0 ∧ k1 = 0)) := by
  refine ev_call (ef_switched_r_r1 X I J R T a _ _) (ec_within X (ev_hp ev_I0 ev_J0 ev_R0 []) a 0 1) ?_
  rintro _ _ _ _ ⟨rfl, rfl, rfl, rfl⟩
  generalize hq98 : (ev_wi a 0 1) = q98
  refine ev_if (ef_switched_r_r2 X I J R T a q98 _ _) (fun b1 => ?_) (fun b1 => ?_)
  · replace b1 := of_decide_eq_true b1
    exact (b1 (by rw [← hq98]; exact ha)).elim
  · replace b1 := of_decide_eq_false b1
    refine ev_ret (ef_switched_r_r3 X I J R T a q98 _ _) ?_
    subst hq98
    exact ⟨b1, rfl, rfl, rfl, rfl⟩
set_option maxRecDepth 100000 in
set_option maxHeartbeats 100000 in
theorem eh_switched_r_r1 (X : ez_X) (I : Nat → Nat → Int32) (J : Nat → Nat → Int64) (R : Nat → Nat) (T : List ez_C) (a : Int32) (cz kz : Nat) : ∀ G : ez_F, fx_up X 5 G 226 0 [.ref 35, .int a] [] (ev_hp ev_I0 ev_J0 ev_R0 []) cz kz = ev_C G 198 [.long (a.toInt64), .long 0, .long 1] (ev_hp ev_I0 ev_J0 ev_R0 []) fun r h1 c1 k1 => G 226 7 [.ref 35, .int a] (r.toList ++ []) h1 (cz + c1) (kz + k1) := by
  intro G
  rfl
set_option maxRecDepth 100000 in
set_option maxHeartbeats 100000 in
theorem eh_switched_r_r2 (X : ez_X) (I : Nat → Nat → Int32) (J : Nat → Nat → Int64) (R : Nat → Nat) (T : List ez_C) (a : Int32) (q99 : Int32) (cz kz : Nat) : ∀ G : ez_F, fx_up X 1 G 226 7 [.ref 35, .int a] [.int q99] (ev_hp ev_I0 ev_J0 ev_R0 []) cz kz = bif decide (¬ q99 = 0) then G 226 13 [.ref 35, .int a] [] (ev_hp ev_I0 ev_J0 ev_R0 []) cz kz else G 226 10 [.ref 35, .int a] [] (ev_hp ev_I0 ev_J0 ev_R0 []) cz kz := by
  intro G
  rfl
set_option maxRecDepth 100000 in
set_option maxHeartbeats 100000 in
theorem eh_switched_r_r3 (X : ez_X) (I : Nat → Nat → Int32) (J : Nat → Nat → Int64) (R : Nat → Nat) (T : List ez_C) (a : Int32) (q99 : Int32) (cz kz : Nat) : ∀ G : ez_F, fx_up X 2 G 226 10 [.ref 35, .int a] [] (ev_hp ev_I0 ev_J0 ev_R0 []) cz kz = some (some (.int (-3)), (ev_hp ev_I0 ev_J0 ev_R0 []), cz, kz) := by
  intro G
  rfl
theorem eh_switched_r (X : ez_X) (I : Nat → Nat → Int32) (J : Nat → Nat → Int64) (R : Nat → Nat) (T : List ez_C) (a : Int32) (ha : ev_wi a 0 1 = 0) : ev_W X 226 0 (ez_lay [.ref 35, .int a]) [] (ev_hp ev_I0 ev_J0 ev_R0 []) 0 0 (fun r h1 c1 k1 => ((¬ (¬ ((ev_il (a.toInt64) 0 1)) = 0)) ∧ r = some (.int (-3)) ∧ h1 = (ev_hp ev_I0 ev_J0 ev_R0 []) ∧ c1 = 0 ∧ k1 = 0)) := by
  refine ev_call (eh_switched_r_r1 X I J R T a _ _) (ec_in X (ev_hp ev_I0 ev_J0 ev_R0 []) (a.toInt64) 0 1) ?_
  rintro _ _ _ _ ⟨rfl, rfl, rfl, rfl⟩
  generalize hq99 : (ev_il (a.toInt64) 0 1) = q99
  refine ev_if (eh_switched_r_r2 X I J R T a q99 _ _) (fun b1 => ?_) (fun b1 => ?_)
  · replace b1 := of_decide_eq_true b1
    exact (b1 (by rw [← hq99]; exact ((ev_il_wi a 0 1).trans ha))).elim
  · replace b1 := of_decide_eq_false b1
    refine ev_ret (eh_switched_r_r3 X I J R T a q99 _ _) ?_
    subst hq99
    exact ⟨b1, rfl, rfl, rfl, rfl⟩
set_option maxRecDepth 100000 in
set_option maxHeartbeats 100000 in
theorem eo_switched_r_r1 (xs : Nat → Int32)  (cz kz : Nat) : ∀ G : ez_F, fx_up (4, xs) 2 G 241 927 [ez_scr, .ref 0, .ref 35, .int 0] [] (ev_hp ev_I0 ev_J0 ev_R0 []) cz kz = G 241 929 [ez_scr, .ref 0, .ref 35, .int 0] [ez_scr, .ref 0] (ev_hp ev_I0 ev_J0 ev_R0 []) cz kz := by
  intro G
  rfl
set_option maxRecDepth 100000 in
set_option maxHeartbeats 100000 in
theorem eo_switched_r_r2 (xs : Nat → Int32)  (cz kz : Nat) : ∀ G : ez_F, fx_up (4, xs) 2 G 241 929 [ez_scr, .ref 0, .ref 35, .int 0] [ez_scr, .ref 0] (ev_hp ev_I0 ev_J0 ev_R0 []) cz kz = G 241 931 [ez_scr, .ref 0, .ref 35, .int 0] [.int 1, .int 0, ez_scr, .ref 0] (ev_hp ev_I0 ev_J0 ev_R0 []) cz kz := by
  intro G
  rfl
set_option maxRecDepth 100000 in
set_option maxHeartbeats 100000 in
theorem eo_switched_r_r3 (xs : Nat → Int32)  (cz kz : Nat) : ∀ G : ez_F, fx_up (4, xs) 2 G 241 931 [ez_scr, .ref 0, .ref 35, .int 0] [.int 1, .int 0, ez_scr, .ref 0] (ev_hp ev_I0 ev_J0 ev_R0 []) cz kz = G 241 933 [ez_scr, .ref 0, .ref 35, .int 0] [.int (xs 1), .ref 0] (ev_hp ev_I0 ev_J0 ev_R0 []) cz kz := by
  intro G
  rfl
set_option maxRecDepth 100000 in
set_option maxHeartbeats 100000 in
theorem eo_switched_r_r4 (xs : Nat → Int32)  (cz kz : Nat) : ∀ G : ez_F, fx_up (4, xs) 1 G 241 933 [ez_scr, .ref 0, .ref 35, .int 0] [.int (xs 1), .ref 0] (ev_hp ev_I0 ev_J0 ev_R0 []) cz kz = ev_C G 50 [.ref 0, .int (xs 1)] (ev_hp ev_I0 ev_J0 ev_R0 []) fun r h1 c1 k1 => G 241 936 [ez_scr, .ref 0, .ref 35, .int 0] (r.toList ++ []) h1 (cz + c1) (kz + k1) := by
  intro G
  rfl
set_option maxRecDepth 100000 in
set_option maxHeartbeats 100000 in
theorem eo_switched_r_r5 (xs : Nat → Int32)  (cz kz : Nat) : ∀ G : ez_F, fx_up (4, xs) 2 G 241 936 [ez_scr, .ref 0, .ref 35, .int 0] [.int (-3)] (ev_hp ev_I0 ev_J0 ev_R0 []) cz kz = G 241 938 [ez_scr, .ref 0, .ref 35, .int 0] [ez_scr, .ref 35, .int (-3)] (ev_hp ev_I0 ev_J0 ev_R0 []) cz kz := by
  intro G
  rfl
set_option maxRecDepth 100000 in
set_option maxHeartbeats 100000 in
theorem eo_switched_r_r6 (xs : Nat → Int32)  (cz kz : Nat) : ∀ G : ez_F, fx_up (4, xs) 2 G 241 938 [ez_scr, .ref 0, .ref 35, .int 0] [ez_scr, .ref 35, .int (-3)] (ev_hp ev_I0 ev_J0 ev_R0 []) cz kz = G 241 940 [ez_scr, .ref 0, .ref 35, .int 0] [.int 1, .int 0, ez_scr, .ref 35, .int (-3)] (ev_hp ev_I0 ev_J0 ev_R0 []) cz kz := by
  intro G
  rfl
set_option maxRecDepth 100000 in
set_option maxHeartbeats 100000 in
theorem eo_switched_r_r7 (xs : Nat → Int32)  (cz kz : Nat) : ∀ G : ez_F, fx_up (4, xs) 2 G 241 940 [ez_scr, .ref 0, .ref 35, .int 0] [.int 1, .int 0, ez_scr, .ref 35, .int (-3)] (ev_hp ev_I0 ev_J0 ev_R0 []) cz kz = G 241 942 [ez_scr, .ref 0, .ref 35, .int 0] [.int (xs 1), .ref 35, .int (-3)] (ev_hp ev_I0 ev_J0 ev_R0 []) cz kz := by
  intro G
  rfl
set_option maxRecDepth 100000 in
set_option maxHeartbeats 100000 in
theorem eo_switched_r_r8 (xs : Nat → Int32)  (cz kz : Nat) : ∀ G : ez_F, fx_up (4, xs) 1 G 241 942 [ez_scr, .ref 0, .ref 35, .int 0] [.int (xs 1), .ref 35, .int (-3)] (ev_hp ev_I0 ev_J0 ev_R0 []) cz kz = ev_C G 226 [.ref 35, .int (xs 1)] (ev_hp ev_I0 ev_J0 ev_R0 []) fun r h1 c1 k1 => G 241 945 [ez_scr, .ref 0, .ref 35, .int 0] (r.toList ++ [.int (-3)]) h1 (cz + c1) (kz + k1) := by
  intro G
  rfl
set_option maxRecDepth 100000 in
set_option maxHeartbeats 100000 in
theorem eo_switched_r_r9 (xs : Nat → Int32)  (cz kz : Nat) : ∀ G : ez_F, fx_up (4, xs) 2 G 241 945 [ez_scr, .ref 0, .ref 35, .int 0] [.int (-3), .int (-3)] (ev_hp ev_I0 ev_J0 ev_R0 []) cz kz = G 241 1078 [ez_scr, .ref 0, .ref 35, .int 4] [] (ev_hp ev_I0 ev_J0 ev_R0 []) cz kz := by
  intro G
  rfl
set_option maxRecDepth 100000 in
set_option maxHeartbeats 100000 in
theorem eo_switched_r_r10 (xs : Nat → Int32)  (cz kz : Nat) : ∀ G : ez_F, fx_up (4, xs) 2 G 241 1078 [ez_scr, .ref 0, .ref 35, .int 4] [] (ev_hp ev_I0 ev_J0 ev_R0 []) cz kz = G 241 19 [ez_scr, .ref 0, .ref 35, .int 4] [.int 4] (ev_hp ev_I0 ev_J0 ev_R0 []) cz kz := by
  intro G
  rfl
set_option maxRecDepth 100000 in
set_option maxHeartbeats 100000 in
theorem eo_switched_r_r11 (xs : Nat → Int32)  (cz kz : Nat) : ∀ G : ez_F, fx_up (4, xs) 2 G 241 19 [ez_scr, .ref 0, .ref 35, .int 4] [.int 4] (ev_hp ev_I0 ev_J0 ev_R0 []) cz kz = G 241 21 [ez_scr, .ref 0, .ref 35, .int 4] [.int 4, .int 4] (ev_hp ev_I0 ev_J0 ev_R0 []) cz kz := by
  intro G
  rfl
set_option maxRecDepth 100000 in
set_option maxHeartbeats 100000 in
theorem eo_switched_r_r12 (xs : Nat → Int32)  (cz kz : Nat) : ∀ G : ez_F, fx_up (4, xs) 2 G 241 21 [ez_scr, .ref 0, .ref 35, .int 4] [.int 4, .int 4] (ev_hp ev_I0 ev_J0 ev_R0 []) cz kz = G 241 23 [ez_scr, .ref 0, .ref 35, .int 4] [.int 0, .int 4] (ev_hp ev_I0 ev_J0 ev_R0 []) cz kz := by
  intro G
  rfl
set_option maxRecDepth 100000 in
set_option maxHeartbeats 100000 in
theorem eo_switched_r_r13 (xs : Nat → Int32)  (cz kz : Nat) : ∀ G : ez_F, fx_up (4, xs) 2 G 241 23 [ez_scr, .ref 0, .ref 35, .int 4] [.int 0, .int 4] (ev_hp ev_I0 ev_J0 ev_R0 []) cz kz = G 241 1082 [ez_scr, .ref 0, .ref 35, .int 4] [.int 1] (ev_hp ev_I0 ev_J0 ev_R0 []) cz kz := by
  intro G
  rfl
set_option maxRecDepth 100000 in
set_option maxHeartbeats 100000 in
theorem eo_switched_r_r14 (xs : Nat → Int32)  (cz kz : Nat) : ∀ G : ez_F, fx_up (4, xs) 1 G 241 1082 [ez_scr, .ref 0, .ref 35, .int 4] [.int 1] (ev_hp ev_I0 ev_J0 ev_R0 []) cz kz = some (some (.int 1), (ev_hp ev_I0 ev_J0 ev_R0 []), cz, kz) := by
  intro G
  rfl
theorem eo_switched_r (xs : Nat → Int32) (ha : ev_wi (xs 1) 0 1 = 0) : ev_P1 (4, xs) 927 := by
  refine ev_seg (eo_switched_r_r1 xs  _ _) ?_
  refine ev_seg (eo_switched_r_r2 xs  _ _) ?_
  refine ev_seg (eo_switched_r_r3 xs  _ _) ?_
  refine ev_call (eo_switched_r_r4 xs  _ _) (ef_switched_r (4, xs) ev_I0 ev_J0 ev_R0 [] (xs 1) ha) ?_
  rintro r0 _ _ _ (⟨d57, rfl, rfl, rfl, rfl⟩)
  refine ev_seg (eo_switched_r_r5 xs  _ _) ?_
  refine ev_seg (eo_switched_r_r6 xs  _ _) ?_
  refine ev_seg (eo_switched_r_r7 xs  _ _) ?_
  refine ev_call (eo_switched_r_r8 xs  _ _) (eh_switched_r (4, xs) ev_I0 ev_J0 ev_R0 [] (xs 1) ha) ?_
  rintro r0 _ _ _ (⟨d58, rfl, rfl, rfl, rfl⟩)
  refine ev_seg (eo_switched_r_r9 xs  _ _) ?_
  refine ev_seg (eo_switched_r_r10 xs  _ _) ?_
  refine ev_seg (eo_switched_r_r11 xs  _ _) ?_
  refine ev_seg (eo_switched_r_r12 xs  _ _) ?_
  refine ev_seg (eo_switched_r_r13 xs  _ _) ?_
  refine ev_ret (eo_switched_r_r14 xs  _ _) ?_
  exact ⟨rfl, by omega, by omega⟩
set_option maxRecDepth 100000 in
set_option maxHeartbeats 100000 in
theorem ef_part_r_r1 (X : ez_X) (I : Nat → Nat → Int32) (J : Nat → Nat → Int64) (R : Nat → Nat) (T : List ez_C) (a : Int32) (b : Int32) (cz kz : Nat) : ∀ G : ez_F, fx_up X 3 G 37 0 [.ref 0, .int a, .int b] [] (ev_hp ev_I0 ev_J0 ev_R0 []) cz kz = ev_C G 22 [.ref 0, .int a] (ev_hp ev_I0 ev_J0 ev_R0 []) fun r h1 c1 k1 => G 37 5 [.ref 0, .int a, .int b] (r.toList ++ []) h1 (cz + c1) (kz + k1) := by
  intro G
  rfl
set_option maxRecDepth 100000 in
set_option maxHeartbeats 100000 in
theorem ef_part_r_r2 (X : ez_X) (I : Nat → Nat → Int32) (J : Nat → Nat → Int64) (R : Nat → Nat) (T : List ez_C) (a : Int32) (b : Int32) (q100 : Int32) (cz kz : Nat) : ∀ G : ez_F, fx_up X 1 G 37 5 [.ref 0, .int a, .int b] [.int q100] (ev_hp ev_I0 ev_J0 ev_R0 []) cz kz = bif decide (¬ q100 = 0) then G 37 11 [.ref 0, .int a, .int b] [] (ev_hp ev_I0 ev_J0 ev_R0 []) cz kz else G 37 8 [.ref 0, .int a, .int b] [] (ev_hp ev_I0 ev_J0 ev_R0 []) cz kz := by
  intro G
  rfl
set_option maxRecDepth 100000 in
set_option maxHeartbeats 100000 in
theorem ef_part_r_r3 (X : ez_X) (I : Nat → Nat → Int32) (J : Nat → Nat → Int64) (R : Nat → Nat) (T : List ez_C) (a : Int32) (b : Int32) (q100 : Int32) (cz kz : Nat) : ∀ G : ez_F, fx_up X 2 G 37 8 [.ref 0, .int a, .int b] [] (ev_hp ev_I0 ev_J0 ev_R0 []) cz kz = some (some (.int (-2)), (ev_hp ev_I0 ev_J0 ev_R0 []), cz, kz) := by
  intro G
  rfl
theorem ef_part_r (X : ez_X) (I : Nat → Nat → Int32) (J : Nat → Nat → Int64) (R : Nat → Nat) (T : List ez_C) (a : Int32) (b : Int32) (ha : ev_wi a 0 24 = 0) : ev_W X 37 0 (ez_lay [.ref 0, .int a, .int b]) [] (ev_hp ev_I0 ev_J0 ev_R0 []) 0 0 (fun r h1 c1 k1 => ((¬ (¬ (((ev_wi a 0 ((25 : Int32) - (1 : Int32))))) = 0)) ∧ r = some (.int (-2)) ∧ h1 = (ev_hp ev_I0 ev_J0 ev_R0 []) ∧ c1 = 0 ∧ k1 = 0)) := by
  refine ev_call (ef_part_r_r1 X I J R T a b _ _) (eg_isCell X ev_I0 ev_J0 ev_R0 [] a) ?_
  rintro r0 _ _ _ (⟨hr0, rfl, rfl, rfl⟩)
  obtain ⟨q100, hq100⟩ : ∃ z : Int32, ((ev_wi a 0 ((25 : Int32) - (1 : Int32)))) = z := ⟨_, rfl⟩
  have eq100 : r0 = some (.int q100) := hr0.trans (by subst hq100; rfl)
  subst eq100
  refine ev_if (ef_part_r_r2 X I J R T a b q100 _ _) (fun b1 => ?_) (fun b1 => ?_)
  · replace b1 := of_decide_eq_true b1
    exact (b1 (by rw [← hq100]; exact ha)).elim
  · replace b1 := of_decide_eq_false b1
    refine ev_ret (ef_part_r_r3 X I J R T a b q100 _ _) ?_
    subst hq100
    exact ⟨b1, rfl, rfl, rfl, rfl⟩
set_option maxRecDepth 100000 in
set_option maxHeartbeats 100000 in
theorem eh_part_r_r1 (X : ez_X) (I : Nat → Nat → Int32) (J : Nat → Nat → Int64) (R : Nat → Nat) (T : List ez_C) (a : Int32) (b : Int32) (cz kz : Nat) : ∀ G : ez_F, fx_up X 3 G 214 0 [.ref 35, .int a, .int b] [] (ev_hp ev_I0 ev_J0 ev_R0 []) cz kz = ev_C G 200 [.ref 35, .int a] (ev_hp ev_I0 ev_J0 ev_R0 []) fun r h1 c1 k1 => G 214 5 [.ref 35, .int a, .int b] (r.toList ++ []) h1 (cz + c1) (kz + k1) := by
  intro G
  rfl
set_option maxRecDepth 100000 in
set_option maxHeartbeats 100000 in
theorem eh_part_r_r2 (X : ez_X) (I : Nat → Nat → Int32) (J : Nat → Nat → Int64) (R : Nat → Nat) (T : List ez_C) (a : Int32) (b : Int32) (q101 : Int32) (cz kz : Nat) : ∀ G : ez_F, fx_up X 1 G 214 5 [.ref 35, .int a, .int b] [.int q101] (ev_hp ev_I0 ev_J0 ev_R0 []) cz kz = bif decide (¬ q101 = 0) then G 214 11 [.ref 35, .int a, .int b] [] (ev_hp ev_I0 ev_J0 ev_R0 []) cz kz else G 214 8 [.ref 35, .int a, .int b] [] (ev_hp ev_I0 ev_J0 ev_R0 []) cz kz := by
  intro G
  rfl
set_option maxRecDepth 100000 in
set_option maxHeartbeats 100000 in
theorem eh_part_r_r3 (X : ez_X) (I : Nat → Nat → Int32) (J : Nat → Nat → Int64) (R : Nat → Nat) (T : List ez_C) (a : Int32) (b : Int32) (q101 : Int32) (cz kz : Nat) : ∀ G : ez_F, fx_up X 2 G 214 8 [.ref 35, .int a, .int b] [] (ev_hp ev_I0 ev_J0 ev_R0 []) cz kz = some (some (.int (-2)), (ev_hp ev_I0 ev_J0 ev_R0 []), cz, kz) := by
  intro G
  rfl
theorem eh_part_r (X : ez_X) (I : Nat → Nat → Int32) (J : Nat → Nat → Int64) (R : Nat → Nat) (T : List ez_C) (a : Int32) (b : Int32) (ha : ev_wi a 0 24 = 0) : ev_W X 214 0 (ez_lay [.ref 35, .int a, .int b]) [] (ev_hp ev_I0 ev_J0 ev_R0 []) 0 0 (fun r h1 c1 k1 => ((¬ (¬ (((ev_il (a.toInt64) 0 (((((5 : Int32) * (5 : Int32))) - (1 : Int32)).toInt64)))) = 0)) ∧ r = some (.int (-2)) ∧ h1 = (ev_hp ev_I0 ev_J0 ev_R0 []) ∧ c1 = 0 ∧ k1 = 0)) := by
  refine ev_call (eh_part_r_r1 X I J R T a b _ _) (em_isCell X ev_I0 ev_J0 ev_R0 [] a) ?_
  rintro r0 _ _ _ (⟨hr0, rfl, rfl, rfl⟩)
  obtain ⟨q101, hq101⟩ : ∃ z : Int32, ((ev_il (a.toInt64) 0 (((((5 : Int32) * (5 : Int32))) - (1 : Int32)).toInt64))) = z := ⟨_, rfl⟩
  have eq101 : r0 = some (.int q101) := hr0.trans (by subst hq101; rfl)
  subst eq101
  refine ev_if (eh_part_r_r2 X I J R T a b q101 _ _) (fun b1 => ?_) (fun b1 => ?_)
  · replace b1 := of_decide_eq_true b1
    exact (b1 (by rw [← hq101]; exact ((ev_il_wi a 0 24).trans ha))).elim
  · replace b1 := of_decide_eq_false b1
    refine ev_ret (eh_part_r_r3 X I J R T a b q101 _ _) ?_
    subst hq101
    exact ⟨b1, rfl, rfl, rfl, rfl⟩
set_option maxRecDepth 100000 in
set_option maxHeartbeats 100000 in
theorem eo_part_r_r1 (xs : Nat → Int32)  (cz kz : Nat) : ∀ G : ez_F, fx_up (4, xs) 2 G 241 730 [ez_scr, .ref 0, .ref 35, .int 0] [] (ev_hp ev_I0 ev_J0 ev_R0 []) cz kz = G 241 732 [ez_scr, .ref 0, .ref 35, .int 0] [ez_scr, .ref 0] (ev_hp ev_I0 ev_J0 ev_R0 []) cz kz := by
  intro G
  rfl
set_option maxRecDepth 100000 in
set_option maxHeartbeats 100000 in
theorem eo_part_r_r2 (xs : Nat → Int32)  (cz kz : Nat) : ∀ G : ez_F, fx_up (4, xs) 2 G 241 732 [ez_scr, .ref 0, .ref 35, .int 0] [ez_scr, .ref 0] (ev_hp ev_I0 ev_J0 ev_R0 []) cz kz = G 241 734 [ez_scr, .ref 0, .ref 35, .int 0] [.int 1, .int 0, ez_scr, .ref 0] (ev_hp ev_I0 ev_J0 ev_R0 []) cz kz := by
  intro G
  rfl
set_option maxRecDepth 100000 in
set_option maxHeartbeats 100000 in
theorem eo_part_r_r3 (xs : Nat → Int32)  (cz kz : Nat) : ∀ G : ez_F, fx_up (4, xs) 2 G 241 734 [ez_scr, .ref 0, .ref 35, .int 0] [.int 1, .int 0, ez_scr, .ref 0] (ev_hp ev_I0 ev_J0 ev_R0 []) cz kz = G 241 736 [ez_scr, .ref 0, .ref 35, .int 0] [.int (xs 1), .ref 0] (ev_hp ev_I0 ev_J0 ev_R0 []) cz kz := by
  intro G
  rfl
set_option maxRecDepth 100000 in
set_option maxHeartbeats 100000 in
theorem eo_part_r_r4 (xs : Nat → Int32)  (cz kz : Nat) : ∀ G : ez_F, fx_up (4, xs) 2 G 241 736 [ez_scr, .ref 0, .ref 35, .int 0] [.int (xs 1), .ref 0] (ev_hp ev_I0 ev_J0 ev_R0 []) cz kz = G 241 738 [ez_scr, .ref 0, .ref 35, .int 0] [.int 0, ez_scr, .int (xs 1), .ref 0] (ev_hp ev_I0 ev_J0 ev_R0 []) cz kz := by
  intro G
  rfl
set_option maxRecDepth 100000 in
set_option maxHeartbeats 100000 in
theorem eo_part_r_r5 (xs : Nat → Int32)  (cz kz : Nat) : ∀ G : ez_F, fx_up (4, xs) 2 G 241 738 [ez_scr, .ref 0, .ref 35, .int 0] [.int 0, ez_scr, .int (xs 1), .ref 0] (ev_hp ev_I0 ev_J0 ev_R0 []) cz kz = G 241 740 [ez_scr, .ref 0, .ref 35, .int 0] [.int 2, ez_scr, .int (xs 1), .ref 0] (ev_hp ev_I0 ev_J0 ev_R0 []) cz kz := by
  intro G
  rfl
set_option maxRecDepth 100000 in
set_option maxHeartbeats 100000 in
theorem eo_part_r_r6 (xs : Nat → Int32)  (cz kz : Nat) : ∀ G : ez_F, fx_up (4, xs) 2 G 241 740 [ez_scr, .ref 0, .ref 35, .int 0] [.int 2, ez_scr, .int (xs 1), .ref 0] (ev_hp ev_I0 ev_J0 ev_R0 []) cz kz = ev_C G 37 [.ref 0, .int (xs 1), .int (xs 2)] (ev_hp ev_I0 ev_J0 ev_R0 []) fun r h1 c1 k1 => G 241 744 [ez_scr, .ref 0, .ref 35, .int 0] (r.toList ++ []) h1 (cz + c1) (kz + k1) := by
  intro G
  rfl
set_option maxRecDepth 100000 in
set_option maxHeartbeats 100000 in
theorem eo_part_r_r7 (xs : Nat → Int32)  (cz kz : Nat) : ∀ G : ez_F, fx_up (4, xs) 2 G 241 744 [ez_scr, .ref 0, .ref 35, .int 0] [.int (-2)] (ev_hp ev_I0 ev_J0 ev_R0 []) cz kz = G 241 746 [ez_scr, .ref 0, .ref 35, .int 0] [ez_scr, .ref 35, .int (-2)] (ev_hp ev_I0 ev_J0 ev_R0 []) cz kz := by
  intro G
  rfl
set_option maxRecDepth 100000 in
set_option maxHeartbeats 100000 in
theorem eo_part_r_r8 (xs : Nat → Int32)  (cz kz : Nat) : ∀ G : ez_F, fx_up (4, xs) 2 G 241 746 [ez_scr, .ref 0, .ref 35, .int 0] [ez_scr, .ref 35, .int (-2)] (ev_hp ev_I0 ev_J0 ev_R0 []) cz kz = G 241 748 [ez_scr, .ref 0, .ref 35, .int 0] [.int 1, .int 0, ez_scr, .ref 35, .int (-2)] (ev_hp ev_I0 ev_J0 ev_R0 []) cz kz := by
  intro G
  rfl
set_option maxRecDepth 100000 in
set_option maxHeartbeats 100000 in
theorem eo_part_r_r9 (xs : Nat → Int32)  (cz kz : Nat) : ∀ G : ez_F, fx_up (4, xs) 2 G 241 748 [ez_scr, .ref 0, .ref 35, .int 0] [.int 1, .int 0, ez_scr, .ref 35, .int (-2)] (ev_hp ev_I0 ev_J0 ev_R0 []) cz kz = G 241 750 [ez_scr, .ref 0, .ref 35, .int 0] [.int (xs 1), .ref 35, .int (-2)] (ev_hp ev_I0 ev_J0 ev_R0 []) cz kz := by
  intro G
  rfl
set_option maxRecDepth 100000 in
set_option maxHeartbeats 100000 in
theorem eo_part_r_r10 (xs : Nat → Int32)  (cz kz : Nat) : ∀ G : ez_F, fx_up (4, xs) 2 G 241 750 [ez_scr, .ref 0, .ref 35, .int 0] [.int (xs 1), .ref 35, .int (-2)] (ev_hp ev_I0 ev_J0 ev_R0 []) cz kz = G 241 752 [ez_scr, .ref 0, .ref 35, .int 0] [.int 0, ez_scr, .int (xs 1), .ref 35, .int (-2)] (ev_hp ev_I0 ev_J0 ev_R0 []) cz kz := by
  intro G
  rfl
set_option maxRecDepth 100000 in
set_option maxHeartbeats 100000 in
theorem eo_part_r_r11 (xs : Nat → Int32)  (cz kz : Nat) : ∀ G : ez_F, fx_up (4, xs) 2 G 241 752 [ez_scr, .ref 0, .ref 35, .int 0] [.int 0, ez_scr, .int (xs 1), .ref 35, .int (-2)] (ev_hp ev_I0 ev_J0 ev_R0 []) cz kz = G 241 754 [ez_scr, .ref 0, .ref 35, .int 0] [.int 2, ez_scr, .int (xs 1), .ref 35, .int (-2)] (ev_hp ev_I0 ev_J0 ev_R0 []) cz kz := by
  intro G
  rfl
set_option maxRecDepth 100000 in
set_option maxHeartbeats 100000 in
theorem eo_part_r_r12 (xs : Nat → Int32)  (cz kz : Nat) : ∀ G : ez_F, fx_up (4, xs) 2 G 241 754 [ez_scr, .ref 0, .ref 35, .int 0] [.int 2, ez_scr, .int (xs 1), .ref 35, .int (-2)] (ev_hp ev_I0 ev_J0 ev_R0 []) cz kz = ev_C G 214 [.ref 35, .int (xs 1), .int (xs 2)] (ev_hp ev_I0 ev_J0 ev_R0 []) fun r h1 c1 k1 => G 241 758 [ez_scr, .ref 0, .ref 35, .int 0] (r.toList ++ [.int (-2)]) h1 (cz + c1) (kz + k1) := by
  intro G
  rfl
set_option maxRecDepth 100000 in
set_option maxHeartbeats 100000 in
theorem eo_part_r_r13 (xs : Nat → Int32)  (cz kz : Nat) : ∀ G : ez_F, fx_up (4, xs) 2 G 241 758 [ez_scr, .ref 0, .ref 35, .int 0] [.int (-2), .int (-2)] (ev_hp ev_I0 ev_J0 ev_R0 []) cz kz = G 241 1078 [ez_scr, .ref 0, .ref 35, .int 4] [] (ev_hp ev_I0 ev_J0 ev_R0 []) cz kz := by
  intro G
  rfl
set_option maxRecDepth 100000 in
set_option maxHeartbeats 100000 in
theorem eo_part_r_r14 (xs : Nat → Int32)  (cz kz : Nat) : ∀ G : ez_F, fx_up (4, xs) 2 G 241 1078 [ez_scr, .ref 0, .ref 35, .int 4] [] (ev_hp ev_I0 ev_J0 ev_R0 []) cz kz = G 241 19 [ez_scr, .ref 0, .ref 35, .int 4] [.int 4] (ev_hp ev_I0 ev_J0 ev_R0 []) cz kz := by
  intro G
  rfl
set_option maxRecDepth 100000 in
set_option maxHeartbeats 100000 in
theorem eo_part_r_r15 (xs : Nat → Int32)  (cz kz : Nat) : ∀ G : ez_F, fx_up (4, xs) 2 G 241 19 [ez_scr, .ref 0, .ref 35, .int 4] [.int 4] (ev_hp ev_I0 ev_J0 ev_R0 []) cz kz = G 241 21 [ez_scr, .ref 0, .ref 35, .int 4] [.int 4, .int 4] (ev_hp ev_I0 ev_J0 ev_R0 []) cz kz := by
  intro G
  rfl
set_option maxRecDepth 100000 in
set_option maxHeartbeats 100000 in
theorem eo_part_r_r16 (xs : Nat → Int32)  (cz kz : Nat) : ∀ G : ez_F, fx_up (4, xs) 2 G 241 21 [ez_scr, .ref 0, .ref 35, .int 4] [.int 4, .int 4] (ev_hp ev_I0 ev_J0 ev_R0 []) cz kz = G 241 23 [ez_scr, .ref 0, .ref 35, .int 4] [.int 0, .int 4] (ev_hp ev_I0 ev_J0 ev_R0 []) cz kz := by
  intro G
  rfl
set_option maxRecDepth 100000 in
set_option maxHeartbeats 100000 in
theorem eo_part_r_r17 (xs : Nat → Int32)  (cz kz : Nat) : ∀ G : ez_F, fx_up (4, xs) 2 G 241 23 [ez_scr, .ref 0, .ref 35, .int 4] [.int 0, .int 4] (ev_hp ev_I0 ev_J0 ev_R0 []) cz kz = G 241 1082 [ez_scr, .ref 0, .ref 35, .int 4] [.int 1] (ev_hp ev_I0 ev_J0 ev_R0 []) cz kz := by
  intro G
  rfl
set_option maxRecDepth 100000 in
set_option maxHeartbeats 100000 in
theorem eo_part_r_r18 (xs : Nat → Int32)  (cz kz : Nat) : ∀ G : ez_F, fx_up (4, xs) 1 G 241 1082 [ez_scr, .ref 0, .ref 35, .int 4] [.int 1] (ev_hp ev_I0 ev_J0 ev_R0 []) cz kz = some (some (.int 1), (ev_hp ev_I0 ev_J0 ev_R0 []), cz, kz) := by
  intro G
  rfl
theorem eo_part_r (xs : Nat → Int32) (ha : ev_wi (xs 1) 0 24 = 0) : ev_P1 (4, xs) 730 := by
  refine ev_seg (eo_part_r_r1 xs  _ _) ?_
  refine ev_seg (eo_part_r_r2 xs  _ _) ?_
  refine ev_seg (eo_part_r_r3 xs  _ _) ?_
  refine ev_seg (eo_part_r_r4 xs  _ _) ?_
  refine ev_seg (eo_part_r_r5 xs  _ _) ?_
  refine ev_call (eo_part_r_r6 xs  _ _) (ef_part_r (4, xs) ev_I0 ev_J0 ev_R0 [] (xs 1) (xs 2) ha) ?_
  rintro r0 _ _ _ (⟨d59, rfl, rfl, rfl, rfl⟩)
  refine ev_seg (eo_part_r_r7 xs  _ _) ?_
  refine ev_seg (eo_part_r_r8 xs  _ _) ?_
  refine ev_seg (eo_part_r_r9 xs  _ _) ?_
  refine ev_seg (eo_part_r_r10 xs  _ _) ?_
  refine ev_seg (eo_part_r_r11 xs  _ _) ?_
  refine ev_call (eo_part_r_r12 xs  _ _) (eh_part_r (4, xs) ev_I0 ev_J0 ev_R0 [] (xs 1) (xs 2) ha) ?_
  rintro r0 _ _ _ (⟨d60, rfl, rfl, rfl, rfl⟩)
  refine ev_seg (eo_part_r_r13 xs  _ _) ?_
  refine ev_seg (eo_part_r_r14 xs  _ _) ?_
  refine ev_seg (eo_part_r_r15 xs  _ _) ?_
  refine ev_seg (eo_part_r_r16 xs  _ _) ?_
  refine ev_seg (eo_part_r_r17 xs  _ _) ?_
  refine ev_ret (eo_part_r_r18 xs  _ _) ?_
  exact ⟨rfl, by omega, by omega⟩
set_option maxRecDepth 100000 in
set_option maxHeartbeats 100000 in
theorem ef_part_s_r1 (X : ez_X) (I : Nat → Nat → Int32) (J : Nat → Nat → Int64) (R : Nat → Nat) (T : List ez_C) (a : Int32) (b : Int32) (cz kz : Nat) : ∀ G : ez_F, fx_up X 3 G 37 0 [.ref 0, .int a, .int b] [] (ev_hp ev_I0 ev_J0 ev_R0 []) cz kz = ev_C G 22 [.ref 0, .int a] (ev_hp ev_I0 ev_J0 ev_R0 []) fun r h1 c1 k1 => G 37 5 [.ref 0, .int a, .int b] (r.toList ++ []) h1 (cz + c1) (kz + k1) := by
  intro G
  rfl
set_option maxRecDepth 100000 in
set_option maxHeartbeats 100000 in
theorem ef_part_s_r2 (X : ez_X) (I : Nat → Nat → Int32) (J : Nat → Nat → Int64) (R : Nat → Nat) (T : List ez_C) (a : Int32) (b : Int32) (q102 : Int32) (cz kz : Nat) : ∀ G : ez_F, fx_up X 1 G 37 5 [.ref 0, .int a, .int b] [.int q102] (ev_hp ev_I0 ev_J0 ev_R0 []) cz kz = bif decide (¬ q102 = 0) then G 37 11 [.ref 0, .int a, .int b] [] (ev_hp ev_I0 ev_J0 ev_R0 []) cz kz else G 37 8 [.ref 0, .int a, .int b] [] (ev_hp ev_I0 ev_J0 ev_R0 []) cz kz := by
  intro G
  rfl
set_option maxRecDepth 100000 in
set_option maxHeartbeats 100000 in
theorem ef_part_s_r3 (X : ez_X) (I : Nat → Nat → Int32) (J : Nat → Nat → Int64) (R : Nat → Nat) (T : List ez_C) (a : Int32) (b : Int32) (q102 : Int32) (cz kz : Nat) : ∀ G : ez_F, fx_up X 4 G 37 11 [.ref 0, .int a, .int b] [] (ev_hp ev_I0 ev_J0 ev_R0 []) cz kz = ev_C G 55 [.int b, .int 0, .int 2] (ev_hp ev_I0 ev_J0 ev_R0 []) fun r h1 c1 k1 => G 37 17 [.ref 0, .int a, .int b] (r.toList ++ []) h1 (cz + c1) (kz + k1) := by
  intro G
  rfl
set_option maxRecDepth 100000 in
set_option maxHeartbeats 100000 in
theorem ef_part_s_r4 (X : ez_X) (I : Nat → Nat → Int32) (J : Nat → Nat → Int64) (R : Nat → Nat) (T : List ez_C) (a : Int32) (b : Int32) (q102 : Int32) (q103 : Int32) (cz kz : Nat) : ∀ G : ez_F, fx_up X 1 G 37 17 [.ref 0, .int a, .int b] [.int q103] (ev_hp ev_I0 ev_J0 ev_R0 []) cz kz = bif decide (¬ q103 = 0) then G 37 23 [.ref 0, .int a, .int b] [] (ev_hp ev_I0 ev_J0 ev_R0 []) cz kz else G 37 20 [.ref 0, .int a, .int b] [] (ev_hp ev_I0 ev_J0 ev_R0 []) cz kz := by
  intro G
  rfl
set_option maxRecDepth 100000 in
set_option maxHeartbeats 100000 in
theorem ef_part_s_r5 (X : ez_X) (I : Nat → Nat → Int32) (J : Nat → Nat → Int64) (R : Nat → Nat) (T : List ez_C) (a : Int32) (b : Int32) (q102 : Int32) (q103 : Int32) (cz kz : Nat) : ∀ G : ez_F, fx_up X 2 G 37 20 [.ref 0, .int a, .int b] [] (ev_hp ev_I0 ev_J0 ev_R0 []) cz kz = some (some (.int (-3)), (ev_hp ev_I0 ev_J0 ev_R0 []), cz, kz) := by
  intro G
  rfl
theorem ef_part_s (X : ez_X) (I : Nat → Nat → Int32) (J : Nat → Nat → Int64) (R : Nat → Nat) (T : List ez_C) (a : Int32) (b : Int32) (ha : ¬ ev_wi a 0 24 = 0) (hb : ev_wi b 0 2 = 0) : ev_W X 37 0 (ez_lay [.ref 0, .int a, .int b]) [] (ev_hp ev_I0 ev_J0 ev_R0 []) 0 0 (fun r h1 c1 k1 => ((¬ (((ev_wi a 0 ((25 : Int32) - (1 : Int32))))) = 0) ∧ (¬ (¬ ((ev_wi b 0 2)) = 0)) ∧ r = some (.int (-3)) ∧ h1 = (ev_hp ev_I0 ev_J0 ev_R0 []) ∧ c1 = 0 ∧ k1 = 0)) := by
  refine ev_call (ef_part_s_r1 X I J R T a b _ _) (eg_isCell X ev_I0 ev_J0 ev_R0 [] a) ?_
  rintro r0 _ _ _ (⟨hr0, rfl, rfl, rfl⟩)
  obtain ⟨q102, hq102⟩ : ∃ z : Int32, ((ev_wi a 0 ((25 : Int32) - (1 : Int32)))) = z := ⟨_, rfl⟩
  have eq102 : r0 = some (.int q102) := hr0.trans (by subst hq102; rfl)
  subst eq102
  refine ev_if (ef_part_s_r2 X I J R T a b q102 _ _) (fun b1 => ?_) (fun b1 => ?_)
  · replace b1 := of_decide_eq_true b1
    refine ev_call (ef_part_s_r3 X I J R T a b q102 _ _) (ec_within X (ev_hp ev_I0 ev_J0 ev_R0 []) b 0 2) ?_
    rintro _ _ _ _ ⟨rfl, rfl, rfl, rfl⟩
    generalize hq103 : (ev_wi b 0 2) = q103
    refine ev_if (ef_part_s_r4 X I J R T a b q102 q103 _ _) (fun b2 => ?_) (fun b2 => ?_)
    · replace b2 := of_decide_eq_true b2
      exact (b2 (by rw [← hq103]; exact hb)).elim
    · replace b2 := of_decide_eq_false b2
      refine ev_ret (ef_part_s_r5 X I J R T a b q102 q103 _ _) ?_
      subst hq103
      subst hq102
      exact ⟨b1, b2, rfl, rfl, rfl, rfl⟩
  · replace b1 := of_decide_eq_false b1
    exact (b1 (fun hz => ha (hq102.trans hz))).elim
set_option maxRecDepth 100000 in
set_option maxHeartbeats 100000 in
theorem eh_part_s_r1 (X : ez_X) (I : Nat → Nat → Int32) (J : Nat → Nat → Int64) (R : Nat → Nat) (T : List ez_C) (a : Int32) (b : Int32) (cz kz : Nat) : ∀ G : ez_F, fx_up X 3 G 214 0 [.ref 35, .int a, .int b] [] (ev_hp ev_I0 ev_J0 ev_R0 []) cz kz = ev_C G 200 [.ref 35, .int a] (ev_hp ev_I0 ev_J0 ev_R0 []) fun r h1 c1 k1 => G 214 5 [.ref 35, .int a, .int b] (r.toList ++ []) h1 (cz + c1) (kz + k1) := by
  intro G
  rfl
set_option maxRecDepth 100000 in
set_option maxHeartbeats 100000 in
theorem eh_part_s_r2 (X : ez_X) (I : Nat → Nat → Int32) (J : Nat → Nat → Int64) (R : Nat → Nat) (T : List ez_C) (a : Int32) (b : Int32) (q104 : Int32) (cz kz : Nat) : ∀ G : ez_F, fx_up X 1 G 214 5 [.ref 35, .int a, .int b] [.int q104] (ev_hp ev_I0 ev_J0 ev_R0 []) cz kz = bif decide (¬ q104 = 0) then G 214 11 [.ref 35, .int a, .int b] [] (ev_hp ev_I0 ev_J0 ev_R0 []) cz kz else G 214 8 [.ref 35, .int a, .int b] [] (ev_hp ev_I0 ev_J0 ev_R0 []) cz kz := by
  intro G
  rfl
set_option maxRecDepth 100000 in
set_option maxHeartbeats 100000 in
theorem eh_part_s_r3 (X : ez_X) (I : Nat → Nat → Int32) (J : Nat → Nat → Int64) (R : Nat → Nat) (T : List ez_C) (a : Int32) (b : Int32) (q104 : Int32) (cz kz : Nat) : ∀ G : ez_F, fx_up X 5 G 214 11 [.ref 35, .int a, .int b] [] (ev_hp ev_I0 ev_J0 ev_R0 []) cz kz = ev_C G 198 [.long (b.toInt64), .long 0, .long 2] (ev_hp ev_I0 ev_J0 ev_R0 []) fun r h1 c1 k1 => G 214 20 [.ref 35, .int a, .int b] (r.toList ++ []) h1 (cz + c1) (kz + k1) := by
  intro G
  rfl
set_option maxRecDepth 100000 in
set_option maxHeartbeats 100000 in
theorem eh_part_s_r4 (X : ez_X) (I : Nat → Nat → Int32) (J : Nat → Nat → Int64) (R : Nat → Nat) (T : List ez_C) (a : Int32) (b : Int32) (q104 : Int32) (q105 : Int32) (cz kz : Nat) : ∀ G : ez_F, fx_up X 1 G 214 20 [.ref 35, .int a, .int b] [.int q105] (ev_hp ev_I0 ev_J0 ev_R0 []) cz kz = bif decide (¬ q105 = 0) then G 214 26 [.ref 35, .int a, .int b] [] (ev_hp ev_I0 ev_J0 ev_R0 []) cz kz else G 214 23 [.ref 35, .int a, .int b] [] (ev_hp ev_I0 ev_J0 ev_R0 []) cz kz := by
  intro G
  rfl
set_option maxRecDepth 100000 in
set_option maxHeartbeats 100000 in
theorem eh_part_s_r5 (X : ez_X) (I : Nat → Nat → Int32) (J : Nat → Nat → Int64) (R : Nat → Nat) (T : List ez_C) (a : Int32) (b : Int32) (q104 : Int32) (q105 : Int32) (cz kz : Nat) : ∀ G : ez_F, fx_up X 2 G 214 23 [.ref 35, .int a, .int b] [] (ev_hp ev_I0 ev_J0 ev_R0 []) cz kz = some (some (.int (-3)), (ev_hp ev_I0 ev_J0 ev_R0 []), cz, kz) := by
  intro G
  rfl
theorem eh_part_s (X : ez_X) (I : Nat → Nat → Int32) (J : Nat → Nat → Int64) (R : Nat → Nat) (T : List ez_C) (a : Int32) (b : Int32) (ha : ¬ ev_wi a 0 24 = 0) (hb : ev_wi b 0 2 = 0) : ev_W X 214 0 (ez_lay [.ref 35, .int a, .int b]) [] (ev_hp ev_I0 ev_J0 ev_R0 []) 0 0 (fun r h1 c1 k1 => ((¬ (((ev_il (a.toInt64) 0 (((((5 : Int32) * (5 : Int32))) - (1 : Int32)).toInt64)))) = 0) ∧ (¬ (¬ ((ev_il (b.toInt64) 0 2)) = 0)) ∧ r = some (.int (-3)) ∧ h1 = (ev_hp ev_I0 ev_J0 ev_R0 []) ∧ c1 = 0 ∧ k1 = 0)) := by
  refine ev_call (eh_part_s_r1 X I J R T a b _ _) (em_isCell X ev_I0 ev_J0 ev_R0 [] a) ?_
  rintro r0 _ _ _ (⟨hr0, rfl, rfl, rfl⟩)
  obtain ⟨q104, hq104⟩ : ∃ z : Int32, ((ev_il (a.toInt64) 0 (((((5 : Int32) * (5 : Int32))) - (1 : Int32)).toInt64))) = z := ⟨_, rfl⟩
  have eq104 : r0 = some (.int q104) := hr0.trans (by subst hq104; rfl)
  subst eq104
  refine ev_if (eh_part_s_r2 X I J R T a b q104 _ _) (fun b1 => ?_) (fun b1 => ?_)
  · replace b1 := of_decide_eq_true b1
    refine ev_call (eh_part_s_r3 X I J R T a b q104 _ _) (ec_in X (ev_hp ev_I0 ev_J0 ev_R0 []) (b.toInt64) 0 2) ?_
    rintro _ _ _ _ ⟨rfl, rfl, rfl, rfl⟩
    generalize hq105 : (ev_il (b.toInt64) 0 2) = q105
    refine ev_if (eh_part_s_r4 X I J R T a b q104 q105 _ _) (fun b2 => ?_) (fun b2 => ?_)
    · replace b2 := of_decide_eq_true b2
      exact (b2 (by rw [← hq105]; exact ((ev_il_wi b 0 2).trans hb))).elim
    · replace b2 := of_decide_eq_false b2
      refine ev_ret (eh_part_s_r5 X I J R T a b q104 q105 _ _) ?_
      subst hq105
      subst hq104
      exact ⟨b1, b2, rfl, rfl, rfl, rfl⟩
  · replace b1 := of_decide_eq_false b1
    exact (b1 (fun hz => (fun hz => ha ((ev_il_wi a 0 24).symm.trans hz)) (hq104.trans hz))).elim
set_option maxRecDepth 100000 in
set_option maxHeartbeats 100000 in
theorem eo_part_s_r1 (xs : Nat → Int32)  (cz kz : Nat) : ∀ G : ez_F, fx_up (4, xs) 2 G 241 730 [ez_scr, .ref 0, .ref 35, .int 0] [] (ev_hp ev_I0 ev_J0 ev_R0 []) cz kz = G 241 732 [ez_scr, .ref 0, .ref 35, .int 0] [ez_scr, .ref 0] (ev_hp ev_I0 ev_J0 ev_R0 []) cz kz := by
  intro G
  rfl
set_option maxRecDepth 100000 in
set_option maxHeartbeats 100000 in
theorem eo_part_s_r2 (xs : Nat → Int32)  (cz kz : Nat) : ∀ G : ez_F, fx_up (4, xs) 2 G 241 732 [ez_scr, .ref 0, .ref 35, .int 0] [ez_scr, .ref 0] (ev_hp ev_I0 ev_J0 ev_R0 []) cz kz = G 241 734 [ez_scr, .ref 0, .ref 35, .int 0] [.int 1, .int 0, ez_scr, .ref 0] (ev_hp ev_I0 ev_J0 ev_R0 []) cz kz := by
  intro G
  rfl
set_option maxRecDepth 100000 in
set_option maxHeartbeats 100000 in
theorem eo_part_s_r3 (xs : Nat → Int32)  (cz kz : Nat) : ∀ G : ez_F, fx_up (4, xs) 2 G 241 734 [ez_scr, .ref 0, .ref 35, .int 0] [.int 1, .int 0, ez_scr, .ref 0] (ev_hp ev_I0 ev_J0 ev_R0 []) cz kz = G 241 736 [ez_scr, .ref 0, .ref 35, .int 0] [.int (xs 1), .ref 0] (ev_hp ev_I0 ev_J0 ev_R0 []) cz kz := by
  intro G
  rfl
set_option maxRecDepth 100000 in
set_option maxHeartbeats 100000 in
theorem eo_part_s_r4 (xs : Nat → Int32)  (cz kz : Nat) : ∀ G : ez_F, fx_up (4, xs) 2 G 241 736 [ez_scr, .ref 0, .ref 35, .int 0] [.int (xs 1), .ref 0] (ev_hp ev_I0 ev_J0 ev_R0 []) cz kz = G 241 738 [ez_scr, .ref 0, .ref 35, .int 0] [.int 0, ez_scr, .int (xs 1), .ref 0] (ev_hp ev_I0 ev_J0 ev_R0 []) cz kz := by
  intro G
  rfl
set_option maxRecDepth 100000 in
set_option maxHeartbeats 100000 in
theorem eo_part_s_r5 (xs : Nat → Int32)  (cz kz : Nat) : ∀ G : ez_F, fx_up (4, xs) 2 G 241 738 [ez_scr, .ref 0, .ref 35, .int 0] [.int 0, ez_scr, .int (xs 1), .ref 0] (ev_hp ev_I0 ev_J0 ev_R0 []) cz kz = G 241 740 [ez_scr, .ref 0, .ref 35, .int 0] [.int 2, ez_scr, .int (xs 1), .ref 0] (ev_hp ev_I0 ev_J0 ev_R0 []) cz kz := by
  intro G
  rfl
set_option maxRecDepth 100000 in
set_option maxHeartbeats 100000 in
theorem eo_part_s_r6 (xs : Nat → Int32)  (cz kz : Nat) : ∀ G : ez_F, fx_up (4, xs) 2 G 241 740 [ez_scr, .ref 0, .ref 35, .int 0] [.int 2, ez_scr, .int (xs 1), .ref 0] (ev_hp ev_I0 ev_J0 ev_R0 []) cz kz = ev_C G 37 [.ref 0, .int (xs 1), .int (xs 2)] (ev_hp ev_I0 ev_J0 ev_R0 []) fun r h1 c1 k1 => G 241 744 [ez_scr, .ref 0, .ref 35, .int 0] (r.toList ++ []) h1 (cz + c1) (kz + k1) := by
  intro G
  rfl
set_option maxRecDepth 100000 in
set_option maxHeartbeats 100000 in
theorem eo_part_s_r7 (xs : Nat → Int32)  (cz kz : Nat) : ∀ G : ez_F, fx_up (4, xs) 2 G 241 744 [ez_scr, .ref 0, .ref 35, .int 0] [.int (-3)] (ev_hp ev_I0 ev_J0 ev_R0 []) cz kz = G 241 746 [ez_scr, .ref 0, .ref 35, .int 0] [ez_scr, .ref 35, .int (-3)] (ev_hp ev_I0 ev_J0 ev_R0 []) cz kz := by
  intro G
  rfl
set_option maxRecDepth 100000 in
set_option maxHeartbeats 100000 in
theorem eo_part_s_r8 (xs : Nat → Int32)  (cz kz : Nat) : ∀ G : ez_F, fx_up (4, xs) 2 G 241 746 [ez_scr, .ref 0, .ref 35, .int 0] [ez_scr, .ref 35, .int (-3)] (ev_hp ev_I0 ev_J0 ev_R0 []) cz kz = G 241 748 [ez_scr, .ref 0, .ref 35, .int 0] [.int 1, .int 0, ez_scr, .ref 35, .int (-3)] (ev_hp ev_I0 ev_J0 ev_R0 []) cz kz := by
  intro G
  rfl
set_option maxRecDepth 100000 in
set_option maxHeartbeats 100000 in
theorem eo_part_s_r9 (xs : Nat → Int32)  (cz kz : Nat) : ∀ G : ez_F, fx_up (4, xs) 2 G 241 748 [ez_scr, .ref 0, .ref 35, .int 0] [.int 1, .int 0, ez_scr, .ref 35, .int (-3)] (ev_hp ev_I0 ev_J0 ev_R0 []) cz kz = G 241 750 [ez_scr, .ref 0, .ref 35, .int 0] [.int (xs 1), .ref 35, .int (-3)] (ev_hp ev_I0 ev_J0 ev_R0 []) cz kz := by
  intro G
  rfl
set_option maxRecDepth 100000 in
set_option maxHeartbeats 100000 in
theorem eo_part_s_r10 (xs : Nat → Int32)  (cz kz : Nat) : ∀ G : ez_F, fx_up (4, xs) 2 G 241 750 [ez_scr, .ref 0, .ref 35, .int 0] [.int (xs 1), .ref 35, .int (-3)] (ev_hp ev_I0 ev_J0 ev_R0 []) cz kz = G 241 752 [ez_scr, .ref 0, .ref 35, .int 0] [.int 0, ez_scr, .int (xs 1), .ref 35, .int (-3)] (ev_hp ev_I0 ev_J0 ev_R0 []) cz kz := by
  intro G
  rfl
set_option maxRecDepth 100000 in
set_option maxHeartbeats 100000 in
theorem eo_part_s_r11 (xs : Nat → Int32)  (cz kz : Nat) : ∀ G : ez_F, fx_up (4, xs) 2 G 241 752 [ez_scr, .ref 0, .ref 35, .int 0] [.int 0, ez_scr, .int (xs 1), .ref 35, .int (-3)] (ev_hp ev_I0 ev_J0 ev_R0 []) cz kz = G 241 754 [ez_scr, .ref 0, .ref 35, .int 0] [.int 2, ez_scr, .int (xs 1), .ref 35, .int (-3)] (ev_hp ev_I0 ev_J0 ev_R0 []) cz kz := by
  intro G
  rfl
set_option maxRecDepth 100000 in
set_option maxHeartbeats 100000 in
theorem eo_part_s_r12 (xs : Nat → Int32)  (cz kz : Nat) : ∀ G : ez_F, fx_up (4, xs) 2 G 241 754 [ez_scr, .ref 0, .ref 35, .int 0] [.int 2, ez_scr, .int (xs 1), .ref 35, .int (-3)] (ev_hp ev_I0 ev_J0 ev_R0 []) cz kz = ev_C G 214 [.ref 35, .int (xs 1), .int (xs 2)] (ev_hp ev_I0 ev_J0 ev_R0 []) fun r h1 c1 k1 => G 241 758 [ez_scr, .ref 0, .ref 35, .int 0] (r.toList ++ [.int (-3)]) h1 (cz + c1) (kz + k1) := by
  intro G
  rfl
set_option maxRecDepth 100000 in
set_option maxHeartbeats 100000 in
theorem eo_part_s_r13 (xs : Nat → Int32)  (cz kz : Nat) : ∀ G : ez_F, fx_up (4, xs) 2 G 241 758 [ez_scr, .ref 0, .ref 35, .int 0] [.int (-3), .int (-3)] (ev_hp ev_I0 ev_J0 ev_R0 []) cz kz = G 241 1078 [ez_scr, .ref 0, .ref 35, .int 4] [] (ev_hp ev_I0 ev_J0 ev_R0 []) cz kz := by
  intro G
  rfl
set_option maxRecDepth 100000 in
set_option maxHeartbeats 100000 in
theorem eo_part_s_r14 (xs : Nat → Int32)  (cz kz : Nat) : ∀ G : ez_F, fx_up (4, xs) 2 G 241 1078 [ez_scr, .ref 0, .ref 35, .int 4] [] (ev_hp ev_I0 ev_J0 ev_R0 []) cz kz = G 241 19 [ez_scr, .ref 0, .ref 35, .int 4] [.int 4] (ev_hp ev_I0 ev_J0 ev_R0 []) cz kz := by
  intro G
  rfl
set_option maxRecDepth 100000 in
set_option maxHeartbeats 100000 in
theorem eo_part_s_r15 (xs : Nat → Int32)  (cz kz : Nat) : ∀ G : ez_F, fx_up (4, xs) 2 G 241 19 [ez_scr, .ref 0, .ref 35, .int 4] [.int 4] (ev_hp ev_I0 ev_J0 ev_R0 []) cz kz = G 241 21 [ez_scr, .ref 0, .ref 35, .int 4] [.int 4, .int 4] (ev_hp ev_I0 ev_J0 ev_R0 []) cz kz := by
  intro G
  rfl
set_option maxRecDepth 100000 in
set_option maxHeartbeats 100000 in
theorem eo_part_s_r16 (xs : Nat → Int32)  (cz kz : Nat) : ∀ G : ez_F, fx_up (4, xs) 2 G 241 21 [ez_scr, .ref 0, .ref 35, .int 4] [.int 4, .int 4] (ev_hp ev_I0 ev_J0 ev_R0 []) cz kz = G 241 23 [ez_scr, .ref 0, .ref 35, .int 4] [.int 0, .int 4] (ev_hp ev_I0 ev_J0 ev_R0 []) cz kz := by
  intro G
  rfl
set_option maxRecDepth 100000 in
set_option maxHeartbeats 100000 in
theorem eo_part_s_r17 (xs : Nat → Int32)  (cz kz : Nat) : ∀ G : ez_F, fx_up (4, xs) 2 G 241 23 [ez_scr, .ref 0, .ref 35, .int 4] [.int 0, .int 4] (ev_hp ev_I0 ev_J0 ev_R0 []) cz kz = G 241 1082 [ez_scr, .ref 0, .ref 35, .int 4] [.int 1] (ev_hp ev_I0 ev_J0 ev_R0 []) cz kz := by
  intro G
  rfl
set_option maxRecDepth 100000 in
set_option maxHeartbeats 100000 in
theorem eo_part_s_r18 (xs : Nat → Int32)  (cz kz : Nat) : ∀ G : ez_F, fx_up (4, xs) 1 G 241 1082 [ez_scr, .ref 0, .ref 35, .int 4] [.int 1] (ev_hp ev_I0 ev_J0 ev_R0 []) cz kz = some (some (.int 1), (ev_hp ev_I0 ev_J0 ev_R0 []), cz, kz) := by
  intro G
  rfl
theorem eo_part_s (xs : Nat → Int32) (ha : ¬ ev_wi (xs 1) 0 24 = 0) (hb : ev_wi (xs 2) 0 2 = 0) : ev_P1 (4, xs) 730 := by
  refine ev_seg (eo_part_s_r1 xs  _ _) ?_
  refine ev_seg (eo_part_s_r2 xs  _ _) ?_
  refine ev_seg (eo_part_s_r3 xs  _ _) ?_
  refine ev_seg (eo_part_s_r4 xs  _ _) ?_
  refine ev_seg (eo_part_s_r5 xs  _ _) ?_
  refine ev_call (eo_part_s_r6 xs  _ _) (ef_part_s (4, xs) ev_I0 ev_J0 ev_R0 [] (xs 1) (xs 2) ha hb) ?_
  rintro r0 _ _ _ (⟨d61, d62, rfl, rfl, rfl, rfl⟩)
  refine ev_seg (eo_part_s_r7 xs  _ _) ?_
  refine ev_seg (eo_part_s_r8 xs  _ _) ?_
  refine ev_seg (eo_part_s_r9 xs  _ _) ?_
  refine ev_seg (eo_part_s_r10 xs  _ _) ?_
  refine ev_seg (eo_part_s_r11 xs  _ _) ?_
  refine ev_call (eo_part_s_r12 xs  _ _) (eh_part_s (4, xs) ev_I0 ev_J0 ev_R0 [] (xs 1) (xs 2) ha hb) ?_
  rintro r0 _ _ _ (⟨d63, d64, rfl, rfl, rfl, rfl⟩)
  refine ev_seg (eo_part_s_r13 xs  _ _) ?_
  refine ev_seg (eo_part_s_r14 xs  _ _) ?_
  refine ev_seg (eo_part_s_r15 xs  _ _) ?_
  refine ev_seg (eo_part_s_r16 xs  _ _) ?_
  refine ev_seg (eo_part_s_r17 xs  _ _) ?_
  refine ev_ret (eo_part_s_r18 xs  _ _) ?_
  exact ⟨rfl, by omega, by omega⟩
set_option maxRecDepth 100000 in
set_option maxHeartbeats 100000 in
theorem ef_count_r_r1 (X : ez_X) (I : Nat → Nat → Int32) (J : Nat → Nat → Int64) (R : Nat → Nat) (T : List ez_C) (a : Int32) (b : Int32) (cz kz : Nat) : ∀ G : ez_F, fx_up X 3 G 14 0 [.ref 0, .int a, .int b] [] (ev_hp ev_I0 ev_J0 ev_R0 []) cz kz = ev_C G 24 [.ref 0, .int a] (ev_hp ev_I0 ev_J0 ev_R0 []) fun r h1 c1 k1 => G 14 5 [.ref 0, .int a, .int b] (r.toList ++ []) h1 (cz + c1) (kz + k1) := by
  intro G
  rfl
set_option maxRecDepth 100000 in
set_option maxHeartbeats 100000 in
theorem ef_count_r_r2 (X : ez_X) (I : Nat → Nat → Int32) (J : Nat → Nat → Int64) (R : Nat → Nat) (T : List ez_C) (a : Int32) (b : Int32) (q106 : Int32) (cz kz : Nat) : ∀ G : ez_F, fx_up X 1 G 14 5 [.ref 0, .int a, .int b] [.int q106] (ev_hp ev_I0 ev_J0 ev_R0 []) cz kz = bif decide (¬ q106 = 0) then G 14 11 [.ref 0, .int a, .int b] [] (ev_hp ev_I0 ev_J0 ev_R0 []) cz kz else G 14 8 [.ref 0, .int a, .int b] [] (ev_hp ev_I0 ev_J0 ev_R0 []) cz kz := by
  intro G
  rfl
set_option maxRecDepth 100000 in
set_option maxHeartbeats 100000 in
theorem ef_count_r_r3 (X : ez_X) (I : Nat → Nat → Int32) (J : Nat → Nat → Int64) (R : Nat → Nat) (T : List ez_C) (a : Int32) (b : Int32) (q106 : Int32) (cz kz : Nat) : ∀ G : ez_F, fx_up X 2 G 14 8 [.ref 0, .int a, .int b] [] (ev_hp ev_I0 ev_J0 ev_R0 []) cz kz = some (some (.int (-2)), (ev_hp ev_I0 ev_J0 ev_R0 []), cz, kz) := by
  intro G
  rfl
theorem ef_count_r (X : ez_X) (I : Nat → Nat → Int32) (J : Nat → Nat → Int64) (R : Nat → Nat) (T : List ez_C) (a : Int32) (b : Int32) (ha : ev_wi a 0 9 = 0) : ev_W X 14 0 (ez_lay [.ref 0, .int a, .int b]) [] (ev_hp ev_I0 ev_J0 ev_R0 []) 0 0 (fun r h1 c1 k1 => ((¬ (¬ (((ev_wi a 0 ((((5 : Int32) + (5 : Int32))) - (1 : Int32))))) = 0)) ∧ r = some (.int (-2)) ∧ h1 = (ev_hp ev_I0 ev_J0 ev_R0 []) ∧ c1 = 0 ∧ k1 = 0)) := by
  refine ev_call (ef_count_r_r1 X I J R T a b _ _) (eg_isRim X ev_I0 ev_J0 ev_R0 [] a) ?_
  rintro r0 _ _ _ (⟨hr0, rfl, rfl, rfl⟩)
  obtain ⟨q106, hq106⟩ : ∃ z : Int32, ((ev_wi a 0 ((((5 : Int32) + (5 : Int32))) - (1 : Int32)))) = z := ⟨_, rfl⟩
  have eq106 : r0 = some (.int q106) := hr0.trans (by subst hq106; rfl)
  subst eq106
  refine ev_if (ef_count_r_r2 X I J R T a b q106 _ _) (fun b1 => ?_) (fun b1 => ?_)
  · replace b1 := of_decide_eq_true b1
    exact (b1 (by rw [← hq106]; exact ha)).elim
  · replace b1 := of_decide_eq_false b1
    refine ev_ret (ef_count_r_r3 X I J R T a b q106 _ _) ?_
    subst hq106
    exact ⟨b1, rfl, rfl, rfl, rfl⟩
set_option maxRecDepth 100000 in
set_option maxHeartbeats 100000 in
theorem eh_count_r_r1 (X : ez_X) (I : Nat → Nat → Int32) (J : Nat → Nat → Int64) (R : Nat → Nat) (T : List ez_C) (a : Int32) (b : Int32) (cz kz : Nat) : ∀ G : ez_F, fx_up X 3 G 182 0 [.ref 35, .int a, .int b] [] (ev_hp ev_I0 ev_J0 ev_R0 []) cz kz = ev_C G 203 [.ref 35, .int a] (ev_hp ev_I0 ev_J0 ev_R0 []) fun r h1 c1 k1 => G 182 5 [.ref 35, .int a, .int b] (r.toList ++ []) h1 (cz + c1) (kz + k1) := by
  intro G
  rfl
set_option maxRecDepth 100000 in
set_option maxHeartbeats 100000 in
theorem eh_count_r_r2 (X : ez_X) (I : Nat → Nat → Int32) (J : Nat → Nat → Int64) (R : Nat → Nat) (T : List ez_C) (a : Int32) (b : Int32) (q107 : Int32) (cz kz : Nat) : ∀ G : ez_F, fx_up X 1 G 182 5 [.ref 35, .int a, .int b] [.int q107] (ev_hp ev_I0 ev_J0 ev_R0 []) cz kz = bif decide (¬ q107 = 0) then G 182 11 [.ref 35, .int a, .int b] [] (ev_hp ev_I0 ev_J0 ev_R0 []) cz kz else G 182 8 [.ref 35, .int a, .int b] [] (ev_hp ev_I0 ev_J0 ev_R0 []) cz kz := by
  intro G
  rfl
set_option maxRecDepth 100000 in
set_option maxHeartbeats 100000 in
theorem eh_count_r_r3 (X : ez_X) (I : Nat → Nat → Int32) (J : Nat → Nat → Int64) (R : Nat → Nat) (T : List ez_C) (a : Int32) (b : Int32) (q107 : Int32) (cz kz : Nat) : ∀ G : ez_F, fx_up X 2 G 182 8 [.ref 35, .int a, .int b] [] (ev_hp ev_I0 ev_J0 ev_R0 []) cz kz = some (some (.int (-2)), (ev_hp ev_I0 ev_J0 ev_R0 []), cz, kz) := by
  intro G
  rfl
theorem eh_count_r (X : ez_X) (I : Nat → Nat → Int32) (J : Nat → Nat → Int64) (R : Nat → Nat) (T : List ez_C) (a : Int32) (b : Int32) (ha : ev_wi a 0 9 = 0) : ev_W X 182 0 (ez_lay [.ref 35, .int a, .int b]) [] (ev_hp ev_I0 ev_J0 ev_R0 []) 0 0 (fun r h1 c1 k1 => ((¬ (¬ (((ev_il (a.toInt64) 0 ((((5 : Int32) + (5 : Int32)) - (1 : Int32)).toInt64)))) = 0)) ∧ r = some (.int (-2)) ∧ h1 = (ev_hp ev_I0 ev_J0 ev_R0 []) ∧ c1 = 0 ∧ k1 = 0)) := by
  refine ev_call (eh_count_r_r1 X I J R T a b _ _) (em_isRim X ev_I0 ev_J0 ev_R0 [] a) ?_
  rintro r0 _ _ _ (⟨hr0, rfl, rfl, rfl⟩)
  obtain ⟨q107, hq107⟩ : ∃ z : Int32, ((ev_il (a.toInt64) 0 ((((5 : Int32) + (5 : Int32)) - (1 : Int32)).toInt64))) = z := ⟨_, rfl⟩
  have eq107 : r0 = some (.int q107) := hr0.trans (by subst hq107; rfl)
  subst eq107
  refine ev_if (eh_count_r_r2 X I J R T a b q107 _ _) (fun b1 => ?_) (fun b1 => ?_)
  · replace b1 := of_decide_eq_true b1
    exact (b1 (by rw [← hq107]; exact ((ev_il_wi a 0 9).trans ha))).elim
  · replace b1 := of_decide_eq_false b1
    refine ev_ret (eh_count_r_r3 X I J R T a b q107 _ _) ?_
    subst hq107
    exact ⟨b1, rfl, rfl, rfl, rfl⟩
set_option maxRecDepth 100000 in
set_option maxHeartbeats 100000 in
theorem eo_count_r_r1 (xs : Nat → Int32)  (cz kz : Nat) : ∀ G : ez_F, fx_up (4, xs) 2 G 241 950 [ez_scr, .ref 0, .ref 35, .int 0] [] (ev_hp ev_I0 ev_J0 ev_R0 []) cz kz = G 241 952 [ez_scr, .ref 0, .ref 35, .int 0] [ez_scr, .ref 0] (ev_hp ev_I0 ev_J0 ev_R0 []) cz kz := by
  intro G
  rfl
set_option maxRecDepth 100000 in
set_option maxHeartbeats 100000 in
theorem eo_count_r_r2 (xs : Nat → Int32)  (cz kz : Nat) : ∀ G : ez_F, fx_up (4, xs) 2 G 241 952 [ez_scr, .ref 0, .ref 35, .int 0] [ez_scr, .ref 0] (ev_hp ev_I0 ev_J0 ev_R0 []) cz kz = G 241 954 [ez_scr, .ref 0, .ref 35, .int 0] [.int 1, .int 0, ez_scr, .ref 0] (ev_hp ev_I0 ev_J0 ev_R0 []) cz kz := by
  intro G
  rfl
set_option maxRecDepth 100000 in
set_option maxHeartbeats 100000 in
theorem eo_count_r_r3 (xs : Nat → Int32)  (cz kz : Nat) : ∀ G : ez_F, fx_up (4, xs) 2 G 241 954 [ez_scr, .ref 0, .ref 35, .int 0] [.int 1, .int 0, ez_scr, .ref 0] (ev_hp ev_I0 ev_J0 ev_R0 []) cz kz = G 241 956 [ez_scr, .ref 0, .ref 35, .int 0] [.int (xs 1), .ref 0] (ev_hp ev_I0 ev_J0 ev_R0 []) cz kz := by
  intro G
  rfl
set_option maxRecDepth 100000 in
set_option maxHeartbeats 100000 in
theorem eo_count_r_r4 (xs : Nat → Int32)  (cz kz : Nat) : ∀ G : ez_F, fx_up (4, xs) 2 G 241 956 [ez_scr, .ref 0, .ref 35, .int 0] [.int (xs 1), .ref 0] (ev_hp ev_I0 ev_J0 ev_R0 []) cz kz = G 241 958 [ez_scr, .ref 0, .ref 35, .int 0] [.int 0, ez_scr, .int (xs 1), .ref 0] (ev_hp ev_I0 ev_J0 ev_R0 []) cz kz := by
  intro G
  rfl
set_option maxRecDepth 100000 in
set_option maxHeartbeats 100000 in
theorem eo_count_r_r5 (xs : Nat → Int32)  (cz kz : Nat) : ∀ G : ez_F, fx_up (4, xs) 2 G 241 958 [ez_scr, .ref 0, .ref 35, .int 0] [.int 0, ez_scr, .int (xs 1), .ref 0] (ev_hp ev_I0 ev_J0 ev_R0 []) cz kz = G 241 960 [ez_scr, .ref 0, .ref 35, .int 0] [.int 2, ez_scr, .int (xs 1), .ref 0] (ev_hp ev_I0 ev_J0 ev_R0 []) cz kz := by
  intro G
  rfl
set_option maxRecDepth 100000 in
set_option maxHeartbeats 100000 in
theorem eo_count_r_r6 (xs : Nat → Int32)  (cz kz : Nat) : ∀ G : ez_F, fx_up (4, xs) 2 G 241 960 [ez_scr, .ref 0, .ref 35, .int 0] [.int 2, ez_scr, .int (xs 1), .ref 0] (ev_hp ev_I0 ev_J0 ev_R0 []) cz kz = ev_C G 14 [.ref 0, .int (xs 1), .int (xs 2)] (ev_hp ev_I0 ev_J0 ev_R0 []) fun r h1 c1 k1 => G 241 964 [ez_scr, .ref 0, .ref 35, .int 0] (r.toList ++ []) h1 (cz + c1) (kz + k1) := by
  intro G
  rfl
set_option maxRecDepth 100000 in
set_option maxHeartbeats 100000 in
theorem eo_count_r_r7 (xs : Nat → Int32)  (cz kz : Nat) : ∀ G : ez_F, fx_up (4, xs) 2 G 241 964 [ez_scr, .ref 0, .ref 35, .int 0] [.int (-2)] (ev_hp ev_I0 ev_J0 ev_R0 []) cz kz = G 241 966 [ez_scr, .ref 0, .ref 35, .int 0] [ez_scr, .ref 35, .int (-2)] (ev_hp ev_I0 ev_J0 ev_R0 []) cz kz := by
  intro G
  rfl
set_option maxRecDepth 100000 in
set_option maxHeartbeats 100000 in
theorem eo_count_r_r8 (xs : Nat → Int32)  (cz kz : Nat) : ∀ G : ez_F, fx_up (4, xs) 2 G 241 966 [ez_scr, .ref 0, .ref 35, .int 0] [ez_scr, .ref 35, .int (-2)] (ev_hp ev_I0 ev_J0 ev_R0 []) cz kz = G 241 968 [ez_scr, .ref 0, .ref 35, .int 0] [.int 1, .int 0, ez_scr, .ref 35, .int (-2)] (ev_hp ev_I0 ev_J0 ev_R0 []) cz kz := by
  intro G
  rfl
set_option maxRecDepth 100000 in
set_option maxHeartbeats 100000 in
theorem eo_count_r_r9 (xs : Nat → Int32)  (cz kz : Nat) : ∀ G : ez_F, fx_up (4, xs) 2 G 241 968 [ez_scr, .ref 0, .ref 35, .int 0] [.int 1, .int 0, ez_scr, .ref 35, .int (-2)] (ev_hp ev_I0 ev_J0 ev_R0 []) cz kz = G 241 970 [ez_scr, .ref 0, .ref 35, .int 0] [.int (xs 1), .ref 35, .int (-2)] (ev_hp ev_I0 ev_J0 ev_R0 []) cz kz := by
  intro G
  rfl
set_option maxRecDepth 100000 in
set_option maxHeartbeats 100000 in
theorem eo_count_r_r10 (xs : Nat → Int32)  (cz kz : Nat) : ∀ G : ez_F, fx_up (4, xs) 2 G 241 970 [ez_scr, .ref 0, .ref 35, .int 0] [.int (xs 1), .ref 35, .int (-2)] (ev_hp ev_I0 ev_J0 ev_R0 []) cz kz = G 241 972 [ez_scr, .ref 0, .ref 35, .int 0] [.int 0, ez_scr, .int (xs 1), .ref 35, .int (-2)] (ev_hp ev_I0 ev_J0 ev_R0 []) cz kz := by
  intro G
  rfl
set_option maxRecDepth 100000 in
set_option maxHeartbeats 100000 in
theorem eo_count_r_r11 (xs : Nat → Int32)  (cz kz : Nat) : ∀ G : ez_F, fx_up (4, xs) 2 G 241 972 [ez_scr, .ref 0, .ref 35, .int 0] [.int 0, ez_scr, .int (xs 1), .ref 35, .int (-2)] (ev_hp ev_I0 ev_J0 ev_R0 []) cz kz = G 241 974 [ez_scr, .ref 0, .ref 35, .int 0] [.int 2, ez_scr, .int (xs 1), .ref 35, .int (-2)] (ev_hp ev_I0 ev_J0 ev_R0 []) cz kz := by
  intro G
  rfl
set_option maxRecDepth 100000 in
set_option maxHeartbeats 100000 in
theorem eo_count_r_r12 (xs : Nat → Int32)  (cz kz : Nat) : ∀ G : ez_F, fx_up (4, xs) 2 G 241 974 [ez_scr, .ref 0, .ref 35, .int 0] [.int 2, ez_scr, .int (xs 1), .ref 35, .int (-2)] (ev_hp ev_I0 ev_J0 ev_R0 []) cz kz = ev_C G 182 [.ref 35, .int (xs 1), .int (xs 2)] (ev_hp ev_I0 ev_J0 ev_R0 []) fun r h1 c1 k1 => G 241 978 [ez_scr, .ref 0, .ref 35, .int 0] (r.toList ++ [.int (-2)]) h1 (cz + c1) (kz + k1) := by
  intro G
  rfl
set_option maxRecDepth 100000 in
set_option maxHeartbeats 100000 in
theorem eo_count_r_r13 (xs : Nat → Int32)  (cz kz : Nat) : ∀ G : ez_F, fx_up (4, xs) 2 G 241 978 [ez_scr, .ref 0, .ref 35, .int 0] [.int (-2), .int (-2)] (ev_hp ev_I0 ev_J0 ev_R0 []) cz kz = G 241 1078 [ez_scr, .ref 0, .ref 35, .int 4] [] (ev_hp ev_I0 ev_J0 ev_R0 []) cz kz := by
  intro G
  rfl
set_option maxRecDepth 100000 in
set_option maxHeartbeats 100000 in
theorem eo_count_r_r14 (xs : Nat → Int32)  (cz kz : Nat) : ∀ G : ez_F, fx_up (4, xs) 2 G 241 1078 [ez_scr, .ref 0, .ref 35, .int 4] [] (ev_hp ev_I0 ev_J0 ev_R0 []) cz kz = G 241 19 [ez_scr, .ref 0, .ref 35, .int 4] [.int 4] (ev_hp ev_I0 ev_J0 ev_R0 []) cz kz := by
  intro G
  rfl
set_option maxRecDepth 100000 in
set_option maxHeartbeats 100000 in
theorem eo_count_r_r15 (xs : Nat → Int32)  (cz kz : Nat) : ∀ G : ez_F, fx_up (4, xs) 2 G 241 19 [ez_scr, .ref 0, .ref 35, .int 4] [.int 4] (ev_hp ev_I0 ev_J0 ev_R0 []) cz kz = G 241 21 [ez_scr, .ref 0, .ref 35, .int 4] [.int 4, .int 4] (ev_hp ev_I0 ev_J0 ev_R0 []) cz kz := by
  intro G
  rfl
set_option maxRecDepth 100000 in
set_option maxHeartbeats 100000 in
theorem eo_count_r_r16 (xs : Nat → Int32)  (cz kz : Nat) : ∀ G : ez_F, fx_up (4, xs) 2 G 241 21 [ez_scr, .ref 0, .ref 35, .int 4] [.int 4, .int 4] (ev_hp ev_I0 ev_J0 ev_R0 []) cz kz = G 241 23 [ez_scr, .ref 0, .ref 35, .int 4] [.int 0, .int 4] (ev_hp ev_I0 ev_J0 ev_R0 []) cz kz := by
  intro G
  rfl
set_option maxRecDepth 100000 in
set_option maxHeartbeats 100000 in
theorem eo_count_r_r17 (xs : Nat → Int32)  (cz kz : Nat) : ∀ G : ez_F, fx_up (4, xs) 2 G 241 23 [ez_scr, .ref 0, .ref 35, .int 4] [.int 0, .int 4] (ev_hp ev_I0 ev_J0 ev_R0 []) cz kz = G 241 1082 [ez_scr, .ref 0, .ref 35, .int 4] [.int 1] (ev_hp ev_I0 ev_J0 ev_R0 []) cz kz := by
  intro G
  rfl
set_option maxRecDepth 100000 in
set_option maxHeartbeats 100000 in
theorem eo_count_r_r18 (xs : Nat → Int32)  (cz kz : Nat) : ∀ G : ez_F, fx_up (4, xs) 1 G 241 1082 [ez_scr, .ref 0, .ref 35, .int 4] [.int 1] (ev_hp ev_I0 ev_J0 ev_R0 []) cz kz = some (some (.int 1), (ev_hp ev_I0 ev_J0 ev_R0 []), cz, kz) := by
  intro G
  rfl
theorem eo_count_r (xs : Nat → Int32) (ha : ev_wi (xs 1) 0 9 = 0) : ev_P1 (4, xs) 950 := by
  refine ev_seg (eo_count_r_r1 xs  _ _) ?_
  refine ev_seg (eo_count_r_r2 xs  _ _) ?_
  refine ev_seg (eo_count_r_r3 xs  _ _) ?_
  refine ev_seg (eo_count_r_r4 xs  _ _) ?_
  refine ev_seg (eo_count_r_r5 xs  _ _) ?_
  refine ev_call (eo_count_r_r6 xs  _ _) (ef_count_r (4, xs) ev_I0 ev_J0 ev_R0 [] (xs 1) (xs 2) ha) ?_
  rintro r0 _ _ _ (⟨d65, rfl, rfl, rfl, rfl⟩)
  refine ev_seg (eo_count_r_r7 xs  _ _) ?_
  refine ev_seg (eo_count_r_r8 xs  _ _) ?_
  refine ev_seg (eo_count_r_r9 xs  _ _) ?_
  refine ev_seg (eo_count_r_r10 xs  _ _) ?_
  refine ev_seg (eo_count_r_r11 xs  _ _) ?_
  refine ev_call (eo_count_r_r12 xs  _ _) (eh_count_r (4, xs) ev_I0 ev_J0 ev_R0 [] (xs 1) (xs 2) ha) ?_
  rintro r0 _ _ _ (⟨d66, rfl, rfl, rfl, rfl⟩)
  refine ev_seg (eo_count_r_r13 xs  _ _) ?_
  refine ev_seg (eo_count_r_r14 xs  _ _) ?_
  refine ev_seg (eo_count_r_r15 xs  _ _) ?_
  refine ev_seg (eo_count_r_r16 xs  _ _) ?_
  refine ev_seg (eo_count_r_r17 xs  _ _) ?_
  refine ev_ret (eo_count_r_r18 xs  _ _) ?_
  exact ⟨rfl, by omega, by omega⟩
set_option maxRecDepth 100000 in
set_option maxHeartbeats 100000 in
theorem ef_count_s_r1 (X : ez_X) (I : Nat → Nat → Int32) (J : Nat → Nat → Int64) (R : Nat → Nat) (T : List ez_C) (a : Int32) (b : Int32) (cz kz : Nat) : ∀ G : ez_F, fx_up X 3 G 14 0 [.ref 0, .int a, .int b] [] (ev_hp ev_I0 ev_J0 ev_R0 []) cz kz = ev_C G 24 [.ref 0, .int a] (ev_hp ev_I0 ev_J0 ev_R0 []) fun r h1 c1 k1 => G 14 5 [.ref 0, .int a, .int b] (r.toList ++ []) h1 (cz + c1) (kz + k1) := by
  intro G
  rfl
set_option maxRecDepth 100000 in
set_option maxHeartbeats 100000 in
theorem ef_count_s_r2 (X : ez_X) (I : Nat → Nat → Int32) (J : Nat → Nat → Int64) (R : Nat → Nat) (T : List ez_C) (a : Int32) (b : Int32) (q108 : Int32) (cz kz : Nat) : ∀ G : ez_F, fx_up X 1 G 14 5 [.ref 0, .int a, .int b] [.int q108] (ev_hp ev_I0 ev_J0 ev_R0 []) cz kz = bif decide (¬ q108 = 0) then G 14 11 [.ref 0, .int a, .int b] [] (ev_hp ev_I0 ev_J0 ev_R0 []) cz kz else G 14 8 [.ref 0, .int a, .int b] [] (ev_hp ev_I0 ev_J0 ev_R0 []) cz kz := by
  intro G
  rfl
set_option maxRecDepth 100000 in
set_option maxHeartbeats 100000 in
theorem ef_count_s_r3 (X : ez_X) (I : Nat → Nat → Int32) (J : Nat → Nat → Int64) (R : Nat → Nat) (T : List ez_C) (a : Int32) (b : Int32) (q108 : Int32) (cz kz : Nat) : ∀ G : ez_F, fx_up X 4 G 14 11 [.ref 0, .int a, .int b] [] (ev_hp ev_I0 ev_J0 ev_R0 []) cz kz = ev_C G 55 [.int b, .int 0, .int 7] (ev_hp ev_I0 ev_J0 ev_R0 []) fun r h1 c1 k1 => G 14 18 [.ref 0, .int a, .int b] (r.toList ++ []) h1 (cz + c1) (kz + k1) := by
  intro G
  rfl
set_option maxRecDepth 100000 in
set_option maxHeartbeats 100000 in
theorem ef_count_s_r4 (X : ez_X) (I : Nat → Nat → Int32) (J : Nat → Nat → Int64) (R : Nat → Nat) (T : List ez_C) (a : Int32) (b : Int32) (q108 : Int32) (q109 : Int32) (cz kz : Nat) : ∀ G : ez_F, fx_up X 1 G 14 18 [.ref 0, .int a, .int b] [.int q109] (ev_hp ev_I0 ev_J0 ev_R0 []) cz kz = bif decide (q109 = 0) then G 14 43 [.ref 0, .int a, .int b] [] (ev_hp ev_I0 ev_J0 ev_R0 []) cz kz else G 14 21 [.ref 0, .int a, .int b] [] (ev_hp ev_I0 ev_J0 ev_R0 []) cz kz := by
  intro G
  rfl
set_option maxRecDepth 100000 in
set_option maxHeartbeats 100000 in
theorem ef_count_s_r5 (X : ez_X) (I : Nat → Nat → Int32) (J : Nat → Nat → Int64) (R : Nat → Nat) (T : List ez_C) (a : Int32) (b : Int32) (q108 : Int32) (q109 : Int32) (cz kz : Nat) : ∀ G : ez_F, fx_up X 2 G 14 43 [.ref 0, .int a, .int b] [] (ev_hp ev_I0 ev_J0 ev_R0 []) cz kz = some (some (.int (-3)), (ev_hp ev_I0 ev_J0 ev_R0 []), cz, kz) := by
  intro G
  rfl
theorem ef_count_s (X : ez_X) (I : Nat → Nat → Int32) (J : Nat → Nat → Int64) (R : Nat → Nat) (T : List ez_C) (a : Int32) (b : Int32) (ha : ¬ ev_wi a 0 9 = 0) (hb : ev_wi b 0 7 = 0) : ev_W X 14 0 (ez_lay [.ref 0, .int a, .int b]) [] (ev_hp ev_I0 ev_J0 ev_R0 []) 0 0 (fun r h1 c1 k1 => ((¬ (((ev_wi a 0 ((((5 : Int32) + (5 : Int32))) - (1 : Int32))))) = 0) ∧ (((ev_wi b 0 7)) = 0) ∧ r = some (.int (-3)) ∧ h1 = (ev_hp ev_I0 ev_J0 ev_R0 []) ∧ c1 = 0 ∧ k1 = 0)) := by
  refine ev_call (ef_count_s_r1 X I J R T a b _ _) (eg_isRim X ev_I0 ev_J0 ev_R0 [] a) ?_
  rintro r0 _ _ _ (⟨hr0, rfl, rfl, rfl⟩)
  obtain ⟨q108, hq108⟩ : ∃ z : Int32, ((ev_wi a 0 ((((5 : Int32) + (5 : Int32))) - (1 : Int32)))) = z := ⟨_, rfl⟩
  have eq108 : r0 = some (.int q108) := hr0.trans (by subst hq108; rfl)
  subst eq108
  refine ev_if (ef_count_s_r2 X I J R T a b q108 _ _) (fun b1 => ?_) (fun b1 => ?_)
  · replace b1 := of_decide_eq_true b1
    refine ev_call (ef_count_s_r3 X I J R T a b q108 _ _) (ec_within X (ev_hp ev_I0 ev_J0 ev_R0 []) b 0 7) ?_
    rintro _ _ _ _ ⟨rfl, rfl, rfl, rfl⟩
    generalize hq109 : (ev_wi b 0 7) = q109
    refine ev_if (ef_count_s_r4 X I J R T a b q108 q109 _ _) (fun b2 => ?_) (fun b2 => ?_)
    · replace b2 := of_decide_eq_true b2
      refine ev_ret (ef_count_s_r5 X I J R T a b q108 q109 _ _) ?_
      subst hq109
      subst hq108
      exact ⟨b1, b2, rfl, rfl, rfl, rfl⟩
    · replace b2 := of_decide_eq_false b2
      exact (b2 (by rw [← hq109]; exact hb)).elim
  · replace b1 := of_decide_eq_false b1
    exact (b1 (fun hz => ha (hq108.trans hz))).elim
set_option maxRecDepth 100000 in
set_option maxHeartbeats 100000 in
theorem eh_count_s_r1 (X : ez_X) (I : Nat → Nat → Int32) (J : Nat → Nat → Int64) (R : Nat → Nat) (T : List ez_C) (a : Int32) (b : Int32) (cz kz : Nat) : ∀ G : ez_F, fx_up X 3 G 182 0 [.ref 35, .int a, .int b] [] (ev_hp ev_I0 ev_J0 ev_R0 []) cz kz = ev_C G 203 [.ref 35, .int a] (ev_hp ev_I0 ev_J0 ev_R0 []) fun r h1 c1 k1 => G 182 5 [.ref 35, .int a, .int b] (r.toList ++ []) h1 (cz + c1) (kz + k1) := by
  intro G
  rfl
set_option maxRecDepth 100000 in
set_option maxHeartbeats 100000 in
theorem eh_count_s_r2 (X : ez_X) (I : Nat → Nat → Int32) (J : Nat → Nat → Int64) (R : Nat → Nat) (T : List ez_C) (a : Int32) (b : Int32) (q110 : Int32) (cz kz : Nat) : ∀ G : ez_F, fx_up X 1 G 182 5 [.ref 35, .int a, .int b] [.int q110] (ev_hp ev_I0 ev_J0 ev_R0 []) cz kz = bif decide (¬ q110 = 0) then G 182 11 [.ref 35, .int a, .int b] [] (ev_hp ev_I0 ev_J0 ev_R0 []) cz kz else G 182 8 [.ref 35, .int a, .int b] [] (ev_hp ev_I0 ev_J0 ev_R0 []) cz kz := by
  intro G
  rfl
set_option maxRecDepth 100000 in
set_option maxHeartbeats 100000 in
theorem eh_count_s_r3 (X : ez_X) (I : Nat → Nat → Int32) (J : Nat → Nat → Int64) (R : Nat → Nat) (T : List ez_C) (a : Int32) (b : Int32) (q110 : Int32) (cz kz : Nat) : ∀ G : ez_F, fx_up X 5 G 182 11 [.ref 35, .int a, .int b] [] (ev_hp ev_I0 ev_J0 ev_R0 []) cz kz = ev_C G 198 [.long (b.toInt64), .long 0, .long 7] (ev_hp ev_I0 ev_J0 ev_R0 []) fun r h1 c1 k1 => G 182 20 [.ref 35, .int a, .int b] (r.toList ++ []) h1 (cz + c1) (kz + k1) := by
  intro G
  rfl
set_option maxRecDepth 100000 in
set_option maxHeartbeats 100000 in
theorem eh_count_s_r4 (X : ez_X) (I : Nat → Nat → Int32) (J : Nat → Nat → Int64) (R : Nat → Nat) (T : List ez_C) (a : Int32) (b : Int32) (q110 : Int32) (q111 : Int32) (cz kz : Nat) : ∀ G : ez_F, fx_up X 1 G 182 20 [.ref 35, .int a, .int b] [.int q111] (ev_hp ev_I0 ev_J0 ev_R0 []) cz kz = bif decide (¬ q111 = 0) then G 182 26 [.ref 35, .int a, .int b] [] (ev_hp ev_I0 ev_J0 ev_R0 []) cz kz else G 182 23 [.ref 35, .int a, .int b] [] (ev_hp ev_I0 ev_J0 ev_R0 []) cz kz := by
  intro G
  rfl
set_option maxRecDepth 100000 in
set_option maxHeartbeats 100000 in
theorem eh_count_s_r5 (X : ez_X) (I : Nat → Nat → Int32) (J : Nat → Nat → Int64) (R : Nat → Nat) (T : List ez_C) (a : Int32) (b : Int32) (q110 : Int32) (q111 : Int32) (cz kz : Nat) : ∀ G : ez_F, fx_up X 2 G 182 23 [.ref 35, .int a, .int b] [] (ev_hp ev_I0 ev_J0 ev_R0 []) cz kz = some (some (.int (-3)), (ev_hp ev_I0 ev_J0 ev_R0 []), cz, kz) := by
  intro G
  rfl
theorem eh_count_s (X : ez_X) (I : Nat → Nat → Int32) (J : Nat → Nat → Int64) (R : Nat → Nat) (T : List ez_C) (a : Int32) (b : Int32) (ha : ¬ ev_wi a 0 9 = 0) (hb : ev_wi b 0 7 = 0) : ev_W X 182 0 (ez_lay [.ref 35, .int a, .int b]) [] (ev_hp ev_I0 ev_J0 ev_R0 []) 0 0 (fun r h1 c1 k1 => ((¬ (((ev_il (a.toInt64) 0 ((((5 : Int32) + (5 : Int32)) - (1 : Int32)).toInt64)))) = 0) ∧ (¬ (¬ ((ev_il (b.toInt64) 0 7)) = 0)) ∧ r = some (.int (-3)) ∧ h1 = (ev_hp ev_I0 ev_J0 ev_R0 []) ∧ c1 = 0 ∧ k1 = 0)) := by
  refine ev_call (eh_count_s_r1 X I J R T a b _ _) (em_isRim X ev_I0 ev_J0 ev_R0 [] a) ?_
  rintro r0 _ _ _ (⟨hr0, rfl, rfl, rfl⟩)
  obtain ⟨q110, hq110⟩ : ∃ z : Int32, ((ev_il (a.toInt64) 0 ((((5 : Int32) + (5 : Int32)) - (1 : Int32)).toInt64))) = z := ⟨_, rfl⟩
  have eq110 : r0 = some (.int q110) := hr0.trans (by subst hq110; rfl)
  subst eq110
  refine ev_if (eh_count_s_r2 X I J R T a b q110 _ _) (fun b1 => ?_) (fun b1 => ?_)
  · replace b1 := of_decide_eq_true b1
    refine ev_call (eh_count_s_r3 X I J R T a b q110 _ _) (ec_in X (ev_hp ev_I0 ev_J0 ev_R0 []) (b.toInt64) 0 7) ?_
    rintro _ _ _ _ ⟨rfl, rfl, rfl, rfl⟩
    generalize hq111 : (ev_il (b.toInt64) 0 7) = q111
    refine ev_if (eh_count_s_r4 X I J R T a b q110 q111 _ _) (fun b2 => ?_) (fun b2 => ?_)
    · replace b2 := of_decide_eq_true b2
      exact (b2 (by rw [← hq111]; exact ((ev_il_wi b 0 7).trans hb))).elim
    · replace b2 := of_decide_eq_false b2
      refine ev_ret (eh_count_s_r5 X I J R T a b q110 q111 _ _) ?_
      subst hq111
      subst hq110
      exact ⟨b1, b2, rfl, rfl, rfl, rfl⟩
  · replace b1 := of_decide_eq_false b1
    exact (b1 (fun hz => (fun hz => ha ((ev_il_wi a 0 9).symm.trans hz)) (hq110.trans hz))).elim
set_option maxRecDepth 100000 in
set_option maxHeartbeats 100000 in
theorem eo_count_s_r1 (xs : Nat → Int32)  (cz kz : Nat) : ∀ G : ez_F, fx_up (4, xs) 2 G 241 950 [ez_scr, .ref 0, .ref 35, .int 0] [] (ev_hp ev_I0 ev_J0 ev_R0 []) cz kz = G 241 952 [ez_scr, .ref 0, .ref 35, .int 0] [ez_scr, .ref 0] (ev_hp ev_I0 ev_J0 ev_R0 []) cz kz := by
  intro G
  rfl
set_option maxRecDepth 100000 in
set_option maxHeartbeats 100000 in
theorem eo_count_s_r2 (xs : Nat → Int32)  (cz kz : Nat) : ∀ G : ez_F, fx_up (4, xs) 2 G 241 952 [ez_scr, .ref 0, .ref 35, .int 0] [ez_scr, .ref 0] (ev_hp ev_I0 ev_J0 ev_R0 []) cz kz = G 241 954 [ez_scr, .ref 0, .ref 35, .int 0] [.int 1, .int 0, ez_scr, .ref 0] (ev_hp ev_I0 ev_J0 ev_R0 []) cz kz := by
  intro G
  rfl
set_option maxRecDepth 100000 in
set_option maxHeartbeats 100000 in
theorem eo_count_s_r3 (xs : Nat → Int32)  (cz kz : Nat) : ∀ G : ez_F, fx_up (4, xs) 2 G 241 954 [ez_scr, .ref 0, .ref 35, .int 0] [.int 1, .int 0, ez_scr, .ref 0] (ev_hp ev_I0 ev_J0 ev_R0 []) cz kz = G 241 956 [ez_scr, .ref 0, .ref 35, .int 0] [.int (xs 1), .ref 0] (ev_hp ev_I0 ev_J0 ev_R0 []) cz kz := by
  intro G
  rfl
set_option maxRecDepth 100000 in
set_option maxHeartbeats 100000 in
theorem eo_count_s_r4 (xs : Nat → Int32)  (cz kz : Nat) : ∀ G : ez_F, fx_up (4, xs) 2 G 241 956 [ez_scr, .ref 0, .ref 35, .int 0] [.int (xs 1), .ref 0] (ev_hp ev_I0 ev_J0 ev_R0 []) cz kz = G 241 958 [ez_scr, .ref 0, .ref 35, .int 0] [.int 0, ez_scr, .int (xs 1), .ref 0] (ev_hp ev_I0 ev_J0 ev_R0 []) cz kz := by
  intro G
  rfl
set_option maxRecDepth 100000 in
set_option maxHeartbeats 100000 in
theorem eo_count_s_r5 (xs : Nat → Int32)  (cz kz : Nat) : ∀ G : ez_F, fx_up (4, xs) 2 G 241 958 [ez_scr, .ref 0, .ref 35, .int 0] [.int 0, ez_scr, .int (xs 1), .ref 0] (ev_hp ev_I0 ev_J0 ev_R0 []) cz kz = G 241 960 [ez_scr, .ref 0, .ref 35, .int 0] [.int 2, ez_scr, .int (xs 1), .ref 0] (ev_hp ev_I0 ev_J0 ev_R0 []) cz kz := by
  intro G
  rfl
set_option maxRecDepth 100000 in
set_option maxHeartbeats 100000 in
theorem eo_count_s_r6 (xs : Nat → Int32)  (cz kz : Nat) : ∀ G : ez_F, fx_up (4, xs) 2 G 241 960 [ez_scr, .ref 0, .ref 35, .int 0] [.int 2, ez_scr, .int (xs 1), .ref 0] (ev_hp ev_I0 ev_J0 ev_R0 []) cz kz = ev_C G 14 [.ref 0, .int (xs 1), .int (xs 2)] (ev_hp ev_I0 ev_J0 ev_R0 []) fun r h1 c1 k1 => G 241 964 [ez_scr, .ref 0, .ref 35, .int 0] (r.toList ++ []) h1 (cz + c1) (kz + k1) := by
  intro G
  rfl
set_option maxRecDepth 100000 in
set_option maxHeartbeats 100000 in
theorem eo_count_s_r7 (xs : Nat → Int32)  (cz kz : Nat) : ∀ G : ez_F, fx_up (4, xs) 2 G 241 964 [ez_scr, .ref 0, .ref 35, .int 0] [.int (-3)] (ev_hp ev_I0 ev_J0 ev_R0 []) cz kz = G 241 966 [ez_scr, .ref 0, .ref 35, .int 0] [ez_scr, .ref 35, .int (-3)] (ev_hp ev_I0 ev_J0 ev_R0 []) cz kz := by
  intro G
  rfl
set_option maxRecDepth 100000 in
set_option maxHeartbeats 100000 in
theorem eo_count_s_r8 (xs : Nat → Int32)  (cz kz : Nat) : ∀ G : ez_F, fx_up (4, xs) 2 G 241 966 [ez_scr, .ref 0, .ref 35, .int 0] [ez_scr, .ref 35, .int (-3)] (ev_hp ev_I0 ev_J0 ev_R0 []) cz kz = G 241 968 [ez_scr, .ref 0, .ref 35, .int 0] [.int 1, .int 0, ez_scr, .ref 35, .int (-3)] (ev_hp ev_I0 ev_J0 ev_R0 []) cz kz := by
  intro G
  rfl
set_option maxRecDepth 100000 in
set_option maxHeartbeats 100000 in
theorem eo_count_s_r9 (xs : Nat → Int32)  (cz kz : Nat) : ∀ G : ez_F, fx_up (4, xs) 2 G 241 968 [ez_scr, .ref 0, .ref 35, .int 0] [.int 1, .int 0, ez_scr, .ref 35, .int (-3)] (ev_hp ev_I0 ev_J0 ev_R0 []) cz kz = G 241 970 [ez_scr, .ref 0, .ref 35, .int 0] [.int (xs 1), .ref 35, .int (-3)] (ev_hp ev_I0 ev_J0 ev_R0 []) cz kz := by
  intro G
  rfl
set_option maxRecDepth 100000 in
set_option maxHeartbeats 100000 in
theorem eo_count_s_r10 (xs : Nat → Int32)  (cz kz : Nat) : ∀ G : ez_F, fx_up (4, xs) 2 G 241 970 [ez_scr, .ref 0, .ref 35, .int 0] [.int (xs 1), .ref 35, .int (-3)] (ev_hp ev_I0 ev_J0 ev_R0 []) cz kz = G 241 972 [ez_scr, .ref 0, .ref 35, .int 0] [.int 0, ez_scr, .int (xs 1), .ref 35, .int (-3)] (ev_hp ev_I0 ev_J0 ev_R0 []) cz kz := by
  intro G
  rfl
set_option maxRecDepth 100000 in
set_option maxHeartbeats 100000 in
theorem eo_count_s_r11 (xs : Nat → Int32)  (cz kz : Nat) : ∀ G : ez_F, fx_up (4, xs) 2 G 241 972 [ez_scr, .ref 0, .ref 35, .int 0] [.int 0, ez_scr, .int (xs 1), .ref 35, .int (-3)] (ev_hp ev_I0 ev_J0 ev_R0 []) cz kz = G 241 974 [ez_scr, .ref 0, .ref 35, .int 0] [.int 2, ez_scr, .int (xs 1), .ref 35, .int (-3)] (ev_hp ev_I0 ev_J0 ev_R0 []) cz kz := by
  intro G
  rfl
set_option maxRecDepth 100000 in
set_option maxHeartbeats 100000 in
theorem eo_count_s_r12 (xs : Nat → Int32)  (cz kz : Nat) : ∀ G : ez_F, fx_up (4, xs) 2 G 241 974 [ez_scr, .ref 0, .ref 35, .int 0] [.int 2, ez_scr, .int (xs 1), .ref 35, .int (-3)] (ev_hp ev_I0 ev_J0 ev_R0 []) cz kz = ev_C G 182 [.ref 35, .int (xs 1), .int (xs 2)] (ev_hp ev_I0 ev_J0 ev_R0 []) fun r h1 c1 k1 => G 241 978 [ez_scr, .ref 0, .ref 35, .int 0] (r.toList ++ [.int (-3)]) h1 (cz + c1) (kz + k1) := by
  intro G
  rfl
set_option maxRecDepth 100000 in
set_option maxHeartbeats 100000 in
theorem eo_count_s_r13 (xs : Nat → Int32)  (cz kz : Nat) : ∀ G : ez_F, fx_up (4, xs) 2 G 241 978 [ez_scr, .ref 0, .ref 35, .int 0] [.int (-3), .int (-3)] (ev_hp ev_I0 ev_J0 ev_R0 []) cz kz = G 241 1078 [ez_scr, .ref 0, .ref 35, .int 4] [] (ev_hp ev_I0 ev_J0 ev_R0 []) cz kz := by
  intro G
  rfl
set_option maxRecDepth 100000 in
set_option maxHeartbeats 100000 in
theorem eo_count_s_r14 (xs : Nat → Int32)  (cz kz : Nat) : ∀ G : ez_F, fx_up (4, xs) 2 G 241 1078 [ez_scr, .ref 0, .ref 35, .int 4] [] (ev_hp ev_I0 ev_J0 ev_R0 []) cz kz = G 241 19 [ez_scr, .ref 0, .ref 35, .int 4] [.int 4] (ev_hp ev_I0 ev_J0 ev_R0 []) cz kz := by
  intro G
  rfl
set_option maxRecDepth 100000 in
set_option maxHeartbeats 100000 in
theorem eo_count_s_r15 (xs : Nat → Int32)  (cz kz : Nat) : ∀ G : ez_F, fx_up (4, xs) 2 G 241 19 [ez_scr, .ref 0, .ref 35, .int 4] [.int 4] (ev_hp ev_I0 ev_J0 ev_R0 []) cz kz = G 241 21 [ez_scr, .ref 0, .ref 35, .int 4] [.int 4, .int 4] (ev_hp ev_I0 ev_J0 ev_R0 []) cz kz := by
  intro G
  rfl
set_option maxRecDepth 100000 in
set_option maxHeartbeats 100000 in
theorem eo_count_s_r16 (xs : Nat → Int32)  (cz kz : Nat) : ∀ G : ez_F, fx_up (4, xs) 2 G 241 21 [ez_scr, .ref 0, .ref 35, .int 4] [.int 4, .int 4] (ev_hp ev_I0 ev_J0 ev_R0 []) cz kz = G 241 23 [ez_scr, .ref 0, .ref 35, .int 4] [.int 0, .int 4] (ev_hp ev_I0 ev_J0 ev_R0 []) cz kz := by
  intro G
  rfl
set_option maxRecDepth 100000 in
set_option maxHeartbeats 100000 in
theorem eo_count_s_r17 (xs : Nat → Int32)  (cz kz : Nat) : ∀ G : ez_F, fx_up (4, xs) 2 G 241 23 [ez_scr, .ref 0, .ref 35, .int 4] [.int 0, .int 4] (ev_hp ev_I0 ev_J0 ev_R0 []) cz kz = G 241 1082 [ez_scr, .ref 0, .ref 35, .int 4] [.int 1] (ev_hp ev_I0 ev_J0 ev_R0 []) cz kz := by
  intro G
  rfl
set_option maxRecDepth 100000 in
set_option maxHeartbeats 100000 in
theorem eo_count_s_r18 (xs : Nat → Int32)  (cz kz : Nat) : ∀ G : ez_F, fx_up (4, xs) 1 G 241 1082 [ez_scr, .ref 0, .ref 35, .int 4] [.int 1] (ev_hp ev_I0 ev_J0 ev_R0 []) cz kz = some (some (.int 1), (ev_hp ev_I0 ev_J0 ev_R0 []), cz, kz) := by
  intro G
  rfl
theorem eo_count_s (xs : Nat → Int32) (ha : ¬ ev_wi (xs 1) 0 9 = 0) (hb : ev_wi (xs 2) 0 7 = 0) : ev_P1 (4, xs) 950 := by
  refine ev_seg (eo_count_s_r1 xs  _ _) ?_
  refine ev_seg (eo_count_s_r2 xs  _ _) ?_
  refine ev_seg (eo_count_s_r3 xs  _ _) ?_
  refine ev_seg (eo_count_s_r4 xs  _ _) ?_
  refine ev_seg (eo_count_s_r5 xs  _ _) ?_
  refine ev_call (eo_count_s_r6 xs  _ _) (ef_count_s (4, xs) ev_I0 ev_J0 ev_R0 [] (xs 1) (xs 2) ha hb) ?_
  rintro r0 _ _ _ (⟨d67, d68, rfl, rfl, rfl, rfl⟩)
  refine ev_seg (eo_count_s_r7 xs  _ _) ?_
  refine ev_seg (eo_count_s_r8 xs  _ _) ?_
  refine ev_seg (eo_count_s_r9 xs  _ _) ?_
  refine ev_seg (eo_count_s_r10 xs  _ _) ?_
  refine ev_seg (eo_count_s_r11 xs  _ _) ?_
  refine ev_call (eo_count_s_r12 xs  _ _) (eh_count_s (4, xs) ev_I0 ev_J0 ev_R0 [] (xs 1) (xs 2) ha hb) ?_
  rintro r0 _ _ _ (⟨d69, d70, rfl, rfl, rfl, rfl⟩)
  refine ev_seg (eo_count_s_r13 xs  _ _) ?_
  refine ev_seg (eo_count_s_r14 xs  _ _) ?_
  refine ev_seg (eo_count_s_r15 xs  _ _) ?_
  refine ev_seg (eo_count_s_r16 xs  _ _) ?_
  refine ev_seg (eo_count_s_r17 xs  _ _) ?_
  refine ev_ret (eo_count_s_r18 xs  _ _) ?_
  exact ⟨rfl, by omega, by omega⟩
set_option maxRecDepth 100000 in
set_option maxHeartbeats 100000 in
theorem ef_salvo_r_r1 (X : ez_X) (I : Nat → Nat → Int32) (J : Nat → Nat → Int64) (R : Nat → Nat) (T : List ez_C) (a : Int32) (b : Int32) (cz kz : Nat) : ∀ G : ez_F, fx_up X 3 G 41 0 [.ref 0, .int a, .int b] [] (ev_hp ev_I0 ev_J0 ev_R0 []) cz kz = ev_C G 22 [.ref 0, .int a] (ev_hp ev_I0 ev_J0 ev_R0 []) fun r h1 c1 k1 => G 41 5 [.ref 0, .int a, .int b] (r.toList ++ []) h1 (cz + c1) (kz + k1) := by
  intro G
  rfl
set_option maxRecDepth 100000 in
set_option maxHeartbeats 100000 in
theorem ef_salvo_r_r2 (X : ez_X) (I : Nat → Nat → Int32) (J : Nat → Nat → Int64) (R : Nat → Nat) (T : List ez_C) (a : Int32) (b : Int32) (q112 : Int32) (cz kz : Nat) : ∀ G : ez_F, fx_up X 1 G 41 5 [.ref 0, .int a, .int b] [.int q112] (ev_hp ev_I0 ev_J0 ev_R0 []) cz kz = bif decide (q112 = 0) then G 41 16 [.ref 0, .int a, .int b] [] (ev_hp ev_I0 ev_J0 ev_R0 []) cz kz else G 41 8 [.ref 0, .int a, .int b] [] (ev_hp ev_I0 ev_J0 ev_R0 []) cz kz := by
  intro G
  rfl
set_option maxRecDepth 100000 in
set_option maxHeartbeats 100000 in
theorem ef_salvo_r_r3 (X : ez_X) (I : Nat → Nat → Int32) (J : Nat → Nat → Int64) (R : Nat → Nat) (T : List ez_C) (a : Int32) (b : Int32) (q112 : Int32) (cz kz : Nat) : ∀ G : ez_F, fx_up X 2 G 41 16 [.ref 0, .int a, .int b] [] (ev_hp ev_I0 ev_J0 ev_R0 []) cz kz = some (some (.int (-2)), (ev_hp ev_I0 ev_J0 ev_R0 []), cz, kz) := by
  intro G
  rfl
theorem ef_salvo_r (X : ez_X) (I : Nat → Nat → Int32) (J : Nat → Nat → Int64) (R : Nat → Nat) (T : List ez_C) (a : Int32) (b : Int32) (ha : ev_wi a 0 24 = 0) : ev_W X 41 0 (ez_lay [.ref 0, .int a, .int b]) [] (ev_hp ev_I0 ev_J0 ev_R0 []) 0 0 (fun r h1 c1 k1 => (((((ev_wi a 0 ((25 : Int32) - (1 : Int32))))) = 0) ∧ r = some (.int (-2)) ∧ h1 = (ev_hp ev_I0 ev_J0 ev_R0 []) ∧ c1 = 0 ∧ k1 = 0)) := by
  refine ev_call (ef_salvo_r_r1 X I J R T a b _ _) (eg_isCell X ev_I0 ev_J0 ev_R0 [] a) ?_
  rintro r0 _ _ _ (⟨hr0, rfl, rfl, rfl⟩)
  obtain ⟨q112, hq112⟩ : ∃ z : Int32, ((ev_wi a 0 ((25 : Int32) - (1 : Int32)))) = z := ⟨_, rfl⟩
  have eq112 : r0 = some (.int q112) := hr0.trans (by subst hq112; rfl)
  subst eq112
  refine ev_if (ef_salvo_r_r2 X I J R T a b q112 _ _) (fun b1 => ?_) (fun b1 => ?_)
  · replace b1 := of_decide_eq_true b1
    refine ev_ret (ef_salvo_r_r3 X I J R T a b q112 _ _) ?_
    subst hq112
    exact ⟨b1, rfl, rfl, rfl, rfl⟩
  · replace b1 := of_decide_eq_false b1
    exact (b1 (by rw [← hq112]; exact ha)).elim
set_option maxRecDepth 100000 in
set_option maxHeartbeats 100000 in
theorem eh_salvo_r_r1 (X : ez_X) (I : Nat → Nat → Int32) (J : Nat → Nat → Int64) (R : Nat → Nat) (T : List ez_C) (a : Int32) (b : Int32) (cz kz : Nat) : ∀ G : ez_F, fx_up X 3 G 218 0 [.ref 35, .int a, .int b] [] (ev_hp ev_I0 ev_J0 ev_R0 []) cz kz = ev_C G 200 [.ref 35, .int a] (ev_hp ev_I0 ev_J0 ev_R0 []) fun r h1 c1 k1 => G 218 5 [.ref 35, .int a, .int b] (r.toList ++ []) h1 (cz + c1) (kz + k1) := by
  intro G
  rfl
set_option maxRecDepth 100000 in
set_option maxHeartbeats 100000 in
theorem eh_salvo_r_r2 (X : ez_X) (I : Nat → Nat → Int32) (J : Nat → Nat → Int64) (R : Nat → Nat) (T : List ez_C) (a : Int32) (b : Int32) (q113 : Int32) (cz kz : Nat) : ∀ G : ez_F, fx_up X 1 G 218 5 [.ref 35, .int a, .int b] [.int q113] (ev_hp ev_I0 ev_J0 ev_R0 []) cz kz = bif decide (q113 = 0) then G 218 16 [.ref 35, .int a, .int b] [] (ev_hp ev_I0 ev_J0 ev_R0 []) cz kz else G 218 8 [.ref 35, .int a, .int b] [] (ev_hp ev_I0 ev_J0 ev_R0 []) cz kz := by
  intro G
  rfl
set_option maxRecDepth 100000 in
set_option maxHeartbeats 100000 in
theorem eh_salvo_r_r3 (X : ez_X) (I : Nat → Nat → Int32) (J : Nat → Nat → Int64) (R : Nat → Nat) (T : List ez_C) (a : Int32) (b : Int32) (q113 : Int32) (cz kz : Nat) : ∀ G : ez_F, fx_up X 2 G 218 16 [.ref 35, .int a, .int b] [] (ev_hp ev_I0 ev_J0 ev_R0 []) cz kz = some (some (.int (-2)), (ev_hp ev_I0 ev_J0 ev_R0 []), cz, kz) := by
  intro G
  rfl
theorem eh_salvo_r (X : ez_X) (I : Nat → Nat → Int32) (J : Nat → Nat → Int64) (R : Nat → Nat) (T : List ez_C) (a : Int32) (b : Int32) (ha : ev_wi a 0 24 = 0) : ev_W X 218 0 (ez_lay [.ref 35, .int a, .int b]) [] (ev_hp ev_I0 ev_J0 ev_R0 []) 0 0 (fun r h1 c1 k1 => (((((ev_il (a.toInt64) 0 (((((5 : Int32) * (5 : Int32))) - (1 : Int32)).toInt64)))) = 0) ∧ r = some (.int (-2)) ∧ h1 = (ev_hp ev_I0 ev_J0 ev_R0 []) ∧ c1 = 0 ∧ k1 = 0)) := by
  refine ev_call (eh_salvo_r_r1 X I J R T a b _ _) (em_isCell X ev_I0 ev_J0 ev_R0 [] a) ?_
  rintro r0 _ _ _ (⟨hr0, rfl, rfl, rfl⟩)
  obtain ⟨q113, hq113⟩ : ∃ z : Int32, ((ev_il (a.toInt64) 0 (((((5 : Int32) * (5 : Int32))) - (1 : Int32)).toInt64))) = z := ⟨_, rfl⟩
  have eq113 : r0 = some (.int q113) := hr0.trans (by subst hq113; rfl)
  subst eq113
  refine ev_if (eh_salvo_r_r2 X I J R T a b q113 _ _) (fun b1 => ?_) (fun b1 => ?_)
  · replace b1 := of_decide_eq_true b1
    refine ev_ret (eh_salvo_r_r3 X I J R T a b q113 _ _) ?_
    subst hq113
    exact ⟨b1, rfl, rfl, rfl, rfl⟩
  · replace b1 := of_decide_eq_false b1
    exact (b1 (by rw [← hq113]; exact ((ev_il_wi a 0 24).trans ha))).elim
set_option maxRecDepth 100000 in
set_option maxHeartbeats 100000 in
theorem eo_salvo_r_r1 (xs : Nat → Int32)  (cz kz : Nat) : ∀ G : ez_F, fx_up (4, xs) 2 G 241 468 [ez_scr, .ref 0, .ref 35, .int 0] [] (ev_hp ev_I0 ev_J0 ev_R0 []) cz kz = G 241 470 [ez_scr, .ref 0, .ref 35, .int 0] [ez_scr, .ref 0] (ev_hp ev_I0 ev_J0 ev_R0 []) cz kz := by
  intro G
  rfl
set_option maxRecDepth 100000 in
set_option maxHeartbeats 100000 in
theorem eo_salvo_r_r2 (xs : Nat → Int32)  (cz kz : Nat) : ∀ G : ez_F, fx_up (4, xs) 2 G 241 470 [ez_scr, .ref 0, .ref 35, .int 0] [ez_scr, .ref 0] (ev_hp ev_I0 ev_J0 ev_R0 []) cz kz = G 241 472 [ez_scr, .ref 0, .ref 35, .int 0] [.int 1, .int 0, ez_scr, .ref 0] (ev_hp ev_I0 ev_J0 ev_R0 []) cz kz := by
  intro G
  rfl
set_option maxRecDepth 100000 in
set_option maxHeartbeats 100000 in
theorem eo_salvo_r_r3 (xs : Nat → Int32)  (cz kz : Nat) : ∀ G : ez_F, fx_up (4, xs) 2 G 241 472 [ez_scr, .ref 0, .ref 35, .int 0] [.int 1, .int 0, ez_scr, .ref 0] (ev_hp ev_I0 ev_J0 ev_R0 []) cz kz = G 241 474 [ez_scr, .ref 0, .ref 35, .int 0] [.int (xs 1), .ref 0] (ev_hp ev_I0 ev_J0 ev_R0 []) cz kz := by
  intro G
  rfl
set_option maxRecDepth 100000 in
set_option maxHeartbeats 100000 in
theorem eo_salvo_r_r4 (xs : Nat → Int32)  (cz kz : Nat) : ∀ G : ez_F, fx_up (4, xs) 2 G 241 474 [ez_scr, .ref 0, .ref 35, .int 0] [.int (xs 1), .ref 0] (ev_hp ev_I0 ev_J0 ev_R0 []) cz kz = G 241 476 [ez_scr, .ref 0, .ref 35, .int 0] [.int 0, ez_scr, .int (xs 1), .ref 0] (ev_hp ev_I0 ev_J0 ev_R0 []) cz kz := by
  intro G
  rfl
set_option maxRecDepth 100000 in
set_option maxHeartbeats 100000 in
theorem eo_salvo_r_r5 (xs : Nat → Int32)  (cz kz : Nat) : ∀ G : ez_F, fx_up (4, xs) 2 G 241 476 [ez_scr, .ref 0, .ref 35, .int 0] [.int 0, ez_scr, .int (xs 1), .ref 0] (ev_hp ev_I0 ev_J0 ev_R0 []) cz kz = G 241 478 [ez_scr, .ref 0, .ref 35, .int 0] [.int 2, ez_scr, .int (xs 1), .ref 0] (ev_hp ev_I0 ev_J0 ev_R0 []) cz kz := by
  intro G
  rfl
set_option maxRecDepth 100000 in
set_option maxHeartbeats 100000 in
theorem eo_salvo_r_r6 (xs : Nat → Int32)  (cz kz : Nat) : ∀ G : ez_F, fx_up (4, xs) 2 G 241 478 [ez_scr, .ref 0, .ref 35, .int 0] [.int 2, ez_scr, .int (xs 1), .ref 0] (ev_hp ev_I0 ev_J0 ev_R0 []) cz kz = ev_C G 41 [.ref 0, .int (xs 1), .int (xs 2)] (ev_hp ev_I0 ev_J0 ev_R0 []) fun r h1 c1 k1 => G 241 482 [ez_scr, .ref 0, .ref 35, .int 0] (r.toList ++ []) h1 (cz + c1) (kz + k1) := by
  intro G
  rfl
set_option maxRecDepth 100000 in
set_option maxHeartbeats 100000 in
theorem eo_salvo_r_r7 (xs : Nat → Int32)  (cz kz : Nat) : ∀ G : ez_F, fx_up (4, xs) 2 G 241 482 [ez_scr, .ref 0, .ref 35, .int 0] [.int (-2)] (ev_hp ev_I0 ev_J0 ev_R0 []) cz kz = G 241 484 [ez_scr, .ref 0, .ref 35, .int 0] [ez_scr, .ref 35, .int (-2)] (ev_hp ev_I0 ev_J0 ev_R0 []) cz kz := by
  intro G
  rfl
set_option maxRecDepth 100000 in
set_option maxHeartbeats 100000 in
theorem eo_salvo_r_r8 (xs : Nat → Int32)  (cz kz : Nat) : ∀ G : ez_F, fx_up (4, xs) 2 G 241 484 [ez_scr, .ref 0, .ref 35, .int 0] [ez_scr, .ref 35, .int (-2)] (ev_hp ev_I0 ev_J0 ev_R0 []) cz kz = G 241 486 [ez_scr, .ref 0, .ref 35, .int 0] [.int 1, .int 0, ez_scr, .ref 35, .int (-2)] (ev_hp ev_I0 ev_J0 ev_R0 []) cz kz := by
  intro G
  rfl
set_option maxRecDepth 100000 in
set_option maxHeartbeats 100000 in
theorem eo_salvo_r_r9 (xs : Nat → Int32)  (cz kz : Nat) : ∀ G : ez_F, fx_up (4, xs) 2 G 241 486 [ez_scr, .ref 0, .ref 35, .int 0] [.int 1, .int 0, ez_scr, .ref 35, .int (-2)] (ev_hp ev_I0 ev_J0 ev_R0 []) cz kz = G 241 488 [ez_scr, .ref 0, .ref 35, .int 0] [.int (xs 1), .ref 35, .int (-2)] (ev_hp ev_I0 ev_J0 ev_R0 []) cz kz := by
  intro G
  rfl
set_option maxRecDepth 100000 in
set_option maxHeartbeats 100000 in
theorem eo_salvo_r_r10 (xs : Nat → Int32)  (cz kz : Nat) : ∀ G : ez_F, fx_up (4, xs) 2 G 241 488 [ez_scr, .ref 0, .ref 35, .int 0] [.int (xs 1), .ref 35, .int (-2)] (ev_hp ev_I0 ev_J0 ev_R0 []) cz kz = G 241 490 [ez_scr, .ref 0, .ref 35, .int 0] [.int 0, ez_scr, .int (xs 1), .ref 35, .int (-2)] (ev_hp ev_I0 ev_J0 ev_R0 []) cz kz := by
  intro G
  rfl
set_option maxRecDepth 100000 in
set_option maxHeartbeats 100000 in
theorem eo_salvo_r_r11 (xs : Nat → Int32)  (cz kz : Nat) : ∀ G : ez_F, fx_up (4, xs) 2 G 241 490 [ez_scr, .ref 0, .ref 35, .int 0] [.int 0, ez_scr, .int (xs 1), .ref 35, .int (-2)] (ev_hp ev_I0 ev_J0 ev_R0 []) cz kz = G 241 492 [ez_scr, .ref 0, .ref 35, .int 0] [.int 2, ez_scr, .int (xs 1), .ref 35, .int (-2)] (ev_hp ev_I0 ev_J0 ev_R0 []) cz kz := by
  intro G
  rfl
set_option maxRecDepth 100000 in
set_option maxHeartbeats 100000 in
theorem eo_salvo_r_r12 (xs : Nat → Int32)  (cz kz : Nat) : ∀ G : ez_F, fx_up (4, xs) 2 G 241 492 [ez_scr, .ref 0, .ref 35, .int 0] [.int 2, ez_scr, .int (xs 1), .ref 35, .int (-2)] (ev_hp ev_I0 ev_J0 ev_R0 []) cz kz = ev_C G 218 [.ref 35, .int (xs 1), .int (xs 2)] (ev_hp ev_I0 ev_J0 ev_R0 []) fun r h1 c1 k1 => G 241 496 [ez_scr, .ref 0, .ref 35, .int 0] (r.toList ++ [.int (-2)]) h1 (cz + c1) (kz + k1) := by
  intro G
  rfl
set_option maxRecDepth 100000 in
set_option maxHeartbeats 100000 in
theorem eo_salvo_r_r13 (xs : Nat → Int32)  (cz kz : Nat) : ∀ G : ez_F, fx_up (4, xs) 2 G 241 496 [ez_scr, .ref 0, .ref 35, .int 0] [.int (-2), .int (-2)] (ev_hp ev_I0 ev_J0 ev_R0 []) cz kz = G 241 1078 [ez_scr, .ref 0, .ref 35, .int 4] [] (ev_hp ev_I0 ev_J0 ev_R0 []) cz kz := by
  intro G
  rfl
set_option maxRecDepth 100000 in
set_option maxHeartbeats 100000 in
theorem eo_salvo_r_r14 (xs : Nat → Int32)  (cz kz : Nat) : ∀ G : ez_F, fx_up (4, xs) 2 G 241 1078 [ez_scr, .ref 0, .ref 35, .int 4] [] (ev_hp ev_I0 ev_J0 ev_R0 []) cz kz = G 241 19 [ez_scr, .ref 0, .ref 35, .int 4] [.int 4] (ev_hp ev_I0 ev_J0 ev_R0 []) cz kz := by
  intro G
  rfl
set_option maxRecDepth 100000 in
set_option maxHeartbeats 100000 in
theorem eo_salvo_r_r15 (xs : Nat → Int32)  (cz kz : Nat) : ∀ G : ez_F, fx_up (4, xs) 2 G 241 19 [ez_scr, .ref 0, .ref 35, .int 4] [.int 4] (ev_hp ev_I0 ev_J0 ev_R0 []) cz kz = G 241 21 [ez_scr, .ref 0, .ref 35, .int 4] [.int 4, .int 4] (ev_hp ev_I0 ev_J0 ev_R0 []) cz kz := by
  intro G
  rfl
set_option maxRecDepth 100000 in
set_option maxHeartbeats 100000 in
theorem eo_salvo_r_r16 (xs : Nat → Int32)  (cz kz : Nat) : ∀ G : ez_F, fx_up (4, xs) 2 G 241 21 [ez_scr, .ref 0, .ref 35, .int 4] [.int 4, .int 4] (ev_hp ev_I0 ev_J0 ev_R0 []) cz kz = G 241 23 [ez_scr, .ref 0, .ref 35, .int 4] [.int 0, .int 4] (ev_hp ev_I0 ev_J0 ev_R0 []) cz kz := by
  intro G
  rfl
set_option maxRecDepth 100000 in
set_option maxHeartbeats 100000 in
theorem eo_salvo_r_r17 (xs : Nat → Int32)  (cz kz : Nat) : ∀ G : ez_F, fx_up (4, xs) 2 G 241 23 [ez_scr, .ref 0, .ref 35, .int 4] [.int 0, .int 4] (ev_hp ev_I0 ev_J0 ev_R0 []) cz kz = G 241 1082 [ez_scr, .ref 0, .ref 35, .int 4] [.int 1] (ev_hp ev_I0 ev_J0 ev_R0 []) cz kz := by
  intro G
  rfl
set_option maxRecDepth 100000 in
set_option maxHeartbeats 100000 in
theorem eo_salvo_r_r18 (xs : Nat → Int32)  (cz kz : Nat) : ∀ G : ez_F, fx_up (4, xs) 1 G 241 1082 [ez_scr, .ref 0, .ref 35, .int 4] [.int 1] (ev_hp ev_I0 ev_J0 ev_R0 []) cz kz = some (some (.int 1), (ev_hp ev_I0 ev_J0 ev_R0 []), cz, kz) := by
  intro G
  rfl
theorem eo_salvo_r (xs : Nat → Int32) (ha : ev_wi (xs 1) 0 24 = 0) : ev_P1 (4, xs) 468 := by
  refine ev_seg (eo_salvo_r_r1 xs  _ _) ?_
  refine ev_seg (eo_salvo_r_r2 xs  _ _) ?_
  refine ev_seg (eo_salvo_r_r3 xs  _ _) ?_
  refine ev_seg (eo_salvo_r_r4 xs  _ _) ?_
  refine ev_seg (eo_salvo_r_r5 xs  _ _) ?_
  refine ev_call (eo_salvo_r_r6 xs  _ _) (ef_salvo_r (4, xs) ev_I0 ev_J0 ev_R0 [] (xs 1) (xs 2) ha) ?_
  rintro r0 _ _ _ (⟨d71, rfl, rfl, rfl, rfl⟩)
  refine ev_seg (eo_salvo_r_r7 xs  _ _) ?_
  refine ev_seg (eo_salvo_r_r8 xs  _ _) ?_
  refine ev_seg (eo_salvo_r_r9 xs  _ _) ?_
  refine ev_seg (eo_salvo_r_r10 xs  _ _) ?_
  refine ev_seg (eo_salvo_r_r11 xs  _ _) ?_
  refine ev_call (eo_salvo_r_r12 xs  _ _) (eh_salvo_r (4, xs) ev_I0 ev_J0 ev_R0 [] (xs 1) (xs 2) ha) ?_
  rintro r0 _ _ _ (⟨d72, rfl, rfl, rfl, rfl⟩)
  refine ev_seg (eo_salvo_r_r13 xs  _ _) ?_
  refine ev_seg (eo_salvo_r_r14 xs  _ _) ?_
  refine ev_seg (eo_salvo_r_r15 xs  _ _) ?_
  refine ev_seg (eo_salvo_r_r16 xs  _ _) ?_
  refine ev_seg (eo_salvo_r_r17 xs  _ _) ?_
  refine ev_ret (eo_salvo_r_r18 xs  _ _) ?_
  exact ⟨rfl, by omega, by omega⟩
set_option maxRecDepth 100000 in
set_option maxHeartbeats 100000 in
theorem ef_salvo_s_r1 (X : ez_X) (I : Nat → Nat → Int32) (J : Nat → Nat → Int64) (R : Nat → Nat) (T : List ez_C) (a : Int32) (b : Int32) (cz kz : Nat) : ∀ G : ez_F, fx_up X 3 G 41 0 [.ref 0, .int a, .int b] [] (ev_hp ev_I0 ev_J0 ev_R0 []) cz kz = ev_C G 22 [.ref 0, .int a] (ev_hp ev_I0 ev_J0 ev_R0 []) fun r h1 c1 k1 => G 41 5 [.ref 0, .int a, .int b] (r.toList ++ []) h1 (cz + c1) (kz + k1) := by
  intro G
  rfl
set_option maxRecDepth 100000 in
set_option maxHeartbeats 100000 in
theorem ef_salvo_s_r2 (X : ez_X) (I : Nat → Nat → Int32) (J : Nat → Nat → Int64) (R : Nat → Nat) (T : List ez_C) (a : Int32) (b : Int32) (q114 : Int32) (cz kz : Nat) : ∀ G : ez_F, fx_up X 1 G 41 5 [.ref 0, .int a, .int b] [.int q114] (ev_hp ev_I0 ev_J0 ev_R0 []) cz kz = bif decide (q114 = 0) then G 41 16 [.ref 0, .int a, .int b] [] (ev_hp ev_I0 ev_J0 ev_R0 []) cz kz else G 41 8 [.ref 0, .int a, .int b] [] (ev_hp ev_I0 ev_J0 ev_R0 []) cz kz := by
  intro G
  rfl
set_option maxRecDepth 100000 in
set_option maxHeartbeats 100000 in
theorem ef_salvo_s_r3 (X : ez_X) (I : Nat → Nat → Int32) (J : Nat → Nat → Int64) (R : Nat → Nat) (T : List ez_C) (a : Int32) (b : Int32) (q114 : Int32) (cz kz : Nat) : ∀ G : ez_F, fx_up X 3 G 41 8 [.ref 0, .int a, .int b] [] (ev_hp ev_I0 ev_J0 ev_R0 []) cz kz = ev_C G 22 [.ref 0, .int b] (ev_hp ev_I0 ev_J0 ev_R0 []) fun r h1 c1 k1 => G 41 13 [.ref 0, .int a, .int b] (r.toList ++ []) h1 (cz + c1) (kz + k1) := by
  intro G
  rfl
set_option maxRecDepth 100000 in
set_option maxHeartbeats 100000 in
theorem ef_salvo_s_r4 (X : ez_X) (I : Nat → Nat → Int32) (J : Nat → Nat → Int64) (R : Nat → Nat) (T : List ez_C) (a : Int32) (b : Int32) (q114 : Int32) (q115 : Int32) (cz kz : Nat) : ∀ G : ez_F, fx_up X 1 G 41 13 [.ref 0, .int a, .int b] [.int q115] (ev_hp ev_I0 ev_J0 ev_R0 []) cz kz = bif decide (¬ q115 = 0) then G 41 19 [.ref 0, .int a, .int b] [] (ev_hp ev_I0 ev_J0 ev_R0 []) cz kz else G 41 16 [.ref 0, .int a, .int b] [] (ev_hp ev_I0 ev_J0 ev_R0 []) cz kz := by
  intro G
  rfl
set_option maxRecDepth 100000 in
set_option maxHeartbeats 100000 in
theorem ef_salvo_s_r5 (X : ez_X) (I : Nat → Nat → Int32) (J : Nat → Nat → Int64) (R : Nat → Nat) (T : List ez_C) (a : Int32) (b : Int32) (q114 : Int32) (q115 : Int32) (cz kz : Nat) : ∀ G : ez_F, fx_up X 2 G 41 16 [.ref 0, .int a, .int b] [] (ev_hp ev_I0 ev_J0 ev_R0 []) cz kz = some (some (.int (-2)), (ev_hp ev_I0 ev_J0 ev_R0 []), cz, kz) := by
  intro G
  rfl
theorem ef_salvo_s (X : ez_X) (I : Nat → Nat → Int32) (J : Nat → Nat → Int64) (R : Nat → Nat) (T : List ez_C) (a : Int32) (b : Int32) (ha : ¬ ev_wi a 0 24 = 0) (hb : ev_wi b 0 24 = 0) : ev_W X 41 0 (ez_lay [.ref 0, .int a, .int b]) [] (ev_hp ev_I0 ev_J0 ev_R0 []) 0 0 (fun r h1 c1 k1 => ((¬ ((((ev_wi a 0 ((25 : Int32) - (1 : Int32))))) = 0)) ∧ (¬ (¬ (((ev_wi b 0 ((25 : Int32) - (1 : Int32))))) = 0)) ∧ r = some (.int (-2)) ∧ h1 = (ev_hp ev_I0 ev_J0 ev_R0 []) ∧ c1 = 0 ∧ k1 = 0)) := by
  refine ev_call (ef_salvo_s_r1 X I J R T a b _ _) (eg_isCell X ev_I0 ev_J0 ev_R0 [] a) ?_
  rintro r0 _ _ _ (⟨hr0, rfl, rfl, rfl⟩)
  obtain ⟨q114, hq114⟩ : ∃ z : Int32, ((ev_wi a 0 ((25 : Int32) - (1 : Int32)))) = z := ⟨_, rfl⟩
  have eq114 : r0 = some (.int q114) := hr0.trans (by subst hq114; rfl)
  subst eq114
  refine ev_if (ef_salvo_s_r2 X I J R T a b q114 _ _) (fun b1 => ?_) (fun b1 => ?_)
  · replace b1 := of_decide_eq_true b1
    exact absurd (hq114.trans b1) ha
  · replace b1 := of_decide_eq_false b1
    refine ev_call (ef_salvo_s_r3 X I J R T a b q114 _ _) (eg_isCell X ev_I0 ev_J0 ev_R0 [] b) ?_
    rintro r0 _ _ _ (⟨hr0, rfl, rfl, rfl⟩)
    obtain ⟨q115, hq115⟩ : ∃ z : Int32, ((ev_wi b 0 ((25 : Int32) - (1 : Int32)))) = z := ⟨_, rfl⟩
    have eq115 : r0 = some (.int q115) := hr0.trans (by subst hq115; rfl)
    subst eq115
    refine ev_if (ef_salvo_s_r4 X I J R T a b q114 q115 _ _) (fun b2 => ?_) (fun b2 => ?_)
    · replace b2 := of_decide_eq_true b2
      exact (b2 (by rw [← hq115]; exact hb)).elim
    · replace b2 := of_decide_eq_false b2
      refine ev_ret (ef_salvo_s_r5 X I J R T a b q114 q115 _ _) ?_
      subst hq115
      subst hq114
      exact ⟨b1, b2, rfl, rfl, rfl, rfl⟩
set_option maxRecDepth 100000 in
set_option maxHeartbeats 100000 in
theorem eh_salvo_s_r1 (X : ez_X) (I : Nat → Nat → Int32) (J : Nat → Nat → Int64) (R : Nat → Nat) (T : List ez_C) (a : Int32) (b : Int32) (cz kz : Nat) : ∀ G : ez_F, fx_up X 3 G 218 0 [.ref 35, .int a, .int b] [] (ev_hp ev_I0 ev_J0 ev_R0 []) cz kz = ev_C G 200 [.ref 35, .int a] (ev_hp ev_I0 ev_J0 ev_R0 []) fun r h1 c1 k1 => G 218 5 [.ref 35, .int a, .int b] (r.toList ++ []) h1 (cz + c1) (kz + k1) := by
  intro G
  rfl
set_option maxRecDepth 100000 in
set_option maxHeartbeats 100000 in
theorem eh_salvo_s_r2 (X : ez_X) (I : Nat → Nat → Int32) (J : Nat → Nat → Int64) (R : Nat → Nat) (T : List ez_C) (a : Int32) (b : Int32) (q116 : Int32) (cz kz : Nat) : ∀ G : ez_F, fx_up X 1 G 218 5 [.ref 35, .int a, .int b] [.int q116] (ev_hp ev_I0 ev_J0 ev_R0 []) cz kz = bif decide (q116 = 0) then G 218 16 [.ref 35, .int a, .int b] [] (ev_hp ev_I0 ev_J0 ev_R0 []) cz kz else G 218 8 [.ref 35, .int a, .int b] [] (ev_hp ev_I0 ev_J0 ev_R0 []) cz kz := by
  intro G
  rfl
set_option maxRecDepth 100000 in
set_option maxHeartbeats 100000 in
theorem eh_salvo_s_r3 (X : ez_X) (I : Nat → Nat → Int32) (J : Nat → Nat → Int64) (R : Nat → Nat) (T : List ez_C) (a : Int32) (b : Int32) (q116 : Int32) (cz kz : Nat) : ∀ G : ez_F, fx_up X 3 G 218 8 [.ref 35, .int a, .int b] [] (ev_hp ev_I0 ev_J0 ev_R0 []) cz kz = ev_C G 200 [.ref 35, .int b] (ev_hp ev_I0 ev_J0 ev_R0 []) fun r h1 c1 k1 => G 218 13 [.ref 35, .int a, .int b] (r.toList ++ []) h1 (cz + c1) (kz + k1) := by
  intro G
  rfl
set_option maxRecDepth 100000 in
set_option maxHeartbeats 100000 in
theorem eh_salvo_s_r4 (X : ez_X) (I : Nat → Nat → Int32) (J : Nat → Nat → Int64) (R : Nat → Nat) (T : List ez_C) (a : Int32) (b : Int32) (q116 : Int32) (q117 : Int32) (cz kz : Nat) : ∀ G : ez_F, fx_up X 1 G 218 13 [.ref 35, .int a, .int b] [.int q117] (ev_hp ev_I0 ev_J0 ev_R0 []) cz kz = bif decide (¬ q117 = 0) then G 218 19 [.ref 35, .int a, .int b] [] (ev_hp ev_I0 ev_J0 ev_R0 []) cz kz else G 218 16 [.ref 35, .int a, .int b] [] (ev_hp ev_I0 ev_J0 ev_R0 []) cz kz := by
  intro G
  rfl
set_option maxRecDepth 100000 in
set_option maxHeartbeats 100000 in
theorem eh_salvo_s_r5 (X : ez_X) (I : Nat → Nat → Int32) (J : Nat → Nat → Int64) (R : Nat → Nat) (T : List ez_C) (a : Int32) (b : Int32) (q116 : Int32) (q117 : Int32) (cz kz : Nat) : ∀ G : ez_F, fx_up X 2 G 218 16 [.ref 35, .int a, .int b] [] (ev_hp ev_I0 ev_J0 ev_R0 []) cz kz = some (some (.int (-2)), (ev_hp ev_I0 ev_J0 ev_R0 []), cz, kz) := by
  intro G
  rfl
theorem eh_salvo_s (X : ez_X) (I : Nat → Nat → Int32) (J : Nat → Nat → Int64) (R : Nat → Nat) (T : List ez_C) (a : Int32) (b : Int32) (ha : ¬ ev_wi a 0 24 = 0) (hb : ev_wi b 0 24 = 0) : ev_W X 218 0 (ez_lay [.ref 35, .int a, .int b]) [] (ev_hp ev_I0 ev_J0 ev_R0 []) 0 0 (fun r h1 c1 k1 => ((¬ ((((ev_il (a.toInt64) 0 (((((5 : Int32) * (5 : Int32))) - (1 : Int32)).toInt64)))) = 0)) ∧ (¬ (¬ (((ev_il (b.toInt64) 0 (((((5 : Int32) * (5 : Int32))) - (1 : Int32)).toInt64)))) = 0)) ∧ r = some (.int (-2)) ∧ h1 = (ev_hp ev_I0 ev_J0 ev_R0 []) ∧ c1 = 0 ∧ k1 = 0)) := by
  refine ev_call (eh_salvo_s_r1 X I J R T a b _ _) (em_isCell X ev_I0 ev_J0 ev_R0 [] a) ?_
  rintro r0 _ _ _ (⟨hr0, rfl, rfl, rfl⟩)
  obtain ⟨q116, hq116⟩ : ∃ z : Int32, ((ev_il (a.toInt64) 0 (((((5 : Int32) * (5 : Int32))) - (1 : Int32)).toInt64))) = z := ⟨_, rfl⟩
  have eq116 : r0 = some (.int q116) := hr0.trans (by subst hq116; rfl)
  subst eq116
  refine ev_if (eh_salvo_s_r2 X I J R T a b q116 _ _) (fun b1 => ?_) (fun b1 => ?_)
  · replace b1 := of_decide_eq_true b1
    exact absurd (hq116.trans b1) (fun hz => ha ((ev_il_wi a 0 24).symm.trans hz))
  · replace b1 := of_decide_eq_false b1
    refine ev_call (eh_salvo_s_r3 X I J R T a b q116 _ _) (em_isCell X ev_I0 ev_J0 ev_R0 [] b) ?_
    rintro r0 _ _ _ (⟨hr0, rfl, rfl, rfl⟩)
    obtain ⟨q117, hq117⟩ : ∃ z : Int32, ((ev_il (b.toInt64) 0 (((((5 : Int32) * (5 : Int32))) - (1 : Int32)).toInt64))) = z := ⟨_, rfl⟩
    have eq117 : r0 = some (.int q117) := hr0.trans (by subst hq117; rfl)
    subst eq117
    refine ev_if (eh_salvo_s_r4 X I J R T a b q116 q117 _ _) (fun b2 => ?_) (fun b2 => ?_)
    · replace b2 := of_decide_eq_true b2
      exact (b2 (by rw [← hq117]; exact ((ev_il_wi b 0 24).trans hb))).elim
    · replace b2 := of_decide_eq_false b2
      refine ev_ret (eh_salvo_s_r5 X I J R T a b q116 q117 _ _) ?_
      subst hq117
      subst hq116
      exact ⟨b1, b2, rfl, rfl, rfl, rfl⟩
set_option maxRecDepth 100000 in
set_option maxHeartbeats 100000 in
theorem eo_salvo_s_r1 (xs : Nat → Int32)  (cz kz : Nat) : ∀ G : ez_F, fx_up (4, xs) 2 G 241 468 [ez_scr, .ref 0, .ref 35, .int 0] [] (ev_hp ev_I0 ev_J0 ev_R0 []) cz kz = G 241 470 [ez_scr, .ref 0, .ref 35, .int 0] [ez_scr, .ref 0] (ev_hp ev_I0 ev_J0 ev_R0 []) cz kz := by
  intro G
  rfl
set_option maxRecDepth 100000 in
set_option maxHeartbeats 100000 in
theorem eo_salvo_s_r2 (xs : Nat → Int32)  (cz kz : Nat) : ∀ G : ez_F, fx_up (4, xs) 2 G 241 470 [ez_scr, .ref 0, .ref 35, .int 0] [ez_scr, .ref 0] (ev_hp ev_I0 ev_J0 ev_R0 []) cz kz = G 241 472 [ez_scr, .ref 0, .ref 35, .int 0] [.int 1, .int 0, ez_scr, .ref 0] (ev_hp ev_I0 ev_J0 ev_R0 []) cz kz := by
  intro G
  rfl
set_option maxRecDepth 100000 in
set_option maxHeartbeats 100000 in
theorem eo_salvo_s_r3 (xs : Nat → Int32)  (cz kz : Nat) : ∀ G : ez_F, fx_up (4, xs) 2 G 241 472 [ez_scr, .ref 0, .ref 35, .int 0] [.int 1, .int 0, ez_scr, .ref 0] (ev_hp ev_I0 ev_J0 ev_R0 []) cz kz = G 241 474 [ez_scr, .ref 0, .ref 35, .int 0] [.int (xs 1), .ref 0] (ev_hp ev_I0 ev_J0 ev_R0 []) cz kz := by
  intro G
  rfl
set_option maxRecDepth 100000 in
set_option maxHeartbeats 100000 in
theorem eo_salvo_s_r4 (xs : Nat → Int32)  (cz kz : Nat) : ∀ G : ez_F, fx_up (4, xs) 2 G 241 474 [ez_scr, .ref 0, .ref 35, .int 0] [.int (xs 1), .ref 0] (ev_hp ev_I0 ev_J0 ev_R0 []) cz kz = G 241 476 [ez_scr, .ref 0, .ref 35, .int 0] [.int 0, ez_scr, .int (xs 1), .ref 0] (ev_hp ev_I0 ev_J0 ev_R0 []) cz kz := by
  intro G
  rfl
set_option maxRecDepth 100000 in
set_option maxHeartbeats 100000 in
theorem eo_salvo_s_r5 (xs : Nat → Int32)  (cz kz : Nat) : ∀ G : ez_F, fx_up (4, xs) 2 G 241 476 [ez_scr, .ref 0, .ref 35, .int 0] [.int 0, ez_scr, .int (xs 1), .ref 0] (ev_hp ev_I0 ev_J0 ev_R0 []) cz kz = G 241 478 [ez_scr, .ref 0, .ref 35, .int 0] [.int 2, ez_scr, .int (xs 1), .ref 0] (ev_hp ev_I0 ev_J0 ev_R0 []) cz kz := by
  intro G
  rfl
set_option maxRecDepth 100000 in
set_option maxHeartbeats 100000 in
theorem eo_salvo_s_r6 (xs : Nat → Int32)  (cz kz : Nat) : ∀ G : ez_F, fx_up (4, xs) 2 G 241 478 [ez_scr, .ref 0, .ref 35, .int 0] [.int 2, ez_scr, .int (xs 1), .ref 0] (ev_hp ev_I0 ev_J0 ev_R0 []) cz kz = ev_C G 41 [.ref 0, .int (xs 1), .int (xs 2)] (ev_hp ev_I0 ev_J0 ev_R0 []) fun r h1 c1 k1 => G 241 482 [ez_scr, .ref 0, .ref 35, .int 0] (r.toList ++ []) h1 (cz + c1) (kz + k1) := by
  intro G
  rfl
set_option maxRecDepth 100000 in
set_option maxHeartbeats 100000 in
theorem eo_salvo_s_r7 (xs : Nat → Int32)  (cz kz : Nat) : ∀ G : ez_F, fx_up (4, xs) 2 G 241 482 [ez_scr, .ref 0, .ref 35, .int 0] [.int (-2)] (ev_hp ev_I0 ev_J0 ev_R0 []) cz kz = G 241 484 [ez_scr, .ref 0, .ref 35, .int 0] [ez_scr, .ref 35, .int (-2)] (ev_hp ev_I0 ev_J0 ev_R0 []) cz kz := by
  intro G
  rfl
set_option maxRecDepth 100000 in
set_option maxHeartbeats 100000 in
theorem eo_salvo_s_r8 (xs : Nat → Int32)  (cz kz : Nat) : ∀ G : ez_F, fx_up (4, xs) 2 G 241 484 [ez_scr, .ref 0, .ref 35, .int 0] [ez_scr, .ref 35, .int (-2)] (ev_hp ev_I0 ev_J0 ev_R0 []) cz kz = G 241 486 [ez_scr, .ref 0, .ref 35, .int 0] [.int 1, .int 0, ez_scr, .ref 35, .int (-2)] (ev_hp ev_I0 ev_J0 ev_R0 []) cz kz := by
  intro G
  rfl
set_option maxRecDepth 100000 in
set_option maxHeartbeats 100000 in
theorem eo_salvo_s_r9 (xs : Nat → Int32)  (cz kz : Nat) : ∀ G : ez_F, fx_up (4, xs) 2 G 241 486 [ez_scr, .ref 0, .ref 35, .int 0] [.int 1, .int 0, ez_scr, .ref 35, .int (-2)] (ev_hp ev_I0 ev_J0 ev_R0 []) cz kz = G 241 488 [ez_scr, .ref 0, .ref 35, .int 0] [.int (xs 1), .ref 35, .int (-2)] (ev_hp ev_I0 ev_J0 ev_R0 []) cz kz := by
  intro G
  rfl
set_option maxRecDepth 100000 in
set_option maxHeartbeats 100000 in
theorem eo_salvo_s_r10 (xs : Nat → Int32)  (cz kz : Nat) : ∀ G : ez_F, fx_up (4, xs) 2 G 241 488 [ez_scr, .ref 0, .ref 35, .int 0] [.int (xs 1), .ref 35, .int (-2)] (ev_hp ev_I0 ev_J0 ev_R0 []) cz kz = G 241 490 [ez_scr, .ref 0, .ref 35, .int 0] [.int 0, ez_scr, .int (xs 1), .ref 35, .int (-2)] (ev_hp ev_I0 ev_J0 ev_R0 []) cz kz := by
  intro G
  rfl
set_option maxRecDepth 100000 in
set_option maxHeartbeats 100000 in
theorem eo_salvo_s_r11 (xs : Nat → Int32)  (cz kz : Nat) : ∀ G : ez_F, fx_up (4, xs) 2 G 241 490 [ez_scr, .ref 0, .ref 35, .int 0] [.int 0, ez_scr, .int (xs 1), .ref 35, .int (-2)] (ev_hp ev_I0 ev_J0 ev_R0 []) cz kz = G 241 492 [ez_scr, .ref 0, .ref 35, .int 0] [.int 2, ez_scr, .int (xs 1), .ref 35, .int (-2)] (ev_hp ev_I0 ev_J0 ev_R0 []) cz kz := by
  intro G
  rfl
set_option maxRecDepth 100000 in
set_option maxHeartbeats 100000 in
theorem eo_salvo_s_r12 (xs : Nat → Int32)  (cz kz : Nat) : ∀ G : ez_F, fx_up (4, xs) 2 G 241 492 [ez_scr, .ref 0, .ref 35, .int 0] [.int 2, ez_scr, .int (xs 1), .ref 35, .int (-2)] (ev_hp ev_I0 ev_J0 ev_R0 []) cz kz = ev_C G 218 [.ref 35, .int (xs 1), .int (xs 2)] (ev_hp ev_I0 ev_J0 ev_R0 []) fun r h1 c1 k1 => G 241 496 [ez_scr, .ref 0, .ref 35, .int 0] (r.toList ++ [.int (-2)]) h1 (cz + c1) (kz + k1) := by
  intro G
  rfl
set_option maxRecDepth 100000 in
set_option maxHeartbeats 100000 in
theorem eo_salvo_s_r13 (xs : Nat → Int32)  (cz kz : Nat) : ∀ G : ez_F, fx_up (4, xs) 2 G 241 496 [ez_scr, .ref 0, .ref 35, .int 0] [.int (-2), .int (-2)] (ev_hp ev_I0 ev_J0 ev_R0 []) cz kz = G 241 1078 [ez_scr, .ref 0, .ref 35, .int 4] [] (ev_hp ev_I0 ev_J0 ev_R0 []) cz kz := by
  intro G
  rfl
set_option maxRecDepth 100000 in
set_option maxHeartbeats 100000 in
theorem eo_salvo_s_r14 (xs : Nat → Int32)  (cz kz : Nat) : ∀ G : ez_F, fx_up (4, xs) 2 G 241 1078 [ez_scr, .ref 0, .ref 35, .int 4] [] (ev_hp ev_I0 ev_J0 ev_R0 []) cz kz = G 241 19 [ez_scr, .ref 0, .ref 35, .int 4] [.int 4] (ev_hp ev_I0 ev_J0 ev_R0 []) cz kz := by
  intro G
  rfl
set_option maxRecDepth 100000 in
set_option maxHeartbeats 100000 in
theorem eo_salvo_s_r15 (xs : Nat → Int32)  (cz kz : Nat) : ∀ G : ez_F, fx_up (4, xs) 2 G 241 19 [ez_scr, .ref 0, .ref 35, .int 4] [.int 4] (ev_hp ev_I0 ev_J0 ev_R0 []) cz kz = G 241 21 [ez_scr, .ref 0, .ref 35, .int 4] [.int 4, .int 4] (ev_hp ev_I0 ev_J0 ev_R0 []) cz kz := by
  intro G
  rfl
set_option maxRecDepth 100000 in
set_option maxHeartbeats 100000 in
theorem eo_salvo_s_r16 (xs : Nat → Int32)  (cz kz : Nat) : ∀ G : ez_F, fx_up (4, xs) 2 G 241 21 [ez_scr, .ref 0, .ref 35, .int 4] [.int 4, .int 4] (ev_hp ev_I0 ev_J0 ev_R0 []) cz kz = G 241 23 [ez_scr, .ref 0, .ref 35, .int 4] [.int 0, .int 4] (ev_hp ev_I0 ev_J0 ev_R0 []) cz kz := by
  intro G
  rfl
set_option maxRecDepth 100000 in
set_option maxHeartbeats 100000 in
theorem eo_salvo_s_r17 (xs : Nat → Int32)  (cz kz : Nat) : ∀ G : ez_F, fx_up (4, xs) 2 G 241 23 [ez_scr, .ref 0, .ref 35, .int 4] [.int 0, .int 4] (ev_hp ev_I0 ev_J0 ev_R0 []) cz kz = G 241 1082 [ez_scr, .ref 0, .ref 35, .int 4] [.int 1] (ev_hp ev_I0 ev_J0 ev_R0 []) cz kz := by
  intro G
  rfl
set_option maxRecDepth 100000 in
set_option maxHeartbeats 100000 in
theorem eo_salvo_s_r18 (xs : Nat → Int32)  (cz kz : Nat) : ∀ G : ez_F, fx_up (4, xs) 1 G 241 1082 [ez_scr, .ref 0, .ref 35, .int 4] [.int 1] (ev_hp ev_I0 ev_J0 ev_R0 []) cz kz = some (some (.int 1), (ev_hp ev_I0 ev_J0 ev_R0 []), cz, kz) := by
  intro G
  rfl
theorem eo_salvo_s (xs : Nat → Int32) (ha : ¬ ev_wi (xs 1) 0 24 = 0) (hb : ev_wi (xs 2) 0 24 = 0) : ev_P1 (4, xs) 468 := by
  refine ev_seg (eo_salvo_s_r1 xs  _ _) ?_
  refine ev_seg (eo_salvo_s_r2 xs  _ _) ?_
  refine ev_seg (eo_salvo_s_r3 xs  _ _) ?_
  refine ev_seg (eo_salvo_s_r4 xs  _ _) ?_
  refine ev_seg (eo_salvo_s_r5 xs  _ _) ?_
  refine ev_call (eo_salvo_s_r6 xs  _ _) (ef_salvo_s (4, xs) ev_I0 ev_J0 ev_R0 [] (xs 1) (xs 2) ha hb) ?_
  rintro r0 _ _ _ (⟨d73, d74, rfl, rfl, rfl, rfl⟩)
  refine ev_seg (eo_salvo_s_r7 xs  _ _) ?_
  refine ev_seg (eo_salvo_s_r8 xs  _ _) ?_
  refine ev_seg (eo_salvo_s_r9 xs  _ _) ?_
  refine ev_seg (eo_salvo_s_r10 xs  _ _) ?_
  refine ev_seg (eo_salvo_s_r11 xs  _ _) ?_
  refine ev_call (eo_salvo_s_r12 xs  _ _) (eh_salvo_s (4, xs) ev_I0 ev_J0 ev_R0 [] (xs 1) (xs 2) ha hb) ?_
  rintro r0 _ _ _ (⟨d75, d76, rfl, rfl, rfl, rfl⟩)
  refine ev_seg (eo_salvo_s_r13 xs  _ _) ?_
  refine ev_seg (eo_salvo_s_r14 xs  _ _) ?_
  refine ev_seg (eo_salvo_s_r15 xs  _ _) ?_
  refine ev_seg (eo_salvo_s_r16 xs  _ _) ?_
  refine ev_seg (eo_salvo_s_r17 xs  _ _) ?_
  refine ev_ret (eo_salvo_s_r18 xs  _ _) ?_
  exact ⟨rfl, by omega, by omega⟩
set_option maxRecDepth 100000 in
set_option maxHeartbeats 100000 in
theorem ef_drift_r_r1 (X : ez_X) (I : Nat → Nat → Int32) (J : Nat → Nat → Int64) (R : Nat → Nat) (T : List ez_C) (a : Int32) (b : Int32) (cz kz : Nat) : ∀ G : ez_F, fx_up X 4 G 16 0 [.ref 0, .int a, .int b] [] (ev_hp ev_I0 ev_J0 ev_R0 []) cz kz = ev_C G 55 [.int a, .int (-1), .int 1] (ev_hp ev_I0 ev_J0 ev_R0 []) fun r h1 c1 k1 => G 16 6 [.ref 0, .int a, .int b] (r.toList ++ []) h1 (cz + c1) (kz + k1) := by
  intro G
  rfl
set_option maxRecDepth 100000 in
set_option maxHeartbeats 100000 in
theorem ef_drift_r_r2 (X : ez_X) (I : Nat → Nat → Int32) (J : Nat → Nat → Int64) (R : Nat → Nat) (T : List ez_C) (a : Int32) (b : Int32) (q118 : Int32) (cz kz : Nat) : ∀ G : ez_F, fx_up X 1 G 16 6 [.ref 0, .int a, .int b] [.int q118] (ev_hp ev_I0 ev_J0 ev_R0 []) cz kz = bif decide (q118 = 0) then G 16 18 [.ref 0, .int a, .int b] [] (ev_hp ev_I0 ev_J0 ev_R0 []) cz kz else G 16 9 [.ref 0, .int a, .int b] [] (ev_hp ev_I0 ev_J0 ev_R0 []) cz kz := by
  intro G
  rfl
set_option maxRecDepth 100000 in
set_option maxHeartbeats 100000 in
theorem ef_drift_r_r3 (X : ez_X) (I : Nat → Nat → Int32) (J : Nat → Nat → Int64) (R : Nat → Nat) (T : List ez_C) (a : Int32) (b : Int32) (q118 : Int32) (cz kz : Nat) : ∀ G : ez_F, fx_up X 2 G 16 18 [.ref 0, .int a, .int b] [] (ev_hp ev_I0 ev_J0 ev_R0 []) cz kz = some (some (.int (-3)), (ev_hp ev_I0 ev_J0 ev_R0 []), cz, kz) := by
  intro G
  rfl
theorem ef_drift_r (X : ez_X) (I : Nat → Nat → Int32) (J : Nat → Nat → Int64) (R : Nat → Nat) (T : List ez_C) (a : Int32) (b : Int32) (ha : ev_wi a (-1) 1 = 0) : ev_W X 16 0 (ez_lay [.ref 0, .int a, .int b]) [] (ev_hp ev_I0 ev_J0 ev_R0 []) 0 0 (fun r h1 c1 k1 => ((((ev_wi a (-1) 1)) = 0) ∧ r = some (.int (-3)) ∧ h1 = (ev_hp ev_I0 ev_J0 ev_R0 []) ∧ c1 = 0 ∧ k1 = 0)) := by
  refine ev_call (ef_drift_r_r1 X I J R T a b _ _) (ec_within X (ev_hp ev_I0 ev_J0 ev_R0 []) a (-1) 1) ?_
  rintro _ _ _ _ ⟨rfl, rfl, rfl, rfl⟩
  generalize hq118 : (ev_wi a (-1) 1) = q118
  refine ev_if (ef_drift_r_r2 X I J R T a b q118 _ _) (fun b1 => ?_) (fun b1 => ?_)
  · replace b1 := of_decide_eq_true b1
    refine ev_ret (ef_drift_r_r3 X I J R T a b q118 _ _) ?_
    subst hq118
    exact ⟨b1, rfl, rfl, rfl, rfl⟩
  · replace b1 := of_decide_eq_false b1
    exact (b1 (by rw [← hq118]; exact ha)).elim
set_option maxRecDepth 100000 in
set_option maxHeartbeats 100000 in
theorem eh_drift_r_r1 (X : ez_X) (I : Nat → Nat → Int32) (J : Nat → Nat → Int64) (R : Nat → Nat) (T : List ez_C) (a : Int32) (b : Int32) (cz kz : Nat) : ∀ G : ez_F, fx_up X 5 G 185 0 [.ref 35, .int a, .int b] [] (ev_hp ev_I0 ev_J0 ev_R0 []) cz kz = ev_C G 198 [.long (a.toInt64), .long (-1), .long 1] (ev_hp ev_I0 ev_J0 ev_R0 []) fun r h1 c1 k1 => G 185 9 [.ref 35, .int a, .int b] (r.toList ++ []) h1 (cz + c1) (kz + k1) := by
  intro G
  rfl
set_option maxRecDepth 100000 in
set_option maxHeartbeats 100000 in
theorem eh_drift_r_r2 (X : ez_X) (I : Nat → Nat → Int32) (J : Nat → Nat → Int64) (R : Nat → Nat) (T : List ez_C) (a : Int32) (b : Int32) (q119 : Int32) (cz kz : Nat) : ∀ G : ez_F, fx_up X 1 G 185 9 [.ref 35, .int a, .int b] [.int q119] (ev_hp ev_I0 ev_J0 ev_R0 []) cz kz = bif decide (q119 = 0) then G 185 24 [.ref 35, .int a, .int b] [] (ev_hp ev_I0 ev_J0 ev_R0 []) cz kz else G 185 12 [.ref 35, .int a, .int b] [] (ev_hp ev_I0 ev_J0 ev_R0 []) cz kz := by
  intro G
  rfl
set_option maxRecDepth 100000 in
set_option maxHeartbeats 100000 in
theorem eh_drift_r_r3 (X : ez_X) (I : Nat → Nat → Int32) (J : Nat → Nat → Int64) (R : Nat → Nat) (T : List ez_C) (a : Int32) (b : Int32) (q119 : Int32) (cz kz : Nat) : ∀ G : ez_F, fx_up X 2 G 185 24 [.ref 35, .int a, .int b] [] (ev_hp ev_I0 ev_J0 ev_R0 []) cz kz = some (some (.int (-3)), (ev_hp ev_I0 ev_J0 ev_R0 []), cz, kz) := by
  intro G
  rfl
theorem eh_drift_r (X : ez_X) (I : Nat → Nat → Int32) (J : Nat → Nat → Int64) (R : Nat → Nat) (T : List ez_C) (a : Int32) (b : Int32) (ha : ev_wi a (-1) 1 = 0) : ev_W X 185 0 (ez_lay [.ref 35, .int a, .int b]) [] (ev_hp ev_I0 ev_J0 ev_R0 []) 0 0 (fun r h1 c1 k1 => ((((ev_il (a.toInt64) (-1) 1)) = 0) ∧ r = some (.int (-3)) ∧ h1 = (ev_hp ev_I0 ev_J0 ev_R0 []) ∧ c1 = 0 ∧ k1 = 0)) := by
  refine ev_call (eh_drift_r_r1 X I J R T a b _ _) (ec_in X (ev_hp ev_I0 ev_J0 ev_R0 []) (a.toInt64) (-1) 1) ?_
  rintro _ _ _ _ ⟨rfl, rfl, rfl, rfl⟩
  generalize hq119 : (ev_il (a.toInt64) (-1) 1) = q119
  refine ev_if (eh_drift_r_r2 X I J R T a b q119 _ _) (fun b1 => ?_) (fun b1 => ?_)
  · replace b1 := of_decide_eq_true b1
    refine ev_ret (eh_drift_r_r3 X I J R T a b q119 _ _) ?_
    subst hq119
    exact ⟨b1, rfl, rfl, rfl, rfl⟩
  · replace b1 := of_decide_eq_false b1
    exact (b1 (by rw [← hq119]; exact ((ev_il_wi a (-1) 1).trans ha))).elim
set_option maxRecDepth 100000 in
set_option maxHeartbeats 100000 in
theorem eo_drift_r_r1 (xs : Nat → Int32)  (cz kz : Nat) : ∀ G : ez_F, fx_up (4, xs) 2 G 241 309 [ez_scr, .ref 0, .ref 35, .int 0] [] (ev_hp ev_I0 ev_J0 ev_R0 []) cz kz = G 241 311 [ez_scr, .ref 0, .ref 35, .int 0] [ez_scr, .ref 0] (ev_hp ev_I0 ev_J0 ev_R0 []) cz kz := by
  intro G
  rfl
set_option maxRecDepth 100000 in
set_option maxHeartbeats 100000 in
theorem eo_drift_r_r2 (xs : Nat → Int32)  (cz kz : Nat) : ∀ G : ez_F, fx_up (4, xs) 2 G 241 311 [ez_scr, .ref 0, .ref 35, .int 0] [ez_scr, .ref 0] (ev_hp ev_I0 ev_J0 ev_R0 []) cz kz = G 241 313 [ez_scr, .ref 0, .ref 35, .int 0] [.int 1, .int 0, ez_scr, .ref 0] (ev_hp ev_I0 ev_J0 ev_R0 []) cz kz := by
  intro G
  rfl
set_option maxRecDepth 100000 in
set_option maxHeartbeats 100000 in
theorem eo_drift_r_r3 (xs : Nat → Int32)  (cz kz : Nat) : ∀ G : ez_F, fx_up (4, xs) 2 G 241 313 [ez_scr, .ref 0, .ref 35, .int 0] [.int 1, .int 0, ez_scr, .ref 0] (ev_hp ev_I0 ev_J0 ev_R0 []) cz kz = G 241 315 [ez_scr, .ref 0, .ref 35, .int 0] [.int (xs 1), .ref 0] (ev_hp ev_I0 ev_J0 ev_R0 []) cz kz := by
  intro G
  rfl
set_option maxRecDepth 100000 in
set_option maxHeartbeats 100000 in
theorem eo_drift_r_r4 (xs : Nat → Int32)  (cz kz : Nat) : ∀ G : ez_F, fx_up (4, xs) 2 G 241 315 [ez_scr, .ref 0, .ref 35, .int 0] [.int (xs 1), .ref 0] (ev_hp ev_I0 ev_J0 ev_R0 []) cz kz = G 241 317 [ez_scr, .ref 0, .ref 35, .int 0] [.int 0, ez_scr, .int (xs 1), .ref 0] (ev_hp ev_I0 ev_J0 ev_R0 []) cz kz := by
  intro G
  rfl
set_option maxRecDepth 100000 in
set_option maxHeartbeats 100000 in
theorem eo_drift_r_r5 (xs : Nat → Int32)  (cz kz : Nat) : ∀ G : ez_F, fx_up (4, xs) 2 G 241 317 [ez_scr, .ref 0, .ref 35, .int 0] [.int 0, ez_scr, .int (xs 1), .ref 0] (ev_hp ev_I0 ev_J0 ev_R0 []) cz kz = G 241 319 [ez_scr, .ref 0, .ref 35, .int 0] [.int 2, ez_scr, .int (xs 1), .ref 0] (ev_hp ev_I0 ev_J0 ev_R0 []) cz kz := by
  intro G
  rfl
set_option maxRecDepth 100000 in
set_option maxHeartbeats 100000 in
theorem eo_drift_r_r6 (xs : Nat → Int32)  (cz kz : Nat) : ∀ G : ez_F, fx_up (4, xs) 2 G 241 319 [ez_scr, .ref 0, .ref 35, .int 0] [.int 2, ez_scr, .int (xs 1), .ref 0] (ev_hp ev_I0 ev_J0 ev_R0 []) cz kz = ev_C G 16 [.ref 0, .int (xs 1), .int (xs 2)] (ev_hp ev_I0 ev_J0 ev_R0 []) fun r h1 c1 k1 => G 241 323 [ez_scr, .ref 0, .ref 35, .int 0] (r.toList ++ []) h1 (cz + c1) (kz + k1) := by
  intro G
  rfl
set_option maxRecDepth 100000 in
set_option maxHeartbeats 100000 in
theorem eo_drift_r_r7 (xs : Nat → Int32)  (cz kz : Nat) : ∀ G : ez_F, fx_up (4, xs) 2 G 241 323 [ez_scr, .ref 0, .ref 35, .int 0] [.int (-3)] (ev_hp ev_I0 ev_J0 ev_R0 []) cz kz = G 241 325 [ez_scr, .ref 0, .ref 35, .int 0] [ez_scr, .ref 35, .int (-3)] (ev_hp ev_I0 ev_J0 ev_R0 []) cz kz := by
  intro G
  rfl
set_option maxRecDepth 100000 in
set_option maxHeartbeats 100000 in
theorem eo_drift_r_r8 (xs : Nat → Int32)  (cz kz : Nat) : ∀ G : ez_F, fx_up (4, xs) 2 G 241 325 [ez_scr, .ref 0, .ref 35, .int 0] [ez_scr, .ref 35, .int (-3)] (ev_hp ev_I0 ev_J0 ev_R0 []) cz kz = G 241 327 [ez_scr, .ref 0, .ref 35, .int 0] [.int 1, .int 0, ez_scr, .ref 35, .int (-3)] (ev_hp ev_I0 ev_J0 ev_R0 []) cz kz := by
  intro G
  rfl
set_option maxRecDepth 100000 in
set_option maxHeartbeats 100000 in
theorem eo_drift_r_r9 (xs : Nat → Int32)  (cz kz : Nat) : ∀ G : ez_F, fx_up (4, xs) 2 G 241 327 [ez_scr, .ref 0, .ref 35, .int 0] [.int 1, .int 0, ez_scr, .ref 35, .int (-3)] (ev_hp ev_I0 ev_J0 ev_R0 []) cz kz = G 241 329 [ez_scr, .ref 0, .ref 35, .int 0] [.int (xs 1), .ref 35, .int (-3)] (ev_hp ev_I0 ev_J0 ev_R0 []) cz kz := by
  intro G
  rfl
set_option maxRecDepth 100000 in
set_option maxHeartbeats 100000 in
theorem eo_drift_r_r10 (xs : Nat → Int32)  (cz kz : Nat) : ∀ G : ez_F, fx_up (4, xs) 2 G 241 329 [ez_scr, .ref 0, .ref 35, .int 0] [.int (xs 1), .ref 35, .int (-3)] (ev_hp ev_I0 ev_J0 ev_R0 []) cz kz = G 241 331 [ez_scr, .ref 0, .ref 35, .int 0] [.int 0, ez_scr, .int (xs 1), .ref 35, .int (-3)] (ev_hp ev_I0 ev_J0 ev_R0 []) cz kz := by
  intro G
  rfl
set_option maxRecDepth 100000 in
set_option maxHeartbeats 100000 in
theorem eo_drift_r_r11 (xs : Nat → Int32)  (cz kz : Nat) : ∀ G : ez_F, fx_up (4, xs) 2 G 241 331 [ez_scr, .ref 0, .ref 35, .int 0] [.int 0, ez_scr, .int (xs 1), .ref 35, .int (-3)] (ev_hp ev_I0 ev_J0 ev_R0 []) cz kz = G 241 333 [ez_scr, .ref 0, .ref 35, .int 0] [.int 2, ez_scr, .int (xs 1), .ref 35, .int (-3)] (ev_hp ev_I0 ev_J0 ev_R0 []) cz kz := by
  intro G
  rfl
set_option maxRecDepth 100000 in
set_option maxHeartbeats 100000 in
theorem eo_drift_r_r12 (xs : Nat → Int32)  (cz kz : Nat) : ∀ G : ez_F, fx_up (4, xs) 2 G 241 333 [ez_scr, .ref 0, .ref 35, .int 0] [.int 2, ez_scr, .int (xs 1), .ref 35, .int (-3)] (ev_hp ev_I0 ev_J0 ev_R0 []) cz kz = ev_C G 185 [.ref 35, .int (xs 1), .int (xs 2)] (ev_hp ev_I0 ev_J0 ev_R0 []) fun r h1 c1 k1 => G 241 337 [ez_scr, .ref 0, .ref 35, .int 0] (r.toList ++ [.int (-3)]) h1 (cz + c1) (kz + k1) := by
  intro G
  rfl
set_option maxRecDepth 100000 in
set_option maxHeartbeats 100000 in
theorem eo_drift_r_r13 (xs : Nat → Int32)  (cz kz : Nat) : ∀ G : ez_F, fx_up (4, xs) 2 G 241 337 [ez_scr, .ref 0, .ref 35, .int 0] [.int (-3), .int (-3)] (ev_hp ev_I0 ev_J0 ev_R0 []) cz kz = G 241 1078 [ez_scr, .ref 0, .ref 35, .int 4] [] (ev_hp ev_I0 ev_J0 ev_R0 []) cz kz := by
  intro G
  rfl
set_option maxRecDepth 100000 in
set_option maxHeartbeats 100000 in
theorem eo_drift_r_r14 (xs : Nat → Int32)  (cz kz : Nat) : ∀ G : ez_F, fx_up (4, xs) 2 G 241 1078 [ez_scr, .ref 0, .ref 35, .int 4] [] (ev_hp ev_I0 ev_J0 ev_R0 []) cz kz = G 241 19 [ez_scr, .ref 0, .ref 35, .int 4] [.int 4] (ev_hp ev_I0 ev_J0 ev_R0 []) cz kz := by
  intro G
  rfl
set_option maxRecDepth 100000 in
set_option maxHeartbeats 100000 in
theorem eo_drift_r_r15 (xs : Nat → Int32)  (cz kz : Nat) : ∀ G : ez_F, fx_up (4, xs) 2 G 241 19 [ez_scr, .ref 0, .ref 35, .int 4] [.int 4] (ev_hp ev_I0 ev_J0 ev_R0 []) cz kz = G 241 21 [ez_scr, .ref 0, .ref 35, .int 4] [.int 4, .int 4] (ev_hp ev_I0 ev_J0 ev_R0 []) cz kz := by
  intro G
  rfl
set_option maxRecDepth 100000 in
set_option maxHeartbeats 100000 in
theorem eo_drift_r_r16 (xs : Nat → Int32)  (cz kz : Nat) : ∀ G : ez_F, fx_up (4, xs) 2 G 241 21 [ez_scr, .ref 0, .ref 35, .int 4] [.int 4, .int 4] (ev_hp ev_I0 ev_J0 ev_R0 []) cz kz = G 241 23 [ez_scr, .ref 0, .ref 35, .int 4] [.int 0, .int 4] (ev_hp ev_I0 ev_J0 ev_R0 []) cz kz := by
  intro G
  rfl
set_option maxRecDepth 100000 in
set_option maxHeartbeats 100000 in
theorem eo_drift_r_r17 (xs : Nat → Int32)  (cz kz : Nat) : ∀ G : ez_F, fx_up (4, xs) 2 G 241 23 [ez_scr, .ref 0, .ref 35, .int 4] [.int 0, .int 4] (ev_hp ev_I0 ev_J0 ev_R0 []) cz kz = G 241 1082 [ez_scr, .ref 0, .ref 35, .int 4] [.int 1] (ev_hp ev_I0 ev_J0 ev_R0 []) cz kz := by
  intro G
  rfl
set_option maxRecDepth 100000 in
set_option maxHeartbeats 100000 in
theorem eo_drift_r_r18 (xs : Nat → Int32)  (cz kz : Nat) : ∀ G : ez_F, fx_up (4, xs) 1 G 241 1082 [ez_scr, .ref 0, .ref 35, .int 4] [.int 1] (ev_hp ev_I0 ev_J0 ev_R0 []) cz kz = some (some (.int 1), (ev_hp ev_I0 ev_J0 ev_R0 []), cz, kz) := by
  intro G
  rfl
theorem eo_drift_r (xs : Nat → Int32) (ha : ev_wi (xs 1) (-1) 1 = 0) : ev_P1 (4, xs) 309 := by
  refine ev_seg (eo_drift_r_r1 xs  _ _) ?_
  refine ev_seg (eo_drift_r_r2 xs  _ _) ?_
  refine ev_seg (eo_drift_r_r3 xs  _ _) ?_
  refine ev_seg (eo_drift_r_r4 xs  _ _) ?_
  refine ev_seg (eo_drift_r_r5 xs  _ _) ?_
  refine ev_call (eo_drift_r_r6 xs  _ _) (ef_drift_r (4, xs) ev_I0 ev_J0 ev_R0 [] (xs 1) (xs 2) ha) ?_
  rintro r0 _ _ _ (⟨d77, rfl, rfl, rfl, rfl⟩)
  refine ev_seg (eo_drift_r_r7 xs  _ _) ?_
  refine ev_seg (eo_drift_r_r8 xs  _ _) ?_
  refine ev_seg (eo_drift_r_r9 xs  _ _) ?_
  refine ev_seg (eo_drift_r_r10 xs  _ _) ?_
  refine ev_seg (eo_drift_r_r11 xs  _ _) ?_
  refine ev_call (eo_drift_r_r12 xs  _ _) (eh_drift_r (4, xs) ev_I0 ev_J0 ev_R0 [] (xs 1) (xs 2) ha) ?_
  rintro r0 _ _ _ (⟨d78, rfl, rfl, rfl, rfl⟩)
  refine ev_seg (eo_drift_r_r13 xs  _ _) ?_
  refine ev_seg (eo_drift_r_r14 xs  _ _) ?_
  refine ev_seg (eo_drift_r_r15 xs  _ _) ?_
  refine ev_seg (eo_drift_r_r16 xs  _ _) ?_
  refine ev_seg (eo_drift_r_r17 xs  _ _) ?_
  refine ev_ret (eo_drift_r_r18 xs  _ _) ?_
  exact ⟨rfl, by omega, by omega⟩
set_option maxRecDepth 100000 in
set_option maxHeartbeats 100000 in
theorem ef_drift_s_r1 (X : ez_X) (I : Nat → Nat → Int32) (J : Nat → Nat → Int64) (R : Nat → Nat) (T : List ez_C) (a : Int32) (b : Int32) (cz kz : Nat) : ∀ G : ez_F, fx_up X 4 G 16 0 [.ref 0, .int a, .int b] [] (ev_hp ev_I0 ev_J0 ev_R0 []) cz kz = ev_C G 55 [.int a, .int (-1), .int 1] (ev_hp ev_I0 ev_J0 ev_R0 []) fun r h1 c1 k1 => G 16 6 [.ref 0, .int a, .int b] (r.toList ++ []) h1 (cz + c1) (kz + k1) := by
  intro G
  rfl
set_option maxRecDepth 100000 in
set_option maxHeartbeats 100000 in
theorem ef_drift_s_r2 (X : ez_X) (I : Nat → Nat → Int32) (J : Nat → Nat → Int64) (R : Nat → Nat) (T : List ez_C) (a : Int32) (b : Int32) (q120 : Int32) (cz kz : Nat) : ∀ G : ez_F, fx_up X 1 G 16 6 [.ref 0, .int a, .int b] [.int q120] (ev_hp ev_I0 ev_J0 ev_R0 []) cz kz = bif decide (q120 = 0) then G 16 18 [.ref 0, .int a, .int b] [] (ev_hp ev_I0 ev_J0 ev_R0 []) cz kz else G 16 9 [.ref 0, .int a, .int b] [] (ev_hp ev_I0 ev_J0 ev_R0 []) cz kz := by
  intro G
  rfl
set_option maxRecDepth 100000 in
set_option maxHeartbeats 100000 in
theorem ef_drift_s_r3 (X : ez_X) (I : Nat → Nat → Int32) (J : Nat → Nat → Int64) (R : Nat → Nat) (T : List ez_C) (a : Int32) (b : Int32) (q120 : Int32) (cz kz : Nat) : ∀ G : ez_F, fx_up X 4 G 16 9 [.ref 0, .int a, .int b] [] (ev_hp ev_I0 ev_J0 ev_R0 []) cz kz = ev_C G 55 [.int b, .int (-1), .int 1] (ev_hp ev_I0 ev_J0 ev_R0 []) fun r h1 c1 k1 => G 16 15 [.ref 0, .int a, .int b] (r.toList ++ []) h1 (cz + c1) (kz + k1) := by
  intro G
  rfl
set_option maxRecDepth 100000 in
set_option maxHeartbeats 100000 in
theorem ef_drift_s_r4 (X : ez_X) (I : Nat → Nat → Int32) (J : Nat → Nat → Int64) (R : Nat → Nat) (T : List ez_C) (a : Int32) (b : Int32) (q120 : Int32) (q121 : Int32) (cz kz : Nat) : ∀ G : ez_F, fx_up X 1 G 16 15 [.ref 0, .int a, .int b] [.int q121] (ev_hp ev_I0 ev_J0 ev_R0 []) cz kz = bif decide (¬ q121 = 0) then G 16 21 [.ref 0, .int a, .int b] [] (ev_hp ev_I0 ev_J0 ev_R0 []) cz kz else G 16 18 [.ref 0, .int a, .int b] [] (ev_hp ev_I0 ev_J0 ev_R0 []) cz kz := by
  intro G
  rfl
set_option maxRecDepth 100000 in
set_option maxHeartbeats 100000 in
theorem ef_drift_s_r5 (X : ez_X) (I : Nat → Nat → Int32) (J : Nat → Nat → Int64) (R : Nat → Nat) (T : List ez_C) (a : Int32) (b : Int32) (q120 : Int32) (q121 : Int32) (cz kz : Nat) : ∀ G : ez_F, fx_up X 2 G 16 18 [.ref 0, .int a, .int b] [] (ev_hp ev_I0 ev_J0 ev_R0 []) cz kz = some (some (.int (-3)), (ev_hp ev_I0 ev_J0 ev_R0 []), cz, kz) := by
  intro G
  rfl
theorem ef_drift_s (X : ez_X) (I : Nat → Nat → Int32) (J : Nat → Nat → Int64) (R : Nat → Nat) (T : List ez_C) (a : Int32) (b : Int32) (ha : ¬ ev_wi a (-1) 1 = 0) (hb : ev_wi b (-1) 1 = 0) : ev_W X 16 0 (ez_lay [.ref 0, .int a, .int b]) [] (ev_hp ev_I0 ev_J0 ev_R0 []) 0 0 (fun r h1 c1 k1 => ((¬ (((ev_wi a (-1) 1)) = 0)) ∧ (¬ (¬ ((ev_wi b (-1) 1)) = 0)) ∧ r = some (.int (-3)) ∧ h1 = (ev_hp ev_I0 ev_J0 ev_R0 []) ∧ c1 = 0 ∧ k1 = 0)) := by
  refine ev_call (ef_drift_s_r1 X I J R T a b _ _) (ec_within X (ev_hp ev_I0 ev_J0 ev_R0 []) a (-1) 1) ?_
  rintro _ _ _ _ ⟨rfl, rfl, rfl, rfl⟩
  generalize hq120 : (ev_wi a (-1) 1) = q120
  refine ev_if (ef_drift_s_r2 X I J R T a b q120 _ _) (fun b1 => ?_) (fun b1 => ?_)
  · replace b1 := of_decide_eq_true b1
    exact absurd (hq120.trans b1) ha
  · replace b1 := of_decide_eq_false b1
    refine ev_call (ef_drift_s_r3 X I J R T a b q120 _ _) (ec_within X (ev_hp ev_I0 ev_J0 ev_R0 []) b (-1) 1) ?_
    rintro _ _ _ _ ⟨rfl, rfl, rfl, rfl⟩
    generalize hq121 : (ev_wi b (-1) 1) = q121
    refine ev_if (ef_drift_s_r4 X I J R T a b q120 q121 _ _) (fun b2 => ?_) (fun b2 => ?_)
    · replace b2 := of_decide_eq_true b2
      exact (b2 (by rw [← hq121]; exact hb)).elim
    · replace b2 := of_decide_eq_false b2
      refine ev_ret (ef_drift_s_r5 X I J R T a b q120 q121 _ _) ?_
      subst hq121
      subst hq120
      exact ⟨b1, b2, rfl, rfl, rfl, rfl⟩
set_option maxRecDepth 100000 in
set_option maxHeartbeats 100000 in
theorem eh_drift_s_r1 (X : ez_X) (I : Nat → Nat → Int32) (J : Nat → Nat → Int64) (R : Nat → Nat) (T : List ez_C) (a : Int32) (b : Int32) (cz kz : Nat) : ∀ G : ez_F, fx_up X 5 G 185 0 [.ref 35, .int a, .int b] [] (ev_hp ev_I0 ev_J0 ev_R0 []) cz kz = ev_C G 198 [.long (a.toInt64), .long (-1), .long 1] (ev_hp ev_I0 ev_J0 ev_R0 []) fun r h1 c1 k1 => G 185 9 [.ref 35, .int a, .int b] (r.toList ++ []) h1 (cz + c1) (kz + k1) := by
  intro G
  rfl
set_option maxRecDepth 100000 in
set_option maxHeartbeats 100000 in
theorem eh_drift_s_r2 (X : ez_X) (I : Nat → Nat → Int32) (J : Nat → Nat → Int64) (R : Nat → Nat) (T : List ez_C) (a : Int32) (b : Int32) (q122 : Int32) (cz kz : Nat) : ∀ G : ez_F, fx_up X 1 G 185 9 [.ref 35, .int a, .int b] [.int q122] (ev_hp ev_I0 ev_J0 ev_R0 []) cz kz = bif decide (q122 = 0) then G 185 24 [.ref 35, .int a, .int b] [] (ev_hp ev_I0 ev_J0 ev_R0 []) cz kz else G 185 12 [.ref 35, .int a, .int b] [] (ev_hp ev_I0 ev_J0 ev_R0 []) cz kz := by
  intro G
  rfl
set_option maxRecDepth 100000 in
set_option maxHeartbeats 100000 in
theorem eh_drift_s_r3 (X : ez_X) (I : Nat → Nat → Int32) (J : Nat → Nat → Int64) (R : Nat → Nat) (T : List ez_C) (a : Int32) (b : Int32) (q122 : Int32) (cz kz : Nat) : ∀ G : ez_F, fx_up X 5 G 185 12 [.ref 35, .int a, .int b] [] (ev_hp ev_I0 ev_J0 ev_R0 []) cz kz = ev_C G 198 [.long (b.toInt64), .long (-1), .long 1] (ev_hp ev_I0 ev_J0 ev_R0 []) fun r h1 c1 k1 => G 185 21 [.ref 35, .int a, .int b] (r.toList ++ []) h1 (cz + c1) (kz + k1) := by
  intro G
  rfl
set_option maxRecDepth 100000 in
set_option maxHeartbeats 100000 in
theorem eh_drift_s_r4 (X : ez_X) (I : Nat → Nat → Int32) (J : Nat → Nat → Int64) (R : Nat → Nat) (T : List ez_C) (a : Int32) (b : Int32) (q122 : Int32) (q123 : Int32) (cz kz : Nat) : ∀ G : ez_F, fx_up X 1 G 185 21 [.ref 35, .int a, .int b] [.int q123] (ev_hp ev_I0 ev_J0 ev_R0 []) cz kz = bif decide (¬ q123 = 0) then G 185 27 [.ref 35, .int a, .int b] [] (ev_hp ev_I0 ev_J0 ev_R0 []) cz kz else G 185 24 [.ref 35, .int a, .int b] [] (ev_hp ev_I0 ev_J0 ev_R0 []) cz kz := by
  intro G
  rfl
set_option maxRecDepth 100000 in
set_option maxHeartbeats 100000 in
theorem eh_drift_s_r5 (X : ez_X) (I : Nat → Nat → Int32) (J : Nat → Nat → Int64) (R : Nat → Nat) (T : List ez_C) (a : Int32) (b : Int32) (q122 : Int32) (q123 : Int32) (cz kz : Nat) : ∀ G : ez_F, fx_up X 2 G 185 24 [.ref 35, .int a, .int b] [] (ev_hp ev_I0 ev_J0 ev_R0 []) cz kz = some (some (.int (-3)), (ev_hp ev_I0 ev_J0 ev_R0 []), cz, kz) := by
  intro G
  rfl
theorem eh_drift_s (X : ez_X) (I : Nat → Nat → Int32) (J : Nat → Nat → Int64) (R : Nat → Nat) (T : List ez_C) (a : Int32) (b : Int32) (ha : ¬ ev_wi a (-1) 1 = 0) (hb : ev_wi b (-1) 1 = 0) : ev_W X 185 0 (ez_lay [.ref 35, .int a, .int b]) [] (ev_hp ev_I0 ev_J0 ev_R0 []) 0 0 (fun r h1 c1 k1 => ((¬ (((ev_il (a.toInt64) (-1) 1)) = 0)) ∧ (¬ (¬ ((ev_il (b.toInt64) (-1) 1)) = 0)) ∧ r = some (.int (-3)) ∧ h1 = (ev_hp ev_I0 ev_J0 ev_R0 []) ∧ c1 = 0 ∧ k1 = 0)) := by
  refine ev_call (eh_drift_s_r1 X I J R T a b _ _) (ec_in X (ev_hp ev_I0 ev_J0 ev_R0 []) (a.toInt64) (-1) 1) ?_
  rintro _ _ _ _ ⟨rfl, rfl, rfl, rfl⟩
  generalize hq122 : (ev_il (a.toInt64) (-1) 1) = q122
  refine ev_if (eh_drift_s_r2 X I J R T a b q122 _ _) (fun b1 => ?_) (fun b1 => ?_)
  · replace b1 := of_decide_eq_true b1
    exact absurd (hq122.trans b1) (fun hz => ha ((ev_il_wi a (-1) 1).symm.trans hz))
  · replace b1 := of_decide_eq_false b1
    refine ev_call (eh_drift_s_r3 X I J R T a b q122 _ _) (ec_in X (ev_hp ev_I0 ev_J0 ev_R0 []) (b.toInt64) (-1) 1) ?_
    rintro _ _ _ _ ⟨rfl, rfl, rfl, rfl⟩
    generalize hq123 : (ev_il (b.toInt64) (-1) 1) = q123
    refine ev_if (eh_drift_s_r4 X I J R T a b q122 q123 _ _) (fun b2 => ?_) (fun b2 => ?_)
    · replace b2 := of_decide_eq_true b2
      exact (b2 (by rw [← hq123]; exact ((ev_il_wi b (-1) 1).trans hb))).elim
    · replace b2 := of_decide_eq_false b2
      refine ev_ret (eh_drift_s_r5 X I J R T a b q122 q123 _ _) ?_
      subst hq123
      subst hq122
      exact ⟨b1, b2, rfl, rfl, rfl, rfl⟩
set_option maxRecDepth 100000 in
set_option maxHeartbeats 100000 in
theorem eo_drift_s_r1 (xs : Nat → Int32)  (cz kz : Nat) : ∀ G : ez_F, fx_up (4, xs) 2 G 241 309 [ez_scr, .ref 0, .ref 35, .int 0] [] (ev_hp ev_I0 ev_J0 ev_R0 []) cz kz = G 241 311 [ez_scr, .ref 0, .ref 35, .int 0] [ez_scr, .ref 0] (ev_hp ev_I0 ev_J0 ev_R0 []) cz kz := by
  intro G
  rfl
set_option maxRecDepth 100000 in
set_option maxHeartbeats 100000 in
theorem eo_drift_s_r2 (xs : Nat → Int32)  (cz kz : Nat) : ∀ G : ez_F, fx_up (4, xs) 2 G 241 311 [ez_scr, .ref 0, .ref 35, .int 0] [ez_scr, .ref 0] (ev_hp ev_I0 ev_J0 ev_R0 []) cz kz = G 241 313 [ez_scr, .ref 0, .ref 35, .int 0] [.int 1, .int 0, ez_scr, .ref 0] (ev_hp ev_I0 ev_J0 ev_R0 []) cz kz := by
  intro G
  rfl
set_option maxRecDepth 100000 in
set_option maxHeartbeats 100000 in
theorem eo_drift_s_r3 (xs : Nat → Int32)  (cz kz : Nat) : ∀ G : ez_F, fx_up (4, xs) 2 G 241 313 [ez_scr, .ref 0, .ref 35, .int 0] [.int 1, .int 0, ez_scr, .ref 0] (ev_hp ev_I0 ev_J0 ev_R0 []) cz kz = G 241 315 [ez_scr, .ref 0, .ref 35, .int 0] [.int (xs 1), .ref 0] (ev_hp ev_I0 ev_J0 ev_R0 []) cz kz := by
  intro G
  rfl
set_option maxRecDepth 100000 in
set_option maxHeartbeats 100000 in
theorem eo_drift_s_r4 (xs : Nat → Int32)  (cz kz : Nat) : ∀ G : ez_F, fx_up (4, xs) 2 G 241 315 [ez_scr, .ref 0, .ref 35, .int 0] [.int (xs 1), .ref 0] (ev_hp ev_I0 ev_J0 ev_R0 []) cz kz = G 241 317 [ez_scr, .ref 0, .ref 35, .int 0] [.int 0, ez_scr, .int (xs 1), .ref 0] (ev_hp ev_I0 ev_J0 ev_R0 []) cz kz := by
  intro G
  rfl
set_option maxRecDepth 100000 in
set_option maxHeartbeats 100000 in
theorem eo_drift_s_r5 (xs : Nat → Int32)  (cz kz : Nat) : ∀ G : ez_F, fx_up (4, xs) 2 G 241 317 [ez_scr, .ref 0, .ref 35, .int 0] [.int 0, ez_scr, .int (xs 1), .ref 0] (ev_hp ev_I0 ev_J0 ev_R0 []) cz kz = G 241 319 [ez_scr, .ref 0, .ref 35, .int 0] [.int 2, ez_scr, .int (xs 1), .ref 0] (ev_hp ev_I0 ev_J0 ev_R0 []) cz kz := by
  intro G
  rfl
set_option maxRecDepth 100000 in
set_option maxHeartbeats 100000 in
theorem eo_drift_s_r6 (xs : Nat → Int32)  (cz kz : Nat) : ∀ G : ez_F, fx_up (4, xs) 2 G 241 319 [ez_scr, .ref 0, .ref 35, .int 0] [.int 2, ez_scr, .int (xs 1), .ref 0] (ev_hp ev_I0 ev_J0 ev_R0 []) cz kz = ev_C G 16 [.ref 0, .int (xs 1), .int (xs 2)] (ev_hp ev_I0 ev_J0 ev_R0 []) fun r h1 c1 k1 => G 241 323 [ez_scr, .ref 0, .ref 35, .int 0] (r.toList ++ []) h1 (cz + c1) (kz + k1) := by
  intro G
  rfl
set_option maxRecDepth 100000 in
set_option maxHeartbeats 100000 in
theorem eo_drift_s_r7 (xs : Nat → Int32)  (cz kz : Nat) : ∀ G : ez_F, fx_up (4, xs) 2 G 241 323 [ez_scr, .ref 0, .ref 35, .int 0] [.int (-3)] (ev_hp ev_I0 ev_J0 ev_R0 []) cz kz = G 241 325 [ez_scr, .ref 0, .ref 35, .int 0] [ez_scr, .ref 35, .int (-3)] (ev_hp ev_I0 ev_J0 ev_R0 []) cz kz := by
  intro G
  rfl
set_option maxRecDepth 100000 in
set_option maxHeartbeats 100000 in
theorem eo_drift_s_r8 (xs : Nat → Int32)  (cz kz : Nat) : ∀ G : ez_F, fx_up (4, xs) 2 G 241 325 [ez_scr, .ref 0, .ref 35, .int 0] [ez_scr, .ref 35, .int (-3)] (ev_hp ev_I0 ev_J0 ev_R0 []) cz kz = G 241 327 [ez_scr, .ref 0, .ref 35, .int 0] [.int 1, .int 0, ez_scr, .ref 35, .int (-3)] (ev_hp ev_I0 ev_J0 ev_R0 []) cz kz := by
  intro G
  rfl
set_option maxRecDepth 100000 in
set_option maxHeartbeats 100000 in
theorem eo_drift_s_r9 (xs : Nat → Int32)  (cz kz : Nat) : ∀ G : ez_F, fx_up (4, xs) 2 G 241 327 [ez_scr, .ref 0, .ref 35, .int 0] [.int 1, .int 0, ez_scr, .ref 35, .int (-3)] (ev_hp ev_I0 ev_J0 ev_R0 []) cz kz = G 241 329 [ez_scr, .ref 0, .ref 35, .int 0] [.int (xs 1), .ref 35, .int (-3)] (ev_hp ev_I0 ev_J0 ev_R0 []) cz kz := by
  intro G
  rfl
set_option maxRecDepth 100000 in
set_option maxHeartbeats 100000 in
theorem eo_drift_s_r10 (xs : Nat → Int32)  (cz kz : Nat) : ∀ G : ez_F, fx_up (4, xs) 2 G 241 329 [ez_scr, .ref 0, .ref 35, .int 0] [.int (xs 1), .ref 35, .int (-3)] (ev_hp ev_I0 ev_J0 ev_R0 []) cz kz = G 241 331 [ez_scr, .ref 0, .ref 35, .int 0] [.int 0, ez_scr, .int (xs 1), .ref 35, .int (-3)] (ev_hp ev_I0 ev_J0 ev_R0 []) cz kz := by
  intro G
  rfl
set_option maxRecDepth 100000 in
set_option maxHeartbeats 100000 in
theorem eo_drift_s_r11 (xs : Nat → Int32)  (cz kz : Nat) : ∀ G : ez_F, fx_up (4, xs) 2 G 241 331 [ez_scr, .ref 0, .ref 35, .int 0] [.int 0, ez_scr, .int (xs 1), .ref 35, .int (-3)] (ev_hp ev_I0 ev_J0 ev_R0 []) cz kz = G 241 333 [ez_scr, .ref 0, .ref 35, .int 0] [.int 2, ez_scr, .int (xs 1), .ref 35, .int (-3)] (ev_hp ev_I0 ev_J0 ev_R0 []) cz kz := by
  intro G
  rfl
set_option maxRecDepth 100000 in
set_option maxHeartbeats 100000 in
theorem eo_drift_s_r12 (xs : Nat → Int32)  (cz kz : Nat) : ∀ G : ez_F, fx_up (4, xs) 2 G 241 333 [ez_scr, .ref 0, .ref 35, .int 0] [.int 2, ez_scr, .int (xs 1), .ref 35, .int (-3)] (ev_hp ev_I0 ev_J0 ev_R0 []) cz kz = ev_C G 185 [.ref 35, .int (xs 1), .int (xs 2)] (ev_hp ev_I0 ev_J0 ev_R0 []) fun r h1 c1 k1 => G 241 337 [ez_scr, .ref 0, .ref 35, .int 0] (r.toList ++ [.int (-3)]) h1 (cz + c1) (kz + k1) := by
  intro G
  rfl
set_option maxRecDepth 100000 in
set_option maxHeartbeats 100000 in
theorem eo_drift_s_r13 (xs : Nat → Int32)  (cz kz : Nat) : ∀ G : ez_F, fx_up (4, xs) 2 G 241 337 [ez_scr, .ref 0, .ref 35, .int 0] [.int (-3), .int (-3)] (ev_hp ev_I0 ev_J0 ev_R0 []) cz kz = G 241 1078 [ez_scr, .ref 0, .ref 35, .int 4] [] (ev_hp ev_I0 ev_J0 ev_R0 []) cz kz := by
  intro G
  rfl
set_option maxRecDepth 100000 in
set_option maxHeartbeats 100000 in
theorem eo_drift_s_r14 (xs : Nat → Int32)  (cz kz : Nat) : ∀ G : ez_F, fx_up (4, xs) 2 G 241 1078 [ez_scr, .ref 0, .ref 35, .int 4] [] (ev_hp ev_I0 ev_J0 ev_R0 []) cz kz = G 241 19 [ez_scr, .ref 0, .ref 35, .int 4] [.int 4] (ev_hp ev_I0 ev_J0 ev_R0 []) cz kz := by
  intro G
  rfl
set_option maxRecDepth 100000 in
set_option maxHeartbeats 100000 in
theorem eo_drift_s_r15 (xs : Nat → Int32)  (cz kz : Nat) : ∀ G : ez_F, fx_up (4, xs) 2 G 241 19 [ez_scr, .ref 0, .ref 35, .int 4] [.int 4] (ev_hp ev_I0 ev_J0 ev_R0 []) cz kz = G 241 21 [ez_scr, .ref 0, .ref 35, .int 4] [.int 4, .int 4] (ev_hp ev_I0 ev_J0 ev_R0 []) cz kz := by
  intro G
  rfl
set_option maxRecDepth 100000 in
set_option maxHeartbeats 100000 in
theorem eo_drift_s_r16 (xs : Nat → Int32)  (cz kz : Nat) : ∀ G : ez_F, fx_up (4, xs) 2 G 241 21 [ez_scr, .ref 0, .ref 35, .int 4] [.int 4, .int 4] (ev_hp ev_I0 ev_J0 ev_R0 []) cz kz = G 241 23 [ez_scr, .ref 0, .ref 35, .int 4] [.int 0, .int 4] (ev_hp ev_I0 ev_J0 ev_R0 []) cz kz := by
  intro G
  rfl
set_option maxRecDepth 100000 in
set_option maxHeartbeats 100000 in
theorem eo_drift_s_r17 (xs : Nat → Int32)  (cz kz : Nat) : ∀ G : ez_F, fx_up (4, xs) 2 G 241 23 [ez_scr, .ref 0, .ref 35, .int 4] [.int 0, .int 4] (ev_hp ev_I0 ev_J0 ev_R0 []) cz kz = G 241 1082 [ez_scr, .ref 0, .ref 35, .int 4] [.int 1] (ev_hp ev_I0 ev_J0 ev_R0 []) cz kz := by
  intro G
  rfl
set_option maxRecDepth 100000 in
set_option maxHeartbeats 100000 in
theorem eo_drift_s_r18 (xs : Nat → Int32)  (cz kz : Nat) : ∀ G : ez_F, fx_up (4, xs) 1 G 241 1082 [ez_scr, .ref 0, .ref 35, .int 4] [.int 1] (ev_hp ev_I0 ev_J0 ev_R0 []) cz kz = some (some (.int 1), (ev_hp ev_I0 ev_J0 ev_R0 []), cz, kz) := by
  intro G
  rfl
theorem eo_drift_s (xs : Nat → Int32) (ha : ¬ ev_wi (xs 1) (-1) 1 = 0) (hb : ev_wi (xs 2) (-1) 1 = 0) : ev_P1 (4, xs) 309 := by
  refine ev_seg (eo_drift_s_r1 xs  _ _) ?_
  refine ev_seg (eo_drift_s_r2 xs  _ _) ?_
  refine ev_seg (eo_drift_s_r3 xs  _ _) ?_
  refine ev_seg (eo_drift_s_r4 xs  _ _) ?_
  refine ev_seg (eo_drift_s_r5 xs  _ _) ?_
  refine ev_call (eo_drift_s_r6 xs  _ _) (ef_drift_s (4, xs) ev_I0 ev_J0 ev_R0 [] (xs 1) (xs 2) ha hb) ?_
  rintro r0 _ _ _ (⟨d79, d80, rfl, rfl, rfl, rfl⟩)
  refine ev_seg (eo_drift_s_r7 xs  _ _) ?_
  refine ev_seg (eo_drift_s_r8 xs  _ _) ?_
  refine ev_seg (eo_drift_s_r9 xs  _ _) ?_
  refine ev_seg (eo_drift_s_r10 xs  _ _) ?_
  refine ev_seg (eo_drift_s_r11 xs  _ _) ?_
  refine ev_call (eo_drift_s_r12 xs  _ _) (eh_drift_s (4, xs) ev_I0 ev_J0 ev_R0 [] (xs 1) (xs 2) ha hb) ?_
  rintro r0 _ _ _ (⟨d81, d82, rfl, rfl, rfl, rfl⟩)
  refine ev_seg (eo_drift_s_r13 xs  _ _) ?_
  refine ev_seg (eo_drift_s_r14 xs  _ _) ?_
  refine ev_seg (eo_drift_s_r15 xs  _ _) ?_
  refine ev_seg (eo_drift_s_r16 xs  _ _) ?_
  refine ev_seg (eo_drift_s_r17 xs  _ _) ?_
  refine ev_ret (eo_drift_s_r18 xs  _ _) ?_
  exact ⟨rfl, by omega, by omega⟩
set_option maxRecDepth 100000 in
set_option maxHeartbeats 100000 in
theorem ef_rim_r_r1 (X : ez_X) (I : Nat → Nat → Int32) (J : Nat → Nat → Int64) (R : Nat → Nat) (T : List ez_C) (a : Int32) (b : Int32) (cz kz : Nat) : ∀ G : ez_F, fx_up X 3 G 40 0 [.ref 0, .int a, .int b] [] (ev_hp ev_I0 ev_J0 ev_R0 []) cz kz = ev_C G 24 [.ref 0, .int b] (ev_hp ev_I0 ev_J0 ev_R0 []) fun r h1 c1 k1 => G 40 5 [.ref 0, .int a, .int b] (r.toList ++ []) h1 (cz + c1) (kz + k1) := by
  intro G
  rfl
set_option maxRecDepth 100000 in
set_option maxHeartbeats 100000 in
theorem ef_rim_r_r2 (X : ez_X) (I : Nat → Nat → Int32) (J : Nat → Nat → Int64) (R : Nat → Nat) (T : List ez_C) (a : Int32) (b : Int32) (q124 : Int32) (cz kz : Nat) : ∀ G : ez_F, fx_up X 1 G 40 5 [.ref 0, .int a, .int b] [.int q124] (ev_hp ev_I0 ev_J0 ev_R0 []) cz kz = bif decide (¬ q124 = 0) then G 40 11 [.ref 0, .int a, .int b] [] (ev_hp ev_I0 ev_J0 ev_R0 []) cz kz else G 40 8 [.ref 0, .int a, .int b] [] (ev_hp ev_I0 ev_J0 ev_R0 []) cz kz := by
  intro G
  rfl
set_option maxRecDepth 100000 in
set_option maxHeartbeats 100000 in
theorem ef_rim_r_r3 (X : ez_X) (I : Nat → Nat → Int32) (J : Nat → Nat → Int64) (R : Nat → Nat) (T : List ez_C) (a : Int32) (b : Int32) (q124 : Int32) (cz kz : Nat) : ∀ G : ez_F, fx_up X 2 G 40 8 [.ref 0, .int a, .int b] [] (ev_hp ev_I0 ev_J0 ev_R0 []) cz kz = some (some (.int (-2)), (ev_hp ev_I0 ev_J0 ev_R0 []), cz, kz) := by
  intro G
  rfl
theorem ef_rim_r (X : ez_X) (I : Nat → Nat → Int32) (J : Nat → Nat → Int64) (R : Nat → Nat) (T : List ez_C) (a : Int32) (b : Int32) (hb : ev_wi b 0 9 = 0) : ev_W X 40 0 (ez_lay [.ref 0, .int a, .int b]) [] (ev_hp ev_I0 ev_J0 ev_R0 []) 0 0 (fun r h1 c1 k1 => ((¬ (¬ (((ev_wi b 0 ((((5 : Int32) + (5 : Int32))) - (1 : Int32))))) = 0)) ∧ r = some (.int (-2)) ∧ h1 = (ev_hp ev_I0 ev_J0 ev_R0 []) ∧ c1 = 0 ∧ k1 = 0)) := by
  refine ev_call (ef_rim_r_r1 X I J R T a b _ _) (eg_isRim X ev_I0 ev_J0 ev_R0 [] b) ?_
  rintro r0 _ _ _ (⟨hr0, rfl, rfl, rfl⟩)
  obtain ⟨q124, hq124⟩ : ∃ z : Int32, ((ev_wi b 0 ((((5 : Int32) + (5 : Int32))) - (1 : Int32)))) = z := ⟨_, rfl⟩
  have eq124 : r0 = some (.int q124) := hr0.trans (by subst hq124; rfl)
  subst eq124
  refine ev_if (ef_rim_r_r2 X I J R T a b q124 _ _) (fun b1 => ?_) (fun b1 => ?_)
  · replace b1 := of_decide_eq_true b1
    exact (b1 (by rw [← hq124]; exact hb)).elim
  · replace b1 := of_decide_eq_false b1
    refine ev_ret (ef_rim_r_r3 X I J R T a b q124 _ _) ?_
    subst hq124
    exact ⟨b1, rfl, rfl, rfl, rfl⟩
set_option maxRecDepth 100000 in
set_option maxHeartbeats 100000 in
theorem eh_rim_r_r1 (X : ez_X) (I : Nat → Nat → Int32) (J : Nat → Nat → Int64) (R : Nat → Nat) (T : List ez_C) (a : Int32) (b : Int32) (cz kz : Nat) : ∀ G : ez_F, fx_up X 3 G 217 0 [.ref 35, .int a, .int b] [] (ev_hp ev_I0 ev_J0 ev_R0 []) cz kz = ev_C G 203 [.ref 35, .int b] (ev_hp ev_I0 ev_J0 ev_R0 []) fun r h1 c1 k1 => G 217 5 [.ref 35, .int a, .int b] (r.toList ++ []) h1 (cz + c1) (kz + k1) := by
  intro G
  rfl
set_option maxRecDepth 100000 in
set_option maxHeartbeats 100000 in
theorem eh_rim_r_r2 (X : ez_X) (I : Nat → Nat → Int32) (J : Nat → Nat → Int64) (R : Nat → Nat) (T : List ez_C) (a : Int32) (b : Int32) (q125 : Int32) (cz kz : Nat) : ∀ G : ez_F, fx_up X 1 G 217 5 [.ref 35, .int a, .int b] [.int q125] (ev_hp ev_I0 ev_J0 ev_R0 []) cz kz = bif decide (¬ q125 = 0) then G 217 11 [.ref 35, .int a, .int b] [] (ev_hp ev_I0 ev_J0 ev_R0 []) cz kz else G 217 8 [.ref 35, .int a, .int b] [] (ev_hp ev_I0 ev_J0 ev_R0 []) cz kz := by
  intro G
  rfl
set_option maxRecDepth 100000 in
set_option maxHeartbeats 100000 in
theorem eh_rim_r_r3 (X : ez_X) (I : Nat → Nat → Int32) (J : Nat → Nat → Int64) (R : Nat → Nat) (T : List ez_C) (a : Int32) (b : Int32) (q125 : Int32) (cz kz : Nat) : ∀ G : ez_F, fx_up X 2 G 217 8 [.ref 35, .int a, .int b] [] (ev_hp ev_I0 ev_J0 ev_R0 []) cz kz = some (some (.int (-2)), (ev_hp ev_I0 ev_J0 ev_R0 []), cz, kz) := by
  intro G
  rfl
theorem eh_rim_r (X : ez_X) (I : Nat → Nat → Int32) (J : Nat → Nat → Int64) (R : Nat → Nat) (T : List ez_C) (a : Int32) (b : Int32) (hb : ev_wi b 0 9 = 0) : ev_W X 217 0 (ez_lay [.ref 35, .int a, .int b]) [] (ev_hp ev_I0 ev_J0 ev_R0 []) 0 0 (fun r h1 c1 k1 => ((¬ (¬ (((ev_il (b.toInt64) 0 ((((5 : Int32) + (5 : Int32)) - (1 : Int32)).toInt64)))) = 0)) ∧ r = some (.int (-2)) ∧ h1 = (ev_hp ev_I0 ev_J0 ev_R0 []) ∧ c1 = 0 ∧ k1 = 0)) := by
  refine ev_call (eh_rim_r_r1 X I J R T a b _ _) (em_isRim X ev_I0 ev_J0 ev_R0 [] b) ?_
  rintro r0 _ _ _ (⟨hr0, rfl, rfl, rfl⟩)
  obtain ⟨q125, hq125⟩ : ∃ z : Int32, ((ev_il (b.toInt64) 0 ((((5 : Int32) + (5 : Int32)) - (1 : Int32)).toInt64))) = z := ⟨_, rfl⟩
  have eq125 : r0 = some (.int q125) := hr0.trans (by subst hq125; rfl)
  subst eq125
  refine ev_if (eh_rim_r_r2 X I J R T a b q125 _ _) (fun b1 => ?_) (fun b1 => ?_)
  · replace b1 := of_decide_eq_true b1
    exact (b1 (by rw [← hq125]; exact ((ev_il_wi b 0 9).trans hb))).elim
  · replace b1 := of_decide_eq_false b1
    refine ev_ret (eh_rim_r_r3 X I J R T a b q125 _ _) ?_
    subst hq125
    exact ⟨b1, rfl, rfl, rfl, rfl⟩
set_option maxRecDepth 100000 in
set_option maxHeartbeats 100000 in
theorem eo_rim_r_r1 (xs : Nat → Int32)  (cz kz : Nat) : ∀ G : ez_F, fx_up (4, xs) 2 G 241 983 [ez_scr, .ref 0, .ref 35, .int 0] [] (ev_hp ev_I0 ev_J0 ev_R0 []) cz kz = G 241 985 [ez_scr, .ref 0, .ref 35, .int 0] [ez_scr, .ref 0] (ev_hp ev_I0 ev_J0 ev_R0 []) cz kz := by
  intro G
  rfl
set_option maxRecDepth 100000 in
set_option maxHeartbeats 100000 in
theorem eo_rim_r_r2 (xs : Nat → Int32)  (cz kz : Nat) : ∀ G : ez_F, fx_up (4, xs) 2 G 241 985 [ez_scr, .ref 0, .ref 35, .int 0] [ez_scr, .ref 0] (ev_hp ev_I0 ev_J0 ev_R0 []) cz kz = G 241 987 [ez_scr, .ref 0, .ref 35, .int 0] [.int 1, .int 0, ez_scr, .ref 0] (ev_hp ev_I0 ev_J0 ev_R0 []) cz kz := by
  intro G
  rfl
set_option maxRecDepth 100000 in
set_option maxHeartbeats 100000 in
theorem eo_rim_r_r3 (xs : Nat → Int32)  (cz kz : Nat) : ∀ G : ez_F, fx_up (4, xs) 2 G 241 987 [ez_scr, .ref 0, .ref 35, .int 0] [.int 1, .int 0, ez_scr, .ref 0] (ev_hp ev_I0 ev_J0 ev_R0 []) cz kz = G 241 989 [ez_scr, .ref 0, .ref 35, .int 0] [.int (xs 1), .ref 0] (ev_hp ev_I0 ev_J0 ev_R0 []) cz kz := by
  intro G
  rfl
set_option maxRecDepth 100000 in
set_option maxHeartbeats 100000 in
theorem eo_rim_r_r4 (xs : Nat → Int32)  (cz kz : Nat) : ∀ G : ez_F, fx_up (4, xs) 2 G 241 989 [ez_scr, .ref 0, .ref 35, .int 0] [.int (xs 1), .ref 0] (ev_hp ev_I0 ev_J0 ev_R0 []) cz kz = G 241 991 [ez_scr, .ref 0, .ref 35, .int 0] [.int 0, ez_scr, .int (xs 1), .ref 0] (ev_hp ev_I0 ev_J0 ev_R0 []) cz kz := by
  intro G
  rfl
set_option maxRecDepth 100000 in
set_option maxHeartbeats 100000 in
theorem eo_rim_r_r5 (xs : Nat → Int32)  (cz kz : Nat) : ∀ G : ez_F, fx_up (4, xs) 2 G 241 991 [ez_scr, .ref 0, .ref 35, .int 0] [.int 0, ez_scr, .int (xs 1), .ref 0] (ev_hp ev_I0 ev_J0 ev_R0 []) cz kz = G 241 993 [ez_scr, .ref 0, .ref 35, .int 0] [.int 2, ez_scr, .int (xs 1), .ref 0] (ev_hp ev_I0 ev_J0 ev_R0 []) cz kz := by
  intro G
  rfl
set_option maxRecDepth 100000 in
set_option maxHeartbeats 100000 in
theorem eo_rim_r_r6 (xs : Nat → Int32)  (cz kz : Nat) : ∀ G : ez_F, fx_up (4, xs) 2 G 241 993 [ez_scr, .ref 0, .ref 35, .int 0] [.int 2, ez_scr, .int (xs 1), .ref 0] (ev_hp ev_I0 ev_J0 ev_R0 []) cz kz = ev_C G 40 [.ref 0, .int (xs 1), .int (xs 2)] (ev_hp ev_I0 ev_J0 ev_R0 []) fun r h1 c1 k1 => G 241 997 [ez_scr, .ref 0, .ref 35, .int 0] (r.toList ++ []) h1 (cz + c1) (kz + k1) := by
  intro G
  rfl
set_option maxRecDepth 100000 in
set_option maxHeartbeats 100000 in
theorem eo_rim_r_r7 (xs : Nat → Int32)  (cz kz : Nat) : ∀ G : ez_F, fx_up (4, xs) 2 G 241 997 [ez_scr, .ref 0, .ref 35, .int 0] [.int (-2)] (ev_hp ev_I0 ev_J0 ev_R0 []) cz kz = G 241 999 [ez_scr, .ref 0, .ref 35, .int 0] [ez_scr, .ref 35, .int (-2)] (ev_hp ev_I0 ev_J0 ev_R0 []) cz kz := by
  intro G
  rfl
set_option maxRecDepth 100000 in
set_option maxHeartbeats 100000 in
theorem eo_rim_r_r8 (xs : Nat → Int32)  (cz kz : Nat) : ∀ G : ez_F, fx_up (4, xs) 2 G 241 999 [ez_scr, .ref 0, .ref 35, .int 0] [ez_scr, .ref 35, .int (-2)] (ev_hp ev_I0 ev_J0 ev_R0 []) cz kz = G 241 1001 [ez_scr, .ref 0, .ref 35, .int 0] [.int 1, .int 0, ez_scr, .ref 35, .int (-2)] (ev_hp ev_I0 ev_J0 ev_R0 []) cz kz := by
  intro G
  rfl
set_option maxRecDepth 100000 in
set_option maxHeartbeats 100000 in
theorem eo_rim_r_r9 (xs : Nat → Int32)  (cz kz : Nat) : ∀ G : ez_F, fx_up (4, xs) 2 G 241 1001 [ez_scr, .ref 0, .ref 35, .int 0] [.int 1, .int 0, ez_scr, .ref 35, .int (-2)] (ev_hp ev_I0 ev_J0 ev_R0 []) cz kz = G 241 1003 [ez_scr, .ref 0, .ref 35, .int 0] [.int (xs 1), .ref 35, .int (-2)] (ev_hp ev_I0 ev_J0 ev_R0 []) cz kz := by
  intro G
  rfl
set_option maxRecDepth 100000 in
set_option maxHeartbeats 100000 in
theorem eo_rim_r_r10 (xs : Nat → Int32)  (cz kz : Nat) : ∀ G : ez_F, fx_up (4, xs) 2 G 241 1003 [ez_scr, .ref 0, .ref 35, .int 0] [.int (xs 1), .ref 35, .int (-2)] (ev_hp ev_I0 ev_J0 ev_R0 []) cz kz = G 241 1005 [ez_scr, .ref 0, .ref 35, .int 0] [.int 0, ez_scr, .int (xs 1), .ref 35, .int (-2)] (ev_hp ev_I0 ev_J0 ev_R0 []) cz kz := by
  intro G
  rfl
set_option maxRecDepth 100000 in
set_option maxHeartbeats 100000 in
theorem eo_rim_r_r11 (xs : Nat → Int32)  (cz kz : Nat) : ∀ G : ez_F, fx_up (4, xs) 2 G 241 1005 [ez_scr, .ref 0, .ref 35, .int 0] [.int 0, ez_scr, .int (xs 1), .ref 35, .int (-2)] (ev_hp ev_I0 ev_J0 ev_R0 []) cz kz = G 241 1007 [ez_scr, .ref 0, .ref 35, .int 0] [.int 2, ez_scr, .int (xs 1), .ref 35, .int (-2)] (ev_hp ev_I0 ev_J0 ev_R0 []) cz kz := by
  intro G
  rfl
set_option maxRecDepth 100000 in
set_option maxHeartbeats 100000 in
theorem eo_rim_r_r12 (xs : Nat → Int32)  (cz kz : Nat) : ∀ G : ez_F, fx_up (4, xs) 2 G 241 1007 [ez_scr, .ref 0, .ref 35, .int 0] [.int 2, ez_scr, .int (xs 1), .ref 35, .int (-2)] (ev_hp ev_I0 ev_J0 ev_R0 []) cz kz = ev_C G 217 [.ref 35, .int (xs 1), .int (xs 2)] (ev_hp ev_I0 ev_J0 ev_R0 []) fun r h1 c1 k1 => G 241 1011 [ez_scr, .ref 0, .ref 35, .int 0] (r.toList ++ [.int (-2)]) h1 (cz + c1) (kz + k1) := by
  intro G
  rfl
set_option maxRecDepth 100000 in
set_option maxHeartbeats 100000 in
theorem eo_rim_r_r13 (xs : Nat → Int32)  (cz kz : Nat) : ∀ G : ez_F, fx_up (4, xs) 2 G 241 1011 [ez_scr, .ref 0, .ref 35, .int 0] [.int (-2), .int (-2)] (ev_hp ev_I0 ev_J0 ev_R0 []) cz kz = G 241 1078 [ez_scr, .ref 0, .ref 35, .int 4] [] (ev_hp ev_I0 ev_J0 ev_R0 []) cz kz := by
  intro G
  rfl
set_option maxRecDepth 100000 in
set_option maxHeartbeats 100000 in
theorem eo_rim_r_r14 (xs : Nat → Int32)  (cz kz : Nat) : ∀ G : ez_F, fx_up (4, xs) 2 G 241 1078 [ez_scr, .ref 0, .ref 35, .int 4] [] (ev_hp ev_I0 ev_J0 ev_R0 []) cz kz = G 241 19 [ez_scr, .ref 0, .ref 35, .int 4] [.int 4] (ev_hp ev_I0 ev_J0 ev_R0 []) cz kz := by
  intro G
  rfl
set_option maxRecDepth 100000 in
set_option maxHeartbeats 100000 in
theorem eo_rim_r_r15 (xs : Nat → Int32)  (cz kz : Nat) : ∀ G : ez_F, fx_up (4, xs) 2 G 241 19 [ez_scr, .ref 0, .ref 35, .int 4] [.int 4] (ev_hp ev_I0 ev_J0 ev_R0 []) cz kz = G 241 21 [ez_scr, .ref 0, .ref 35, .int 4] [.int 4, .int 4] (ev_hp ev_I0 ev_J0 ev_R0 []) cz kz := by
  intro G
  rfl
set_option maxRecDepth 100000 in
set_option maxHeartbeats 100000 in
theorem eo_rim_r_r16 (xs : Nat → Int32)  (cz kz : Nat) : ∀ G : ez_F, fx_up (4, xs) 2 G 241 21 [ez_scr, .ref 0, .ref 35, .int 4] [.int 4, .int 4] (ev_hp ev_I0 ev_J0 ev_R0 []) cz kz = G 241 23 [ez_scr, .ref 0, .ref 35, .int 4] [.int 0, .int 4] (ev_hp ev_I0 ev_J0 ev_R0 []) cz kz := by
  intro G
  rfl
set_option maxRecDepth 100000 in
set_option maxHeartbeats 100000 in
theorem eo_rim_r_r17 (xs : Nat → Int32)  (cz kz : Nat) : ∀ G : ez_F, fx_up (4, xs) 2 G 241 23 [ez_scr, .ref 0, .ref 35, .int 4] [.int 0, .int 4] (ev_hp ev_I0 ev_J0 ev_R0 []) cz kz = G 241 1082 [ez_scr, .ref 0, .ref 35, .int 4] [.int 1] (ev_hp ev_I0 ev_J0 ev_R0 []) cz kz := by
  intro G
  rfl
set_option maxRecDepth 100000 in
set_option maxHeartbeats 100000 in
theorem eo_rim_r_r18 (xs : Nat → Int32)  (cz kz : Nat) : ∀ G : ez_F, fx_up (4, xs) 1 G 241 1082 [ez_scr, .ref 0, .ref 35, .int 4] [.int 1] (ev_hp ev_I0 ev_J0 ev_R0 []) cz kz = some (some (.int 1), (ev_hp ev_I0 ev_J0 ev_R0 []), cz, kz) := by
  intro G
  rfl
theorem eo_rim_r (xs : Nat → Int32) (hb : ev_wi (xs 2) 0 9 = 0) : ev_P1 (4, xs) 983 := by
  refine ev_seg (eo_rim_r_r1 xs  _ _) ?_
  refine ev_seg (eo_rim_r_r2 xs  _ _) ?_
  refine ev_seg (eo_rim_r_r3 xs  _ _) ?_
  refine ev_seg (eo_rim_r_r4 xs  _ _) ?_
  refine ev_seg (eo_rim_r_r5 xs  _ _) ?_
  refine ev_call (eo_rim_r_r6 xs  _ _) (ef_rim_r (4, xs) ev_I0 ev_J0 ev_R0 [] (xs 1) (xs 2) hb) ?_
  rintro r0 _ _ _ (⟨d83, rfl, rfl, rfl, rfl⟩)
  refine ev_seg (eo_rim_r_r7 xs  _ _) ?_
  refine ev_seg (eo_rim_r_r8 xs  _ _) ?_
  refine ev_seg (eo_rim_r_r9 xs  _ _) ?_
  refine ev_seg (eo_rim_r_r10 xs  _ _) ?_
  refine ev_seg (eo_rim_r_r11 xs  _ _) ?_
  refine ev_call (eo_rim_r_r12 xs  _ _) (eh_rim_r (4, xs) ev_I0 ev_J0 ev_R0 [] (xs 1) (xs 2) hb) ?_
  rintro r0 _ _ _ (⟨d84, rfl, rfl, rfl, rfl⟩)
  refine ev_seg (eo_rim_r_r13 xs  _ _) ?_
  refine ev_seg (eo_rim_r_r14 xs  _ _) ?_
  refine ev_seg (eo_rim_r_r15 xs  _ _) ?_
  refine ev_seg (eo_rim_r_r16 xs  _ _) ?_
  refine ev_seg (eo_rim_r_r17 xs  _ _) ?_
  refine ev_ret (eo_rim_r_r18 xs  _ _) ?_
  exact ⟨rfl, by omega, by omega⟩
set_option maxRecDepth 100000 in
set_option maxHeartbeats 100000 in
theorem ef_which_r_r1 (X : ez_X) (I : Nat → Nat → Int32) (J : Nat → Nat → Int64) (R : Nat → Nat) (T : List ez_C) (a : Int32) (cz kz : Nat) : ∀ G : ez_F, fx_up X 2 G 54 0 [.ref 0, .int a] [] (ev_hp ev_I0 ev_J0 ev_R0 []) cz kz = bif decide (0 ≤ a) then G 54 7 [.ref 0, .int a] [] (ev_hp ev_I0 ev_J0 ev_R0 []) cz kz else G 54 4 [.ref 0, .int a] [] (ev_hp ev_I0 ev_J0 ev_R0 []) cz kz := by
  intro G
  rfl
set_option maxRecDepth 100000 in
set_option maxHeartbeats 100000 in
theorem ef_which_r_r2 (X : ez_X) (I : Nat → Nat → Int32) (J : Nat → Nat → Int64) (R : Nat → Nat) (T : List ez_C) (a : Int32) (cz kz : Nat) : ∀ G : ez_F, fx_up X 2 G 54 4 [.ref 0, .int a] [] (ev_hp ev_I0 ev_J0 ev_R0 []) cz kz = some (some (.int (-3)), (ev_hp ev_I0 ev_J0 ev_R0 []), cz, kz) := by
  intro G
  rfl
theorem ef_which_r (X : ez_X) (I : Nat → Nat → Int32) (J : Nat → Nat → Int64) (R : Nat → Nat) (T : List ez_C) (a : Int32) (ha : a < 0) : ev_W X 54 0 (ez_lay [.ref 0, .int a]) [] (ev_hp ev_I0 ev_J0 ev_R0 []) 0 0 (fun r h1 c1 k1 => ((¬ (0 ≤ a)) ∧ r = some (.int (-3)) ∧ h1 = (ev_hp ev_I0 ev_J0 ev_R0 []) ∧ c1 = 0 ∧ k1 = 0)) := by
  refine ev_if (ef_which_r_r1 X I J R T a _ _) (fun b1 => ?_) (fun b1 => ?_)
  · replace b1 := of_decide_eq_true b1
    exact absurd ha (Int32.not_lt.mpr b1)
  · replace b1 := of_decide_eq_false b1
    refine ev_ret (ef_which_r_r2 X I J R T a _ _) ?_
    exact ⟨b1, rfl, rfl, rfl, rfl⟩
set_option maxRecDepth 100000 in
set_option maxHeartbeats 100000 in
theorem eh_which_r_r1 (X : ez_X) (I : Nat → Nat → Int32) (J : Nat → Nat → Int64) (R : Nat → Nat) (T : List ez_C) (a : Int32) (cz kz : Nat) : ∀ G : ez_F, fx_up X 2 G 232 0 [.ref 35, .int a] [] (ev_hp ev_I0 ev_J0 ev_R0 []) cz kz = bif decide (0 ≤ a) then G 232 7 [.ref 35, .int a] [] (ev_hp ev_I0 ev_J0 ev_R0 []) cz kz else G 232 4 [.ref 35, .int a] [] (ev_hp ev_I0 ev_J0 ev_R0 []) cz kz := by
  intro G
  rfl
set_option maxRecDepth 100000 in
set_option maxHeartbeats 100000 in
theorem eh_which_r_r2 (X : ez_X) (I : Nat → Nat → Int32) (J : Nat → Nat → Int64) (R : Nat → Nat) (T : List ez_C) (a : Int32) (cz kz : Nat) : ∀ G : ez_F, fx_up X 2 G 232 4 [.ref 35, .int a] [] (ev_hp ev_I0 ev_J0 ev_R0 []) cz kz = some (some (.int (-3)), (ev_hp ev_I0 ev_J0 ev_R0 []), cz, kz) := by
  intro G
  rfl
theorem eh_which_r (X : ez_X) (I : Nat → Nat → Int32) (J : Nat → Nat → Int64) (R : Nat → Nat) (T : List ez_C) (a : Int32) (ha : a < 0) : ev_W X 232 0 (ez_lay [.ref 35, .int a]) [] (ev_hp ev_I0 ev_J0 ev_R0 []) 0 0 (fun r h1 c1 k1 => ((¬ (0 ≤ a)) ∧ r = some (.int (-3)) ∧ h1 = (ev_hp ev_I0 ev_J0 ev_R0 []) ∧ c1 = 0 ∧ k1 = 0)) := by
  refine ev_if (eh_which_r_r1 X I J R T a _ _) (fun b1 => ?_) (fun b1 => ?_)
  · replace b1 := of_decide_eq_true b1
    exact absurd ha (Int32.not_lt.mpr b1)
  · replace b1 := of_decide_eq_false b1
    refine ev_ret (eh_which_r_r2 X I J R T a _ _) ?_
    exact ⟨b1, rfl, rfl, rfl, rfl⟩
set_option maxRecDepth 100000 in
set_option maxHeartbeats 100000 in
theorem eo_which_r_r1 (xs : Nat → Int32)  (cz kz : Nat) : ∀ G : ez_F, fx_up (4, xs) 2 G 241 660 [ez_scr, .ref 0, .ref 35, .int 0] [] (ev_hp ev_I0 ev_J0 ev_R0 []) cz kz = G 241 662 [ez_scr, .ref 0, .ref 35, .int 0] [ez_scr, .ref 0] (ev_hp ev_I0 ev_J0 ev_R0 []) cz kz := by
  intro G
  rfl
set_option maxRecDepth 100000 in
set_option maxHeartbeats 100000 in
theorem eo_which_r_r2 (xs : Nat → Int32)  (cz kz : Nat) : ∀ G : ez_F, fx_up (4, xs) 2 G 241 662 [ez_scr, .ref 0, .ref 35, .int 0] [ez_scr, .ref 0] (ev_hp ev_I0 ev_J0 ev_R0 []) cz kz = G 241 664 [ez_scr, .ref 0, .ref 35, .int 0] [.int 1, .int 0, ez_scr, .ref 0] (ev_hp ev_I0 ev_J0 ev_R0 []) cz kz := by
  intro G
  rfl
set_option maxRecDepth 100000 in
set_option maxHeartbeats 100000 in
theorem eo_which_r_r3 (xs : Nat → Int32)  (cz kz : Nat) : ∀ G : ez_F, fx_up (4, xs) 2 G 241 664 [ez_scr, .ref 0, .ref 35, .int 0] [.int 1, .int 0, ez_scr, .ref 0] (ev_hp ev_I0 ev_J0 ev_R0 []) cz kz = G 241 666 [ez_scr, .ref 0, .ref 35, .int 0] [.int (xs 1), .ref 0] (ev_hp ev_I0 ev_J0 ev_R0 []) cz kz := by
  intro G
  rfl
set_option maxRecDepth 100000 in
set_option maxHeartbeats 100000 in
theorem eo_which_r_r4 (xs : Nat → Int32)  (cz kz : Nat) : ∀ G : ez_F, fx_up (4, xs) 1 G 241 666 [ez_scr, .ref 0, .ref 35, .int 0] [.int (xs 1), .ref 0] (ev_hp ev_I0 ev_J0 ev_R0 []) cz kz = ev_C G 54 [.ref 0, .int (xs 1)] (ev_hp ev_I0 ev_J0 ev_R0 []) fun r h1 c1 k1 => G 241 669 [ez_scr, .ref 0, .ref 35, .int 0] (r.toList ++ []) h1 (cz + c1) (kz + k1) := by
  intro G
  rfl
set_option maxRecDepth 100000 in
set_option maxHeartbeats 100000 in
theorem eo_which_r_r5 (xs : Nat → Int32)  (cz kz : Nat) : ∀ G : ez_F, fx_up (4, xs) 2 G 241 669 [ez_scr, .ref 0, .ref 35, .int 0] [.int (-3)] (ev_hp ev_I0 ev_J0 ev_R0 []) cz kz = G 241 671 [ez_scr, .ref 0, .ref 35, .int 0] [ez_scr, .ref 35, .int (-3)] (ev_hp ev_I0 ev_J0 ev_R0 []) cz kz := by
  intro G
  rfl
set_option maxRecDepth 100000 in
set_option maxHeartbeats 100000 in
theorem eo_which_r_r6 (xs : Nat → Int32)  (cz kz : Nat) : ∀ G : ez_F, fx_up (4, xs) 2 G 241 671 [ez_scr, .ref 0, .ref 35, .int 0] [ez_scr, .ref 35, .int (-3)] (ev_hp ev_I0 ev_J0 ev_R0 []) cz kz = G 241 673 [ez_scr, .ref 0, .ref 35, .int 0] [.int 1, .int 0, ez_scr, .ref 35, .int (-3)] (ev_hp ev_I0 ev_J0 ev_R0 []) cz kz := by
  intro G
  rfl
set_option maxRecDepth 100000 in
set_option maxHeartbeats 100000 in
theorem eo_which_r_r7 (xs : Nat → Int32)  (cz kz : Nat) : ∀ G : ez_F, fx_up (4, xs) 2 G 241 673 [ez_scr, .ref 0, .ref 35, .int 0] [.int 1, .int 0, ez_scr, .ref 35, .int (-3)] (ev_hp ev_I0 ev_J0 ev_R0 []) cz kz = G 241 675 [ez_scr, .ref 0, .ref 35, .int 0] [.int (xs 1), .ref 35, .int (-3)] (ev_hp ev_I0 ev_J0 ev_R0 []) cz kz := by
  intro G
  rfl
set_option maxRecDepth 100000 in
set_option maxHeartbeats 100000 in
theorem eo_which_r_r8 (xs : Nat → Int32)  (cz kz : Nat) : ∀ G : ez_F, fx_up (4, xs) 1 G 241 675 [ez_scr, .ref 0, .ref 35, .int 0] [.int (xs 1), .ref 35, .int (-3)] (ev_hp ev_I0 ev_J0 ev_R0 []) cz kz = ev_C G 232 [.ref 35, .int (xs 1)] (ev_hp ev_I0 ev_J0 ev_R0 []) fun r h1 c1 k1 => G 241 678 [ez_scr, .ref 0, .ref 35, .int 0] (r.toList ++ [.int (-3)]) h1 (cz + c1) (kz + k1) := by
  intro G
  rfl
set_option maxRecDepth 100000 in
set_option maxHeartbeats 100000 in
theorem eo_which_r_r9 (xs : Nat → Int32)  (cz kz : Nat) : ∀ G : ez_F, fx_up (4, xs) 2 G 241 678 [ez_scr, .ref 0, .ref 35, .int 0] [.int (-3), .int (-3)] (ev_hp ev_I0 ev_J0 ev_R0 []) cz kz = G 241 1078 [ez_scr, .ref 0, .ref 35, .int 4] [] (ev_hp ev_I0 ev_J0 ev_R0 []) cz kz := by
  intro G
  rfl
set_option maxRecDepth 100000 in
set_option maxHeartbeats 100000 in
theorem eo_which_r_r10 (xs : Nat → Int32)  (cz kz : Nat) : ∀ G : ez_F, fx_up (4, xs) 2 G 241 1078 [ez_scr, .ref 0, .ref 35, .int 4] [] (ev_hp ev_I0 ev_J0 ev_R0 []) cz kz = G 241 19 [ez_scr, .ref 0, .ref 35, .int 4] [.int 4] (ev_hp ev_I0 ev_J0 ev_R0 []) cz kz := by
  intro G
  rfl
set_option maxRecDepth 100000 in
set_option maxHeartbeats 100000 in
theorem eo_which_r_r11 (xs : Nat → Int32)  (cz kz : Nat) : ∀ G : ez_F, fx_up (4, xs) 2 G 241 19 [ez_scr, .ref 0, .ref 35, .int 4] [.int 4] (ev_hp ev_I0 ev_J0 ev_R0 []) cz kz = G 241 21 [ez_scr, .ref 0, .ref 35, .int 4] [.int 4, .int 4] (ev_hp ev_I0 ev_J0 ev_R0 []) cz kz := by
  intro G
  rfl
set_option maxRecDepth 100000 in
set_option maxHeartbeats 100000 in
theorem eo_which_r_r12 (xs : Nat → Int32)  (cz kz : Nat) : ∀ G : ez_F, fx_up (4, xs) 2 G 241 21 [ez_scr, .ref 0, .ref 35, .int 4] [.int 4, .int 4] (ev_hp ev_I0 ev_J0 ev_R0 []) cz kz = G 241 23 [ez_scr, .ref 0, .ref 35, .int 4] [.int 0, .int 4] (ev_hp ev_I0 ev_J0 ev_R0 []) cz kz := by
  intro G
  rfl
set_option maxRecDepth 100000 in
set_option maxHeartbeats 100000 in
theorem eo_which_r_r13 (xs : Nat → Int32)  (cz kz : Nat) : ∀ G : ez_F, fx_up (4, xs) 2 G 241 23 [ez_scr, .ref 0, .ref 35, .int 4] [.int 0, .int 4] (ev_hp ev_I0 ev_J0 ev_R0 []) cz kz = G 241 1082 [ez_scr, .ref 0, .ref 35, .int 4] [.int 1] (ev_hp ev_I0 ev_J0 ev_R0 []) cz kz := by
  intro G
  rfl
set_option maxRecDepth 100000 in
set_option maxHeartbeats 100000 in
theorem eo_which_r_r14 (xs : Nat → Int32)  (cz kz : Nat) : ∀ G : ez_F, fx_up (4, xs) 1 G 241 1082 [ez_scr, .ref 0, .ref 35, .int 4] [.int 1] (ev_hp ev_I0 ev_J0 ev_R0 []) cz kz = some (some (.int 1), (ev_hp ev_I0 ev_J0 ev_R0 []), cz, kz) := by
  intro G
  rfl
theorem eo_which_r (xs : Nat → Int32) (ha : xs 1 < 0) : ev_P1 (4, xs) 660 := by
  refine ev_seg (eo_which_r_r1 xs  _ _) ?_
  refine ev_seg (eo_which_r_r2 xs  _ _) ?_
  refine ev_seg (eo_which_r_r3 xs  _ _) ?_
  refine ev_call (eo_which_r_r4 xs  _ _) (ef_which_r (4, xs) ev_I0 ev_J0 ev_R0 [] (xs 1) ha) ?_
  rintro r0 _ _ _ (⟨d85, rfl, rfl, rfl, rfl⟩)
  refine ev_seg (eo_which_r_r5 xs  _ _) ?_
  refine ev_seg (eo_which_r_r6 xs  _ _) ?_
  refine ev_seg (eo_which_r_r7 xs  _ _) ?_
  refine ev_call (eo_which_r_r8 xs  _ _) (eh_which_r (4, xs) ev_I0 ev_J0 ev_R0 [] (xs 1) ha) ?_
  rintro r0 _ _ _ (⟨d86, rfl, rfl, rfl, rfl⟩)
  refine ev_seg (eo_which_r_r9 xs  _ _) ?_
  refine ev_seg (eo_which_r_r10 xs  _ _) ?_
  refine ev_seg (eo_which_r_r11 xs  _ _) ?_
  refine ev_seg (eo_which_r_r12 xs  _ _) ?_
  refine ev_seg (eo_which_r_r13 xs  _ _) ?_
  refine ev_ret (eo_which_r_r14 xs  _ _) ?_
  exact ⟨rfl, by omega, by omega⟩
set_option maxRecDepth 100000 in
set_option maxHeartbeats 100000 in
theorem ef_calls_r_r1 (X : ez_X) (I : Nat → Nat → Int32) (J : Nat → Nat → Int64) (R : Nat → Nat) (T : List ez_C) (a : Int32) (b : Int32) (cz kz : Nat) : ∀ G : ez_F, fx_up X 2 G 11 0 [.ref 0, .int a, .int b] [] (ev_hp ev_I0 ev_J0 ev_R0 []) cz kz = bif decide (0 ≤ b) then G 11 7 [.ref 0, .int a, .int b] [] (ev_hp ev_I0 ev_J0 ev_R0 []) cz kz else G 11 4 [.ref 0, .int a, .int b] [] (ev_hp ev_I0 ev_J0 ev_R0 []) cz kz := by
  intro G
  rfl
set_option maxRecDepth 100000 in
set_option maxHeartbeats 100000 in
theorem ef_calls_r_r2 (X : ez_X) (I : Nat → Nat → Int32) (J : Nat → Nat → Int64) (R : Nat → Nat) (T : List ez_C) (a : Int32) (b : Int32) (cz kz : Nat) : ∀ G : ez_F, fx_up X 2 G 11 4 [.ref 0, .int a, .int b] [] (ev_hp ev_I0 ev_J0 ev_R0 []) cz kz = some (some (.int (-3)), (ev_hp ev_I0 ev_J0 ev_R0 []), cz, kz) := by
  intro G
  rfl
theorem ef_calls_r (X : ez_X) (I : Nat → Nat → Int32) (J : Nat → Nat → Int64) (R : Nat → Nat) (T : List ez_C) (a : Int32) (b : Int32) (ha : b < 0) : ev_W X 11 0 (ez_lay [.ref 0, .int a, .int b]) [] (ev_hp ev_I0 ev_J0 ev_R0 []) 0 0 (fun r h1 c1 k1 => ((¬ (0 ≤ b)) ∧ r = some (.int (-3)) ∧ h1 = (ev_hp ev_I0 ev_J0 ev_R0 []) ∧ c1 = 0 ∧ k1 = 0)) := by
  refine ev_if (ef_calls_r_r1 X I J R T a b _ _) (fun b1 => ?_) (fun b1 => ?_)
  · replace b1 := of_decide_eq_true b1
    exact absurd ha (Int32.not_lt.mpr b1)
  · replace b1 := of_decide_eq_false b1
    refine ev_ret (ef_calls_r_r2 X I J R T a b _ _) ?_
    exact ⟨b1, rfl, rfl, rfl, rfl⟩
set_option maxRecDepth 100000 in
set_option maxHeartbeats 100000 in
theorem eh_calls_r_r1 (X : ez_X) (I : Nat → Nat → Int32) (J : Nat → Nat → Int64) (R : Nat → Nat) (T : List ez_C) (a : Int32) (b : Int32) (cz kz : Nat) : ∀ G : ez_F, fx_up X 2 G 178 0 [.ref 35, .int a, .int b] [] (ev_hp ev_I0 ev_J0 ev_R0 []) cz kz = bif decide (0 ≤ b) then G 178 7 [.ref 35, .int a, .int b] [] (ev_hp ev_I0 ev_J0 ev_R0 []) cz kz else G 178 4 [.ref 35, .int a, .int b] [] (ev_hp ev_I0 ev_J0 ev_R0 []) cz kz := by
  intro G
  rfl
set_option maxRecDepth 100000 in
set_option maxHeartbeats 100000 in
theorem eh_calls_r_r2 (X : ez_X) (I : Nat → Nat → Int32) (J : Nat → Nat → Int64) (R : Nat → Nat) (T : List ez_C) (a : Int32) (b : Int32) (cz kz : Nat) : ∀ G : ez_F, fx_up X 2 G 178 4 [.ref 35, .int a, .int b] [] (ev_hp ev_I0 ev_J0 ev_R0 []) cz kz = some (some (.int (-3)), (ev_hp ev_I0 ev_J0 ev_R0 []), cz, kz) := by
  intro G
  rfl
theorem eh_calls_r (X : ez_X) (I : Nat → Nat → Int32) (J : Nat → Nat → Int64) (R : Nat → Nat) (T : List ez_C) (a : Int32) (b : Int32) (ha : b < 0) : ev_W X 178 0 (ez_lay [.ref 35, .int a, .int b]) [] (ev_hp ev_I0 ev_J0 ev_R0 []) 0 0 (fun r h1 c1 k1 => ((¬ (0 ≤ b)) ∧ r = some (.int (-3)) ∧ h1 = (ev_hp ev_I0 ev_J0 ev_R0 []) ∧ c1 = 0 ∧ k1 = 0)) := by
  refine ev_if (eh_calls_r_r1 X I J R T a b _ _) (fun b1 => ?_) (fun b1 => ?_)
  · replace b1 := of_decide_eq_true b1
    exact absurd ha (Int32.not_lt.mpr b1)
  · replace b1 := of_decide_eq_false b1
    refine ev_ret (eh_calls_r_r2 X I J R T a b _ _) ?_
    exact ⟨b1, rfl, rfl, rfl, rfl⟩
set_option maxRecDepth 100000 in
set_option maxHeartbeats 100000 in
theorem eo_calls_r_r1 (xs : Nat → Int32)  (cz kz : Nat) : ∀ G : ez_F, fx_up (4, xs) 2 G 241 832 [ez_scr, .ref 0, .ref 35, .int 0] [] (ev_hp ev_I0 ev_J0 ev_R0 []) cz kz = G 241 834 [ez_scr, .ref 0, .ref 35, .int 0] [ez_scr, .ref 0] (ev_hp ev_I0 ev_J0 ev_R0 []) cz kz := by
  intro G
  rfl
set_option maxRecDepth 100000 in
set_option maxHeartbeats 100000 in
theorem eo_calls_r_r2 (xs : Nat → Int32)  (cz kz : Nat) : ∀ G : ez_F, fx_up (4, xs) 2 G 241 834 [ez_scr, .ref 0, .ref 35, .int 0] [ez_scr, .ref 0] (ev_hp ev_I0 ev_J0 ev_R0 []) cz kz = G 241 836 [ez_scr, .ref 0, .ref 35, .int 0] [.int 1, .int 0, ez_scr, .ref 0] (ev_hp ev_I0 ev_J0 ev_R0 []) cz kz := by
  intro G
  rfl
set_option maxRecDepth 100000 in
set_option maxHeartbeats 100000 in
theorem eo_calls_r_r3 (xs : Nat → Int32)  (cz kz : Nat) : ∀ G : ez_F, fx_up (4, xs) 2 G 241 836 [ez_scr, .ref 0, .ref 35, .int 0] [.int 1, .int 0, ez_scr, .ref 0] (ev_hp ev_I0 ev_J0 ev_R0 []) cz kz = G 241 838 [ez_scr, .ref 0, .ref 35, .int 0] [.int (xs 1), .ref 0] (ev_hp ev_I0 ev_J0 ev_R0 []) cz kz := by
  intro G
  rfl
set_option maxRecDepth 100000 in
set_option maxHeartbeats 100000 in
theorem eo_calls_r_r4 (xs : Nat → Int32)  (cz kz : Nat) : ∀ G : ez_F, fx_up (4, xs) 2 G 241 838 [ez_scr, .ref 0, .ref 35, .int 0] [.int (xs 1), .ref 0] (ev_hp ev_I0 ev_J0 ev_R0 []) cz kz = G 241 840 [ez_scr, .ref 0, .ref 35, .int 0] [.int 0, ez_scr, .int (xs 1), .ref 0] (ev_hp ev_I0 ev_J0 ev_R0 []) cz kz := by
  intro G
  rfl
set_option maxRecDepth 100000 in
set_option maxHeartbeats 100000 in
theorem eo_calls_r_r5 (xs : Nat → Int32)  (cz kz : Nat) : ∀ G : ez_F, fx_up (4, xs) 2 G 241 840 [ez_scr, .ref 0, .ref 35, .int 0] [.int 0, ez_scr, .int (xs 1), .ref 0] (ev_hp ev_I0 ev_J0 ev_R0 []) cz kz = G 241 842 [ez_scr, .ref 0, .ref 35, .int 0] [.int 2, ez_scr, .int (xs 1), .ref 0] (ev_hp ev_I0 ev_J0 ev_R0 []) cz kz := by
  intro G
  rfl
set_option maxRecDepth 100000 in
set_option maxHeartbeats 100000 in
theorem eo_calls_r_r6 (xs : Nat → Int32)  (cz kz : Nat) : ∀ G : ez_F, fx_up (4, xs) 2 G 241 842 [ez_scr, .ref 0, .ref 35, .int 0] [.int 2, ez_scr, .int (xs 1), .ref 0] (ev_hp ev_I0 ev_J0 ev_R0 []) cz kz = ev_C G 11 [.ref 0, .int (xs 1), .int (xs 2)] (ev_hp ev_I0 ev_J0 ev_R0 []) fun r h1 c1 k1 => G 241 846 [ez_scr, .ref 0, .ref 35, .int 0] (r.toList ++ []) h1 (cz + c1) (kz + k1) := by
  intro G
  rfl
set_option maxRecDepth 100000 in
set_option maxHeartbeats 100000 in
theorem eo_calls_r_r7 (xs : Nat → Int32)  (cz kz : Nat) : ∀ G : ez_F, fx_up (4, xs) 2 G 241 846 [ez_scr, .ref 0, .ref 35, .int 0] [.int (-3)] (ev_hp ev_I0 ev_J0 ev_R0 []) cz kz = G 241 848 [ez_scr, .ref 0, .ref 35, .int 0] [ez_scr, .ref 35, .int (-3)] (ev_hp ev_I0 ev_J0 ev_R0 []) cz kz := by
  intro G
  rfl
set_option maxRecDepth 100000 in
set_option maxHeartbeats 100000 in
theorem eo_calls_r_r8 (xs : Nat → Int32)  (cz kz : Nat) : ∀ G : ez_F, fx_up (4, xs) 2 G 241 848 [ez_scr, .ref 0, .ref 35, .int 0] [ez_scr, .ref 35, .int (-3)] (ev_hp ev_I0 ev_J0 ev_R0 []) cz kz = G 241 850 [ez_scr, .ref 0, .ref 35, .int 0] [.int 1, .int 0, ez_scr, .ref 35, .int (-3)] (ev_hp ev_I0 ev_J0 ev_R0 []) cz kz := by
  intro G
  rfl
set_option maxRecDepth 100000 in
set_option maxHeartbeats 100000 in
theorem eo_calls_r_r9 (xs : Nat → Int32)  (cz kz : Nat) : ∀ G : ez_F, fx_up (4, xs) 2 G 241 850 [ez_scr, .ref 0, .ref 35, .int 0] [.int 1, .int 0, ez_scr, .ref 35, .int (-3)] (ev_hp ev_I0 ev_J0 ev_R0 []) cz kz = G 241 852 [ez_scr, .ref 0, .ref 35, .int 0] [.int (xs 1), .ref 35, .int (-3)] (ev_hp ev_I0 ev_J0 ev_R0 []) cz kz := by
  intro G
  rfl
set_option maxRecDepth 100000 in
set_option maxHeartbeats 100000 in
theorem eo_calls_r_r10 (xs : Nat → Int32)  (cz kz : Nat) : ∀ G : ez_F, fx_up (4, xs) 2 G 241 852 [ez_scr, .ref 0, .ref 35, .int 0] [.int (xs 1), .ref 35, .int (-3)] (ev_hp ev_I0 ev_J0 ev_R0 []) cz kz = G 241 854 [ez_scr, .ref 0, .ref 35, .int 0] [.int 0, ez_scr, .int (xs 1), .ref 35, .int (-3)] (ev_hp ev_I0 ev_J0 ev_R0 []) cz kz := by
  intro G
  rfl
set_option maxRecDepth 100000 in
set_option maxHeartbeats 100000 in
theorem eo_calls_r_r11 (xs : Nat → Int32)  (cz kz : Nat) : ∀ G : ez_F, fx_up (4, xs) 2 G 241 854 [ez_scr, .ref 0, .ref 35, .int 0] [.int 0, ez_scr, .int (xs 1), .ref 35, .int (-3)] (ev_hp ev_I0 ev_J0 ev_R0 []) cz kz = G 241 856 [ez_scr, .ref 0, .ref 35, .int 0] [.int 2, ez_scr, .int (xs 1), .ref 35, .int (-3)] (ev_hp ev_I0 ev_J0 ev_R0 []) cz kz := by
  intro G
  rfl
set_option maxRecDepth 100000 in
set_option maxHeartbeats 100000 in
theorem eo_calls_r_r12 (xs : Nat → Int32)  (cz kz : Nat) : ∀ G : ez_F, fx_up (4, xs) 2 G 241 856 [ez_scr, .ref 0, .ref 35, .int 0] [.int 2, ez_scr, .int (xs 1), .ref 35, .int (-3)] (ev_hp ev_I0 ev_J0 ev_R0 []) cz kz = ev_C G 178 [.ref 35, .int (xs 1), .int (xs 2)] (ev_hp ev_I0 ev_J0 ev_R0 []) fun r h1 c1 k1 => G 241 860 [ez_scr, .ref 0, .ref 35, .int 0] (r.toList ++ [.int (-3)]) h1 (cz + c1) (kz + k1) := by
  intro G
  rfl
set_option maxRecDepth 100000 in
set_option maxHeartbeats 100000 in
theorem eo_calls_r_r13 (xs : Nat → Int32)  (cz kz : Nat) : ∀ G : ez_F, fx_up (4, xs) 2 G 241 860 [ez_scr, .ref 0, .ref 35, .int 0] [.int (-3), .int (-3)] (ev_hp ev_I0 ev_J0 ev_R0 []) cz kz = G 241 1078 [ez_scr, .ref 0, .ref 35, .int 4] [] (ev_hp ev_I0 ev_J0 ev_R0 []) cz kz := by
  intro G
  rfl
set_option maxRecDepth 100000 in
set_option maxHeartbeats 100000 in
theorem eo_calls_r_r14 (xs : Nat → Int32)  (cz kz : Nat) : ∀ G : ez_F, fx_up (4, xs) 2 G 241 1078 [ez_scr, .ref 0, .ref 35, .int 4] [] (ev_hp ev_I0 ev_J0 ev_R0 []) cz kz = G 241 19 [ez_scr, .ref 0, .ref 35, .int 4] [.int 4] (ev_hp ev_I0 ev_J0 ev_R0 []) cz kz := by
  intro G
  rfl
set_option maxRecDepth 100000 in
set_option maxHeartbeats 100000 in
theorem eo_calls_r_r15 (xs : Nat → Int32)  (cz kz : Nat) : ∀ G : ez_F, fx_up (4, xs) 2 G 241 19 [ez_scr, .ref 0, .ref 35, .int 4] [.int 4] (ev_hp ev_I0 ev_J0 ev_R0 []) cz kz = G 241 21 [ez_scr, .ref 0, .ref 35, .int 4] [.int 4, .int 4] (ev_hp ev_I0 ev_J0 ev_R0 []) cz kz := by
  intro G
  rfl
set_option maxRecDepth 100000 in
set_option maxHeartbeats 100000 in
theorem eo_calls_r_r16 (xs : Nat → Int32)  (cz kz : Nat) : ∀ G : ez_F, fx_up (4, xs) 2 G 241 21 [ez_scr, .ref 0, .ref 35, .int 4] [.int 4, .int 4] (ev_hp ev_I0 ev_J0 ev_R0 []) cz kz = G 241 23 [ez_scr, .ref 0, .ref 35, .int 4] [.int 0, .int 4] (ev_hp ev_I0 ev_J0 ev_R0 []) cz kz := by
  intro G
  rfl
set_option maxRecDepth 100000 in
set_option maxHeartbeats 100000 in
theorem eo_calls_r_r17 (xs : Nat → Int32)  (cz kz : Nat) : ∀ G : ez_F, fx_up (4, xs) 2 G 241 23 [ez_scr, .ref 0, .ref 35, .int 4] [.int 0, .int 4] (ev_hp ev_I0 ev_J0 ev_R0 []) cz kz = G 241 1082 [ez_scr, .ref 0, .ref 35, .int 4] [.int 1] (ev_hp ev_I0 ev_J0 ev_R0 []) cz kz := by
  intro G
  rfl
set_option maxRecDepth 100000 in
set_option maxHeartbeats 100000 in
theorem eo_calls_r_r18 (xs : Nat → Int32)  (cz kz : Nat) : ∀ G : ez_F, fx_up (4, xs) 1 G 241 1082 [ez_scr, .ref 0, .ref 35, .int 4] [.int 1] (ev_hp ev_I0 ev_J0 ev_R0 []) cz kz = some (some (.int 1), (ev_hp ev_I0 ev_J0 ev_R0 []), cz, kz) := by
  intro G
  rfl
theorem eo_calls_r (xs : Nat → Int32) (ha : xs 2 < 0) : ev_P1 (4, xs) 832 := by
  refine ev_seg (eo_calls_r_r1 xs  _ _) ?_
  refine ev_seg (eo_calls_r_r2 xs  _ _) ?_
  refine ev_seg (eo_calls_r_r3 xs  _ _) ?_
  refine ev_seg (eo_calls_r_r4 xs  _ _) ?_
  refine ev_seg (eo_calls_r_r5 xs  _ _) ?_
  refine ev_call (eo_calls_r_r6 xs  _ _) (ef_calls_r (4, xs) ev_I0 ev_J0 ev_R0 [] (xs 1) (xs 2) ha) ?_
  rintro r0 _ _ _ (⟨d87, rfl, rfl, rfl, rfl⟩)
  refine ev_seg (eo_calls_r_r7 xs  _ _) ?_
  refine ev_seg (eo_calls_r_r8 xs  _ _) ?_
  refine ev_seg (eo_calls_r_r9 xs  _ _) ?_
  refine ev_seg (eo_calls_r_r10 xs  _ _) ?_
  refine ev_seg (eo_calls_r_r11 xs  _ _) ?_
  refine ev_call (eo_calls_r_r12 xs  _ _) (eh_calls_r (4, xs) ev_I0 ev_J0 ev_R0 [] (xs 1) (xs 2) ha) ?_
  rintro r0 _ _ _ (⟨d88, rfl, rfl, rfl, rfl⟩)
  refine ev_seg (eo_calls_r_r13 xs  _ _) ?_
  refine ev_seg (eo_calls_r_r14 xs  _ _) ?_
  refine ev_seg (eo_calls_r_r15 xs  _ _) ?_
  refine ev_seg (eo_calls_r_r16 xs  _ _) ?_
  refine ev_seg (eo_calls_r_r17 xs  _ _) ?_
  refine ev_ret (eo_calls_r_r18 xs  _ _) ?_
  exact ⟨rfl, by omega, by omega⟩
set_option maxRecDepth 100000 in
set_option maxHeartbeats 100000 in
theorem ef_set_r_r1 (X : ez_X) (I : Nat → Nat → Int32) (J : Nat → Nat → Int64) (R : Nat → Nat) (T : List ez_C) (a : Int32) (b : Int32) (cz kz : Nat) : ∀ G : ez_F, fx_up X 4 G 42 0 [.ref 0, .int a, .int b] [] (ev_hp ev_I0 ev_J0 ev_R0 []) cz kz = ev_C G 55 [.int a, .int 0, .int 2] (ev_hp ev_I0 ev_J0 ev_R0 []) fun r h1 c1 k1 => G 42 6 [.ref 0, .int a, .int b] (r.toList ++ []) h1 (cz + c1) (kz + k1) := by
  intro G
  rfl
set_option maxRecDepth 100000 in
set_option maxHeartbeats 100000 in
theorem ef_set_r_r2 (X : ez_X) (I : Nat → Nat → Int32) (J : Nat → Nat → Int64) (R : Nat → Nat) (T : List ez_C) (a : Int32) (b : Int32) (q126 : Int32) (cz kz : Nat) : ∀ G : ez_F, fx_up X 1 G 42 6 [.ref 0, .int a, .int b] [.int q126] (ev_hp ev_I0 ev_J0 ev_R0 []) cz kz = bif decide (q126 = 0) then G 42 27 [.ref 0, .int a, .int b] [] (ev_hp ev_I0 ev_J0 ev_R0 []) cz kz else G 42 9 [.ref 0, .int a, .int b] [] (ev_hp ev_I0 ev_J0 ev_R0 []) cz kz := by
  intro G
  rfl
set_option maxRecDepth 100000 in
set_option maxHeartbeats 100000 in
theorem ef_set_r_r3 (X : ez_X) (I : Nat → Nat → Int32) (J : Nat → Nat → Int64) (R : Nat → Nat) (T : List ez_C) (a : Int32) (b : Int32) (q126 : Int32) (cz kz : Nat) : ∀ G : ez_F, fx_up X 2 G 42 27 [.ref 0, .int a, .int b] [] (ev_hp ev_I0 ev_J0 ev_R0 []) cz kz = some (some (.int (-3)), (ev_hp ev_I0 ev_J0 ev_R0 []), cz, kz) := by
  intro G
  rfl
theorem ef_set_r (X : ez_X) (I : Nat → Nat → Int32) (J : Nat → Nat → Int64) (R : Nat → Nat) (T : List ez_C) (a : Int32) (b : Int32) (ha : ev_wi a 0 2 = 0) : ev_W X 42 0 (ez_lay [.ref 0, .int a, .int b]) [] (ev_hp ev_I0 ev_J0 ev_R0 []) 0 0 (fun r h1 c1 k1 => ((((ev_wi a 0 2)) = 0) ∧ r = some (.int (-3)) ∧ h1 = (ev_hp ev_I0 ev_J0 ev_R0 []) ∧ c1 = 0 ∧ k1 = 0)) := by
  refine ev_call (ef_set_r_r1 X I J R T a b _ _) (ec_within X (ev_hp ev_I0 ev_J0 ev_R0 []) a 0 2) ?_
  rintro _ _ _ _ ⟨rfl, rfl, rfl, rfl⟩
  generalize hq126 : (ev_wi a 0 2) = q126
  refine ev_if (ef_set_r_r2 X I J R T a b q126 _ _) (fun b1 => ?_) (fun b1 => ?_)
  · replace b1 := of_decide_eq_true b1
    refine ev_ret (ef_set_r_r3 X I J R T a b q126 _ _) ?_
    subst hq126
    exact ⟨b1, rfl, rfl, rfl, rfl⟩
  · replace b1 := of_decide_eq_false b1
    exact (b1 (by rw [← hq126]; exact ha)).elim
set_option maxRecDepth 100000 in
set_option maxHeartbeats 100000 in
theorem eh_set_r_r1 (X : ez_X) (I : Nat → Nat → Int32) (J : Nat → Nat → Int64) (R : Nat → Nat) (T : List ez_C) (a : Int32) (b : Int32) (cz kz : Nat) : ∀ G : ez_F, fx_up X 2 G 219 0 [.ref 35, .int a, .int b] [] (ev_hp ev_I0 ev_J0 ev_R0 []) cz kz = bif decide (¬ a = 0) then G 219 28 [.ref 35, .int a, .int b] [] (ev_hp ev_I0 ev_J0 ev_R0 []) cz kz else G 219 4 [.ref 35, .int a, .int b] [] (ev_hp ev_I0 ev_J0 ev_R0 []) cz kz := by
  intro G
  rfl
set_option maxRecDepth 100000 in
set_option maxHeartbeats 100000 in
theorem eh_set_r_r2 (X : ez_X) (I : Nat → Nat → Int32) (J : Nat → Nat → Int64) (R : Nat → Nat) (T : List ez_C) (a : Int32) (b : Int32) (cz kz : Nat) : ∀ G : ez_F, fx_up X 3 G 219 28 [.ref 35, .int a, .int b] [] (ev_hp ev_I0 ev_J0 ev_R0 []) cz kz = bif decide (¬ a = 1) then G 219 55 [.ref 35, .int a, .int b] [] (ev_hp ev_I0 ev_J0 ev_R0 []) cz kz else G 219 33 [.ref 35, .int a, .int b] [] (ev_hp ev_I0 ev_J0 ev_R0 []) cz kz := by
  intro G
  rfl
set_option maxRecDepth 100000 in
set_option maxHeartbeats 100000 in
theorem eh_set_r_r3 (X : ez_X) (I : Nat → Nat → Int32) (J : Nat → Nat → Int64) (R : Nat → Nat) (T : List ez_C) (a : Int32) (b : Int32) (cz kz : Nat) : ∀ G : ez_F, fx_up X 3 G 219 55 [.ref 35, .int a, .int b] [] (ev_hp ev_I0 ev_J0 ev_R0 []) cz kz = bif decide (¬ a = 2) then G 219 84 [.ref 35, .int a, .int b] [] (ev_hp ev_I0 ev_J0 ev_R0 []) cz kz else G 219 60 [.ref 35, .int a, .int b] [] (ev_hp ev_I0 ev_J0 ev_R0 []) cz kz := by
  intro G
  rfl
set_option maxRecDepth 100000 in
set_option maxHeartbeats 100000 in
theorem eh_set_r_r4 (X : ez_X) (I : Nat → Nat → Int32) (J : Nat → Nat → Int64) (R : Nat → Nat) (T : List ez_C) (a : Int32) (b : Int32) (cz kz : Nat) : ∀ G : ez_F, fx_up X 2 G 219 84 [.ref 35, .int a, .int b] [] (ev_hp ev_I0 ev_J0 ev_R0 []) cz kz = some (some (.int (-3)), (ev_hp ev_I0 ev_J0 ev_R0 []), cz, kz) := by
  intro G
  rfl
theorem eh_set_r (X : ez_X) (I : Nat → Nat → Int32) (J : Nat → Nat → Int64) (R : Nat → Nat) (T : List ez_C) (a : Int32) (b : Int32) (ha : ev_wi a 0 2 = 0) : ev_W X 219 0 (ez_lay [.ref 35, .int a, .int b]) [] (ev_hp ev_I0 ev_J0 ev_R0 []) 0 0 (fun r h1 c1 k1 => ((¬ a = 0) ∧ (¬ a = 1) ∧ (¬ a = 2) ∧ r = some (.int (-3)) ∧ h1 = (ev_hp ev_I0 ev_J0 ev_R0 []) ∧ c1 = 0 ∧ k1 = 0)) := by
  refine ev_if (eh_set_r_r1 X I J R T a b _ _) (fun b1 => ?_) (fun b1 => ?_)
  · replace b1 := of_decide_eq_true b1
    refine ev_if (eh_set_r_r2 X I J R T a b _ _) (fun b2 => ?_) (fun b2 => ?_)
    · replace b2 := of_decide_eq_true b2
      refine ev_if (eh_set_r_r3 X I J R T a b _ _) (fun b3 => ?_) (fun b3 => ?_)
      · replace b3 := of_decide_eq_true b3
        refine ev_ret (eh_set_r_r4 X I J R T a b _ _) ?_
        exact ⟨b1, b2, b3, rfl, rfl, rfl, rfl⟩
      · replace b3 := of_decide_eq_false b3
        exact absurd (ev_wi_nz ha).2.2 b3
    · replace b2 := of_decide_eq_false b2
      exact absurd (ev_wi_nz ha).2.1 b2
  · replace b1 := of_decide_eq_false b1
    exact absurd (ev_wi_nz ha).1 b1
set_option maxRecDepth 100000 in
set_option maxHeartbeats 100000 in
theorem eo_set_r_r1 (xs : Nat → Int32)  (cz kz : Nat) : ∀ G : ez_F, fx_up (4, xs) 2 G 241 276 [ez_scr, .ref 0, .ref 35, .int 0] [] (ev_hp ev_I0 ev_J0 ev_R0 []) cz kz = G 241 278 [ez_scr, .ref 0, .ref 35, .int 0] [ez_scr, .ref 0] (ev_hp ev_I0 ev_J0 ev_R0 []) cz kz := by
  intro G
  rfl
set_option maxRecDepth 100000 in
set_option maxHeartbeats 100000 in
theorem eo_set_r_r2 (xs : Nat → Int32)  (cz kz : Nat) : ∀ G : ez_F, fx_up (4, xs) 2 G 241 278 [ez_scr, .ref 0, .ref 35, .int 0] [ez_scr, .ref 0] (ev_hp ev_I0 ev_J0 ev_R0 []) cz kz = G 241 280 [ez_scr, .ref 0, .ref 35, .int 0] [.int 1, .int 0, ez_scr, .ref 0] (ev_hp ev_I0 ev_J0 ev_R0 []) cz kz := by
  intro G
  rfl
set_option maxRecDepth 100000 in
set_option maxHeartbeats 100000 in
theorem eo_set_r_r3 (xs : Nat → Int32)  (cz kz : Nat) : ∀ G : ez_F, fx_up (4, xs) 2 G 241 280 [ez_scr, .ref 0, .ref 35, .int 0] [.int 1, .int 0, ez_scr, .ref 0] (ev_hp ev_I0 ev_J0 ev_R0 []) cz kz = G 241 282 [ez_scr, .ref 0, .ref 35, .int 0] [.int (xs 1), .ref 0] (ev_hp ev_I0 ev_J0 ev_R0 []) cz kz := by
  intro G
  rfl
set_option maxRecDepth 100000 in
set_option maxHeartbeats 100000 in
theorem eo_set_r_r4 (xs : Nat → Int32)  (cz kz : Nat) : ∀ G : ez_F, fx_up (4, xs) 2 G 241 282 [ez_scr, .ref 0, .ref 35, .int 0] [.int (xs 1), .ref 0] (ev_hp ev_I0 ev_J0 ev_R0 []) cz kz = G 241 284 [ez_scr, .ref 0, .ref 35, .int 0] [.int 0, ez_scr, .int (xs 1), .ref 0] (ev_hp ev_I0 ev_J0 ev_R0 []) cz kz := by
  intro G
  rfl
set_option maxRecDepth 100000 in
set_option maxHeartbeats 100000 in
theorem eo_set_r_r5 (xs : Nat → Int32)  (cz kz : Nat) : ∀ G : ez_F, fx_up (4, xs) 2 G 241 284 [ez_scr, .ref 0, .ref 35, .int 0] [.int 0, ez_scr, .int (xs 1), .ref 0] (ev_hp ev_I0 ev_J0 ev_R0 []) cz kz = G 241 286 [ez_scr, .ref 0, .ref 35, .int 0] [.int 2, ez_scr, .int (xs 1), .ref 0] (ev_hp ev_I0 ev_J0 ev_R0 []) cz kz := by
  intro G
  rfl
set_option maxRecDepth 100000 in
set_option maxHeartbeats 100000 in
theorem eo_set_r_r6 (xs : Nat → Int32)  (cz kz : Nat) : ∀ G : ez_F, fx_up (4, xs) 2 G 241 286 [ez_scr, .ref 0, .ref 35, .int 0] [.int 2, ez_scr, .int (xs 1), .ref 0] (ev_hp ev_I0 ev_J0 ev_R0 []) cz kz = ev_C G 42 [.ref 0, .int (xs 1), .int (xs 2)] (ev_hp ev_I0 ev_J0 ev_R0 []) fun r h1 c1 k1 => G 241 290 [ez_scr, .ref 0, .ref 35, .int 0] (r.toList ++ []) h1 (cz + c1) (kz + k1) := by
  intro G
  rfl
set_option maxRecDepth 100000 in
set_option maxHeartbeats 100000 in
theorem eo_set_r_r7 (xs : Nat → Int32)  (cz kz : Nat) : ∀ G : ez_F, fx_up (4, xs) 2 G 241 290 [ez_scr, .ref 0, .ref 35, .int 0] [.int (-3)] (ev_hp ev_I0 ev_J0 ev_R0 []) cz kz = G 241 292 [ez_scr, .ref 0, .ref 35, .int 0] [ez_scr, .ref 35, .int (-3)] (ev_hp ev_I0 ev_J0 ev_R0 []) cz kz := by
  intro G
  rfl
set_option maxRecDepth 100000 in
set_option maxHeartbeats 100000 in
theorem eo_set_r_r8 (xs : Nat → Int32)  (cz kz : Nat) : ∀ G : ez_F, fx_up (4, xs) 2 G 241 292 [ez_scr, .ref 0, .ref 35, .int 0] [ez_scr, .ref 35, .int (-3)] (ev_hp ev_I0 ev_J0 ev_R0 []) cz kz = G 241 294 [ez_scr, .ref 0, .ref 35, .int 0] [.int 1, .int 0, ez_scr, .ref 35, .int (-3)] (ev_hp ev_I0 ev_J0 ev_R0 []) cz kz := by
  intro G
  rfl
set_option maxRecDepth 100000 in
set_option maxHeartbeats 100000 in
theorem eo_set_r_r9 (xs : Nat → Int32)  (cz kz : Nat) : ∀ G : ez_F, fx_up (4, xs) 2 G 241 294 [ez_scr, .ref 0, .ref 35, .int 0] [.int 1, .int 0, ez_scr, .ref 35, .int (-3)] (ev_hp ev_I0 ev_J0 ev_R0 []) cz kz = G 241 296 [ez_scr, .ref 0, .ref 35, .int 0] [.int (xs 1), .ref 35, .int (-3)] (ev_hp ev_I0 ev_J0 ev_R0 []) cz kz := by
  intro G
  rfl
set_option maxRecDepth 100000 in
set_option maxHeartbeats 100000 in
theorem eo_set_r_r10 (xs : Nat → Int32)  (cz kz : Nat) : ∀ G : ez_F, fx_up (4, xs) 2 G 241 296 [ez_scr, .ref 0, .ref 35, .int 0] [.int (xs 1), .ref 35, .int (-3)] (ev_hp ev_I0 ev_J0 ev_R0 []) cz kz = G 241 298 [ez_scr, .ref 0, .ref 35, .int 0] [.int 0, ez_scr, .int (xs 1), .ref 35, .int (-3)] (ev_hp ev_I0 ev_J0 ev_R0 []) cz kz := by
  intro G
  rfl
set_option maxRecDepth 100000 in
set_option maxHeartbeats 100000 in
theorem eo_set_r_r11 (xs : Nat → Int32)  (cz kz : Nat) : ∀ G : ez_F, fx_up (4, xs) 2 G 241 298 [ez_scr, .ref 0, .ref 35, .int 0] [.int 0, ez_scr, .int (xs 1), .ref 35, .int (-3)] (ev_hp ev_I0 ev_J0 ev_R0 []) cz kz = G 241 300 [ez_scr, .ref 0, .ref 35, .int 0] [.int 2, ez_scr, .int (xs 1), .ref 35, .int (-3)] (ev_hp ev_I0 ev_J0 ev_R0 []) cz kz := by
  intro G
  rfl
set_option maxRecDepth 100000 in
set_option maxHeartbeats 100000 in
theorem eo_set_r_r12 (xs : Nat → Int32)  (cz kz : Nat) : ∀ G : ez_F, fx_up (4, xs) 2 G 241 300 [ez_scr, .ref 0, .ref 35, .int 0] [.int 2, ez_scr, .int (xs 1), .ref 35, .int (-3)] (ev_hp ev_I0 ev_J0 ev_R0 []) cz kz = ev_C G 219 [.ref 35, .int (xs 1), .int (xs 2)] (ev_hp ev_I0 ev_J0 ev_R0 []) fun r h1 c1 k1 => G 241 304 [ez_scr, .ref 0, .ref 35, .int 0] (r.toList ++ [.int (-3)]) h1 (cz + c1) (kz + k1) := by
  intro G
  rfl
set_option maxRecDepth 100000 in
set_option maxHeartbeats 100000 in
theorem eo_set_r_r13 (xs : Nat → Int32)  (cz kz : Nat) : ∀ G : ez_F, fx_up (4, xs) 2 G 241 304 [ez_scr, .ref 0, .ref 35, .int 0] [.int (-3), .int (-3)] (ev_hp ev_I0 ev_J0 ev_R0 []) cz kz = G 241 1078 [ez_scr, .ref 0, .ref 35, .int 4] [] (ev_hp ev_I0 ev_J0 ev_R0 []) cz kz := by
  intro G
  rfl
set_option maxRecDepth 100000 in
set_option maxHeartbeats 100000 in
theorem eo_set_r_r14 (xs : Nat → Int32)  (cz kz : Nat) : ∀ G : ez_F, fx_up (4, xs) 2 G 241 1078 [ez_scr, .ref 0, .ref 35, .int 4] [] (ev_hp ev_I0 ev_J0 ev_R0 []) cz kz = G 241 19 [ez_scr, .ref 0, .ref 35, .int 4] [.int 4] (ev_hp ev_I0 ev_J0 ev_R0 []) cz kz := by
  intro G
  rfl
set_option maxRecDepth 100000 in
set_option maxHeartbeats 100000 in
theorem eo_set_r_r15 (xs : Nat → Int32)  (cz kz : Nat) : ∀ G : ez_F, fx_up (4, xs) 2 G 241 19 [ez_scr, .ref 0, .ref 35, .int 4] [.int 4] (ev_hp ev_I0 ev_J0 ev_R0 []) cz kz = G 241 21 [ez_scr, .ref 0, .ref 35, .int 4] [.int 4, .int 4] (ev_hp ev_I0 ev_J0 ev_R0 []) cz kz := by
  intro G
  rfl
set_option maxRecDepth 100000 in
set_option maxHeartbeats 100000 in
theorem eo_set_r_r16 (xs : Nat → Int32)  (cz kz : Nat) : ∀ G : ez_F, fx_up (4, xs) 2 G 241 21 [ez_scr, .ref 0, .ref 35, .int 4] [.int 4, .int 4] (ev_hp ev_I0 ev_J0 ev_R0 []) cz kz = G 241 23 [ez_scr, .ref 0, .ref 35, .int 4] [.int 0, .int 4] (ev_hp ev_I0 ev_J0 ev_R0 []) cz kz := by
  intro G
  rfl
set_option maxRecDepth 100000 in
set_option maxHeartbeats 100000 in
theorem eo_set_r_r17 (xs : Nat → Int32)  (cz kz : Nat) : ∀ G : ez_F, fx_up (4, xs) 2 G 241 23 [ez_scr, .ref 0, .ref 35, .int 4] [.int 0, .int 4] (ev_hp ev_I0 ev_J0 ev_R0 []) cz kz = G 241 1082 [ez_scr, .ref 0, .ref 35, .int 4] [.int 1] (ev_hp ev_I0 ev_J0 ev_R0 []) cz kz := by
  intro G
  rfl
set_option maxRecDepth 100000 in
set_option maxHeartbeats 100000 in
theorem eo_set_r_r18 (xs : Nat → Int32)  (cz kz : Nat) : ∀ G : ez_F, fx_up (4, xs) 1 G 241 1082 [ez_scr, .ref 0, .ref 35, .int 4] [.int 1] (ev_hp ev_I0 ev_J0 ev_R0 []) cz kz = some (some (.int 1), (ev_hp ev_I0 ev_J0 ev_R0 []), cz, kz) := by
  intro G
  rfl
theorem eo_set_r (xs : Nat → Int32) (ha : ev_wi (xs 1) 0 2 = 0) : ev_P1 (4, xs) 276 := by
  refine ev_seg (eo_set_r_r1 xs  _ _) ?_
  refine ev_seg (eo_set_r_r2 xs  _ _) ?_
  refine ev_seg (eo_set_r_r3 xs  _ _) ?_
  refine ev_seg (eo_set_r_r4 xs  _ _) ?_
  refine ev_seg (eo_set_r_r5 xs  _ _) ?_
  refine ev_call (eo_set_r_r6 xs  _ _) (ef_set_r (4, xs) ev_I0 ev_J0 ev_R0 [] (xs 1) (xs 2) ha) ?_
  rintro r0 _ _ _ (⟨d89, rfl, rfl, rfl, rfl⟩)
  refine ev_seg (eo_set_r_r7 xs  _ _) ?_
  refine ev_seg (eo_set_r_r8 xs  _ _) ?_
  refine ev_seg (eo_set_r_r9 xs  _ _) ?_
  refine ev_seg (eo_set_r_r10 xs  _ _) ?_
  refine ev_seg (eo_set_r_r11 xs  _ _) ?_
  refine ev_call (eo_set_r_r12 xs  _ _) (eh_set_r (4, xs) ev_I0 ev_J0 ev_R0 [] (xs 1) (xs 2) ha) ?_
  rintro r0 _ _ _ (⟨d90, d91, d92, rfl, rfl, rfl, rfl⟩)
  refine ev_seg (eo_set_r_r13 xs  _ _) ?_
  refine ev_seg (eo_set_r_r14 xs  _ _) ?_
  refine ev_seg (eo_set_r_r15 xs  _ _) ?_
  refine ev_seg (eo_set_r_r16 xs  _ _) ?_
  refine ev_seg (eo_set_r_r17 xs  _ _) ?_
  refine ev_ret (eo_set_r_r18 xs  _ _) ?_
  exact ⟨rfl, by omega, by omega⟩
set_option maxRecDepth 100000 in
set_option maxHeartbeats 100000 in
theorem ef_set_s0_r1 (X : ez_X) (I : Nat → Nat → Int32) (J : Nat → Nat → Int64) (R : Nat → Nat) (T : List ez_C) (b : Int32) (cz kz : Nat) : ∀ G : ez_F, fx_up X 4 G 42 0 [.ref 0, .int 0, .int b] [] (ev_hp ev_I0 ev_J0 ev_R0 []) cz kz = ev_C G 55 [.int 0, .int 0, .int 2] (ev_hp ev_I0 ev_J0 ev_R0 []) fun r h1 c1 k1 => G 42 6 [.ref 0, .int 0, .int b] (r.toList ++ []) h1 (cz + c1) (kz + k1) := by
  intro G
  rfl
set_option maxRecDepth 100000 in
set_option maxHeartbeats 100000 in
theorem ef_set_s0_r2 (X : ez_X) (I : Nat → Nat → Int32) (J : Nat → Nat → Int64) (R : Nat → Nat) (T : List ez_C) (b : Int32) (q127 : Int32) (cz kz : Nat) : ∀ G : ez_F, fx_up X 1 G 42 6 [.ref 0, .int 0, .int b] [.int q127] (ev_hp ev_I0 ev_J0 ev_R0 []) cz kz = bif decide (q127 = 0) then G 42 27 [.ref 0, .int 0, .int b] [] (ev_hp ev_I0 ev_J0 ev_R0 []) cz kz else G 42 9 [.ref 0, .int 0, .int b] [] (ev_hp ev_I0 ev_J0 ev_R0 []) cz kz := by
  intro G
  rfl
set_option maxRecDepth 100000 in
set_option maxHeartbeats 100000 in
theorem ef_set_s0_r3 (X : ez_X) (I : Nat → Nat → Int32) (J : Nat → Nat → Int64) (R : Nat → Nat) (T : List ez_C) (b : Int32) (q127 : Int32) (cz kz : Nat) : ∀ G : ez_F, fx_up X 7 G 42 9 [.ref 0, .int 0, .int b] [] (ev_hp ev_I0 ev_J0 ev_R0 []) cz kz = ev_C G 55 [.int b, .int 0, .int 2] (ev_hp ev_I0 ev_J0 ev_R0 []) fun r h1 c1 k1 => G 42 24 [.ref 0, .int 0, .int b] (r.toList ++ []) h1 (cz + c1) (kz + k1) := by
  intro G
  rfl
set_option maxRecDepth 100000 in
set_option maxHeartbeats 100000 in
theorem ef_set_s0_r4 (X : ez_X) (I : Nat → Nat → Int32) (J : Nat → Nat → Int64) (R : Nat → Nat) (T : List ez_C) (b : Int32) (q127 : Int32) (q128 : Int32) (cz kz : Nat) : ∀ G : ez_F, fx_up X 1 G 42 24 [.ref 0, .int 0, .int b] [.int q128] (ev_hp ev_I0 ev_J0 ev_R0 []) cz kz = bif decide (¬ q128 = 0) then G 42 30 [.ref 0, .int 0, .int b] [] (ev_hp ev_I0 ev_J0 ev_R0 []) cz kz else G 42 27 [.ref 0, .int 0, .int b] [] (ev_hp ev_I0 ev_J0 ev_R0 []) cz kz := by
  intro G
  rfl
set_option maxRecDepth 100000 in
set_option maxHeartbeats 100000 in
theorem ef_set_s0_r5 (X : ez_X) (I : Nat → Nat → Int32) (J : Nat → Nat → Int64) (R : Nat → Nat) (T : List ez_C) (b : Int32) (q127 : Int32) (q128 : Int32) (cz kz : Nat) : ∀ G : ez_F, fx_up X 2 G 42 27 [.ref 0, .int 0, .int b] [] (ev_hp ev_I0 ev_J0 ev_R0 []) cz kz = some (some (.int (-3)), (ev_hp ev_I0 ev_J0 ev_R0 []), cz, kz) := by
  intro G
  rfl
theorem ef_set_s0 (X : ez_X) (I : Nat → Nat → Int32) (J : Nat → Nat → Int64) (R : Nat → Nat) (T : List ez_C) (b : Int32) (hb : ev_wi b 0 2 = 0) : ev_W X 42 0 (ez_lay [.ref 0, .int 0, .int b]) [] (ev_hp ev_I0 ev_J0 ev_R0 []) 0 0 (fun r h1 c1 k1 => ((¬ (((ev_wi 0 0 2)) = 0)) ∧ (¬ (¬ ((ev_wi b 0 2)) = 0)) ∧ r = some (.int (-3)) ∧ h1 = (ev_hp ev_I0 ev_J0 ev_R0 []) ∧ c1 = 0 ∧ k1 = 0)) := by
  refine ev_call (ef_set_s0_r1 X I J R T b _ _) (ec_within X (ev_hp ev_I0 ev_J0 ev_R0 []) 0 0 2) ?_
  rintro _ _ _ _ ⟨rfl, rfl, rfl, rfl⟩
  generalize hq127 : (ev_wi 0 0 2) = q127
  refine ev_if (ef_set_s0_r2 X I J R T b q127 _ _) (fun b1 => ?_) (fun b1 => ?_)
  · replace b1 := of_decide_eq_true b1
    exact absurd (hq127.trans b1) (by decide)
  · replace b1 := of_decide_eq_false b1
    refine ev_call (ef_set_s0_r3 X I J R T b q127 _ _) (ec_within X (ev_hp ev_I0 ev_J0 ev_R0 []) b 0 2) ?_
    rintro _ _ _ _ ⟨rfl, rfl, rfl, rfl⟩
    generalize hq128 : (ev_wi b 0 2) = q128
    refine ev_if (ef_set_s0_r4 X I J R T b q127 q128 _ _) (fun b2 => ?_) (fun b2 => ?_)
    · replace b2 := of_decide_eq_true b2
      exact (b2 (by rw [← hq128]; exact hb)).elim
    · replace b2 := of_decide_eq_false b2
      refine ev_ret (ef_set_s0_r5 X I J R T b q127 q128 _ _) ?_
      subst hq128
      subst hq127
      exact ⟨b1, b2, rfl, rfl, rfl, rfl⟩
set_option maxRecDepth 100000 in
set_option maxHeartbeats 100000 in
theorem eh_set_s0_r1 (X : ez_X) (I : Nat → Nat → Int32) (J : Nat → Nat → Int64) (R : Nat → Nat) (T : List ez_C) (b : Int32) (cz kz : Nat) : ∀ G : ez_F, fx_up X 7 G 219 0 [.ref 35, .int 0, .int b] [] (ev_hp ev_I0 ev_J0 ev_R0 []) cz kz = ev_C G 198 [.long (b.toInt64), .long 0, .long 2] (ev_hp ev_I0 ev_J0 ev_R0 []) fun r h1 c1 k1 => G 219 13 [.ref 35, .int 0, .int b] (r.toList ++ []) h1 (cz + c1) (kz + k1) := by
  intro G
  rfl
set_option maxRecDepth 100000 in
set_option maxHeartbeats 100000 in
theorem eh_set_s0_r2 (X : ez_X) (I : Nat → Nat → Int32) (J : Nat → Nat → Int64) (R : Nat → Nat) (T : List ez_C) (b : Int32) (q129 : Int32) (cz kz : Nat) : ∀ G : ez_F, fx_up X 1 G 219 13 [.ref 35, .int 0, .int b] [.int q129] (ev_hp ev_I0 ev_J0 ev_R0 []) cz kz = bif decide (q129 = 0) then G 219 28 [.ref 35, .int 0, .int b] [] (ev_hp ev_I0 ev_J0 ev_R0 []) cz kz else G 219 16 [.ref 35, .int 0, .int b] [] (ev_hp ev_I0 ev_J0 ev_R0 []) cz kz := by
  intro G
  rfl
set_option maxRecDepth 100000 in
set_option maxHeartbeats 100000 in
theorem eh_set_s0_r3 (X : ez_X) (I : Nat → Nat → Int32) (J : Nat → Nat → Int64) (R : Nat → Nat) (T : List ez_C) (b : Int32) (q129 : Int32) (cz kz : Nat) : ∀ G : ez_F, fx_up X 8 G 219 28 [.ref 35, .int 0, .int b] [] (ev_hp ev_I0 ev_J0 ev_R0 []) cz kz = some (some (.int (-3)), (ev_hp ev_I0 ev_J0 ev_R0 []), cz, kz) := by
  intro G
  rfl
theorem eh_set_s0 (X : ez_X) (I : Nat → Nat → Int32) (J : Nat → Nat → Int64) (R : Nat → Nat) (T : List ez_C) (b : Int32) (hb : ev_wi b 0 2 = 0) : ev_W X 219 0 (ez_lay [.ref 35, .int 0, .int b]) [] (ev_hp ev_I0 ev_J0 ev_R0 []) 0 0 (fun r h1 c1 k1 => ((((ev_il (b.toInt64) 0 2)) = 0) ∧ r = some (.int (-3)) ∧ h1 = (ev_hp ev_I0 ev_J0 ev_R0 []) ∧ c1 = 0 ∧ k1 = 0)) := by
  refine ev_call (eh_set_s0_r1 X I J R T b _ _) (ec_in X (ev_hp ev_I0 ev_J0 ev_R0 []) (b.toInt64) 0 2) ?_
  rintro _ _ _ _ ⟨rfl, rfl, rfl, rfl⟩
  generalize hq129 : (ev_il (b.toInt64) 0 2) = q129
  refine ev_if (eh_set_s0_r2 X I J R T b q129 _ _) (fun b1 => ?_) (fun b1 => ?_)
  · replace b1 := of_decide_eq_true b1
    refine ev_ret (eh_set_s0_r3 X I J R T b q129 _ _) ?_
    subst hq129
    exact ⟨b1, rfl, rfl, rfl, rfl⟩
  · replace b1 := of_decide_eq_false b1
    exact (b1 (by rw [← hq129]; exact ((ev_il_wi b 0 2).trans hb))).elim
set_option maxRecDepth 100000 in
set_option maxHeartbeats 100000 in
theorem eo_set_s0_r1 (xs : Nat → Int32)  (cz kz : Nat) : ∀ G : ez_F, fx_up (ev_x1 xs 0) 2 G 241 276 [ez_scr, .ref 0, .ref 35, .int 0] [] (ev_hp ev_I0 ev_J0 ev_R0 []) cz kz = G 241 278 [ez_scr, .ref 0, .ref 35, .int 0] [ez_scr, .ref 0] (ev_hp ev_I0 ev_J0 ev_R0 []) cz kz := by
  intro G
  rfl
set_option maxRecDepth 100000 in
set_option maxHeartbeats 100000 in
theorem eo_set_s0_r2 (xs : Nat → Int32)  (cz kz : Nat) : ∀ G : ez_F, fx_up (ev_x1 xs 0) 2 G 241 278 [ez_scr, .ref 0, .ref 35, .int 0] [ez_scr, .ref 0] (ev_hp ev_I0 ev_J0 ev_R0 []) cz kz = G 241 280 [ez_scr, .ref 0, .ref 35, .int 0] [.int 1, .int 0, ez_scr, .ref 0] (ev_hp ev_I0 ev_J0 ev_R0 []) cz kz := by
  intro G
  rfl
set_option maxRecDepth 100000 in
set_option maxHeartbeats 100000 in
theorem eo_set_s0_r3 (xs : Nat → Int32)  (cz kz : Nat) : ∀ G : ez_F, fx_up (ev_x1 xs 0) 2 G 241 280 [ez_scr, .ref 0, .ref 35, .int 0] [.int 1, .int 0, ez_scr, .ref 0] (ev_hp ev_I0 ev_J0 ev_R0 []) cz kz = G 241 282 [ez_scr, .ref 0, .ref 35, .int 0] [.int 0, .ref 0] (ev_hp ev_I0 ev_J0 ev_R0 []) cz kz := by
  intro G
  rfl
set_option maxRecDepth 100000 in
set_option maxHeartbeats 100000 in
theorem eo_set_s0_r4 (xs : Nat → Int32)  (cz kz : Nat) : ∀ G : ez_F, fx_up (ev_x1 xs 0) 2 G 241 282 [ez_scr, .ref 0, .ref 35, .int 0] [.int 0, .ref 0] (ev_hp ev_I0 ev_J0 ev_R0 []) cz kz = G 241 284 [ez_scr, .ref 0, .ref 35, .int 0] [.int 0, ez_scr, .int 0, .ref 0] (ev_hp ev_I0 ev_J0 ev_R0 []) cz kz := by
  intro G
  rfl
set_option maxRecDepth 100000 in
set_option maxHeartbeats 100000 in
theorem eo_set_s0_r5 (xs : Nat → Int32)  (cz kz : Nat) : ∀ G : ez_F, fx_up (ev_x1 xs 0) 2 G 241 284 [ez_scr, .ref 0, .ref 35, .int 0] [.int 0, ez_scr, .int 0, .ref 0] (ev_hp ev_I0 ev_J0 ev_R0 []) cz kz = G 241 286 [ez_scr, .ref 0, .ref 35, .int 0] [.int 2, ez_scr, .int 0, .ref 0] (ev_hp ev_I0 ev_J0 ev_R0 []) cz kz := by
  intro G
  rfl
set_option maxRecDepth 100000 in
set_option maxHeartbeats 100000 in
theorem eo_set_s0_r6 (xs : Nat → Int32)  (cz kz : Nat) : ∀ G : ez_F, fx_up (ev_x1 xs 0) 2 G 241 286 [ez_scr, .ref 0, .ref 35, .int 0] [.int 2, ez_scr, .int 0, .ref 0] (ev_hp ev_I0 ev_J0 ev_R0 []) cz kz = ev_C G 42 [.ref 0, .int 0, .int (xs 2)] (ev_hp ev_I0 ev_J0 ev_R0 []) fun r h1 c1 k1 => G 241 290 [ez_scr, .ref 0, .ref 35, .int 0] (r.toList ++ []) h1 (cz + c1) (kz + k1) := by
  intro G
  rfl
set_option maxRecDepth 100000 in
set_option maxHeartbeats 100000 in
theorem eo_set_s0_r7 (xs : Nat → Int32)  (cz kz : Nat) : ∀ G : ez_F, fx_up (ev_x1 xs 0) 2 G 241 290 [ez_scr, .ref 0, .ref 35, .int 0] [.int (-3)] (ev_hp ev_I0 ev_J0 ev_R0 []) cz kz = G 241 292 [ez_scr, .ref 0, .ref 35, .int 0] [ez_scr, .ref 35, .int (-3)] (ev_hp ev_I0 ev_J0 ev_R0 []) cz kz := by
  intro G
  rfl
set_option maxRecDepth 100000 in
set_option maxHeartbeats 100000 in
theorem eo_set_s0_r8 (xs : Nat → Int32)  (cz kz : Nat) : ∀ G : ez_F, fx_up (ev_x1 xs 0) 2 G 241 292 [ez_scr, .ref 0, .ref 35, .int 0] [ez_scr, .ref 35, .int (-3)] (ev_hp ev_I0 ev_J0 ev_R0 []) cz kz = G 241 294 [ez_scr, .ref 0, .ref 35, .int 0] [.int 1, .int 0, ez_scr, .ref 35, .int (-3)] (ev_hp ev_I0 ev_J0 ev_R0 []) cz kz := by
  intro G
  rfl
set_option maxRecDepth 100000 in
set_option maxHeartbeats 100000 in
theorem eo_set_s0_r9 (xs : Nat → Int32)  (cz kz : Nat) : ∀ G : ez_F, fx_up (ev_x1 xs 0) 2 G 241 294 [ez_scr, .ref 0, .ref 35, .int 0] [.int 1, .int 0, ez_scr, .ref 35, .int (-3)] (ev_hp ev_I0 ev_J0 ev_R0 []) cz kz = G 241 296 [ez_scr, .ref 0, .ref 35, .int 0] [.int 0, .ref 35, .int (-3)] (ev_hp ev_I0 ev_J0 ev_R0 []) cz kz := by
  intro G
  rfl
set_option maxRecDepth 100000 in
set_option maxHeartbeats 100000 in
theorem eo_set_s0_r10 (xs : Nat → Int32)  (cz kz : Nat) : ∀ G : ez_F, fx_up (ev_x1 xs 0) 2 G 241 296 [ez_scr, .ref 0, .ref 35, .int 0] [.int 0, .ref 35, .int (-3)] (ev_hp ev_I0 ev_J0 ev_R0 []) cz kz = G 241 298 [ez_scr, .ref 0, .ref 35, .int 0] [.int 0, ez_scr, .int 0, .ref 35, .int (-3)] (ev_hp ev_I0 ev_J0 ev_R0 []) cz kz := by
  intro G
  rfl
set_option maxRecDepth 100000 in
set_option maxHeartbeats 100000 in
theorem eo_set_s0_r11 (xs : Nat → Int32)  (cz kz : Nat) : ∀ G : ez_F, fx_up (ev_x1 xs 0) 2 G 241 298 [ez_scr, .ref 0, .ref 35, .int 0] [.int 0, ez_scr, .int 0, .ref 35, .int (-3)] (ev_hp ev_I0 ev_J0 ev_R0 []) cz kz = G 241 300 [ez_scr, .ref 0, .ref 35, .int 0] [.int 2, ez_scr, .int 0, .ref 35, .int (-3)] (ev_hp ev_I0 ev_J0 ev_R0 []) cz kz := by
  intro G
  rfl
set_option maxRecDepth 100000 in
set_option maxHeartbeats 100000 in
theorem eo_set_s0_r12 (xs : Nat → Int32)  (cz kz : Nat) : ∀ G : ez_F, fx_up (ev_x1 xs 0) 2 G 241 300 [ez_scr, .ref 0, .ref 35, .int 0] [.int 2, ez_scr, .int 0, .ref 35, .int (-3)] (ev_hp ev_I0 ev_J0 ev_R0 []) cz kz = ev_C G 219 [.ref 35, .int 0, .int (xs 2)] (ev_hp ev_I0 ev_J0 ev_R0 []) fun r h1 c1 k1 => G 241 304 [ez_scr, .ref 0, .ref 35, .int 0] (r.toList ++ [.int (-3)]) h1 (cz + c1) (kz + k1) := by
  intro G
  rfl
set_option maxRecDepth 100000 in
set_option maxHeartbeats 100000 in
theorem eo_set_s0_r13 (xs : Nat → Int32)  (cz kz : Nat) : ∀ G : ez_F, fx_up (ev_x1 xs 0) 2 G 241 304 [ez_scr, .ref 0, .ref 35, .int 0] [.int (-3), .int (-3)] (ev_hp ev_I0 ev_J0 ev_R0 []) cz kz = G 241 1078 [ez_scr, .ref 0, .ref 35, .int 4] [] (ev_hp ev_I0 ev_J0 ev_R0 []) cz kz := by
  intro G
  rfl
set_option maxRecDepth 100000 in
set_option maxHeartbeats 100000 in
theorem eo_set_s0_r14 (xs : Nat → Int32)  (cz kz : Nat) : ∀ G : ez_F, fx_up (ev_x1 xs 0) 2 G 241 1078 [ez_scr, .ref 0, .ref 35, .int 4] [] (ev_hp ev_I0 ev_J0 ev_R0 []) cz kz = G 241 19 [ez_scr, .ref 0, .ref 35, .int 4] [.int 4] (ev_hp ev_I0 ev_J0 ev_R0 []) cz kz := by
  intro G
  rfl
set_option maxRecDepth 100000 in
set_option maxHeartbeats 100000 in
theorem eo_set_s0_r15 (xs : Nat → Int32)  (cz kz : Nat) : ∀ G : ez_F, fx_up (ev_x1 xs 0) 2 G 241 19 [ez_scr, .ref 0, .ref 35, .int 4] [.int 4] (ev_hp ev_I0 ev_J0 ev_R0 []) cz kz = G 241 21 [ez_scr, .ref 0, .ref 35, .int 4] [.int 4, .int 4] (ev_hp ev_I0 ev_J0 ev_R0 []) cz kz := by
  intro G
  rfl
set_option maxRecDepth 100000 in
set_option maxHeartbeats 100000 in
theorem eo_set_s0_r16 (xs : Nat → Int32)  (cz kz : Nat) : ∀ G : ez_F, fx_up (ev_x1 xs 0) 2 G 241 21 [ez_scr, .ref 0, .ref 35, .int 4] [.int 4, .int 4] (ev_hp ev_I0 ev_J0 ev_R0 []) cz kz = G 241 23 [ez_scr, .ref 0, .ref 35, .int 4] [.int 0, .int 4] (ev_hp ev_I0 ev_J0 ev_R0 []) cz kz := by
  intro G
  rfl
set_option maxRecDepth 100000 in
set_option maxHeartbeats 100000 in
theorem eo_set_s0_r17 (xs : Nat → Int32)  (cz kz : Nat) : ∀ G : ez_F, fx_up (ev_x1 xs 0) 2 G 241 23 [ez_scr, .ref 0, .ref 35, .int 4] [.int 0, .int 4] (ev_hp ev_I0 ev_J0 ev_R0 []) cz kz = G 241 1082 [ez_scr, .ref 0, .ref 35, .int 4] [.int 1] (ev_hp ev_I0 ev_J0 ev_R0 []) cz kz := by
  intro G
  rfl
set_option maxRecDepth 100000 in
set_option maxHeartbeats 100000 in
theorem eo_set_s0_r18 (xs : Nat → Int32)  (cz kz : Nat) : ∀ G : ez_F, fx_up (ev_x1 xs 0) 1 G 241 1082 [ez_scr, .ref 0, .ref 35, .int 4] [.int 1] (ev_hp ev_I0 ev_J0 ev_R0 []) cz kz = some (some (.int 1), (ev_hp ev_I0 ev_J0 ev_R0 []), cz, kz) := by
  intro G
  rfl
theorem eo_set_s0 (xs : Nat → Int32) (hb : ev_wi (xs 2) 0 2 = 0) : ev_P1 (ev_x1 xs 0) 276 := by
  refine ev_seg (eo_set_s0_r1 xs  _ _) ?_
  refine ev_seg (eo_set_s0_r2 xs  _ _) ?_
  refine ev_seg (eo_set_s0_r3 xs  _ _) ?_
  refine ev_seg (eo_set_s0_r4 xs  _ _) ?_
  refine ev_seg (eo_set_s0_r5 xs  _ _) ?_
  refine ev_call (eo_set_s0_r6 xs  _ _) (ef_set_s0 (ev_x1 xs 0) ev_I0 ev_J0 ev_R0 [] (xs 2) hb) ?_
  rintro r0 _ _ _ (⟨d93, d94, rfl, rfl, rfl, rfl⟩)
  refine ev_seg (eo_set_s0_r7 xs  _ _) ?_
  refine ev_seg (eo_set_s0_r8 xs  _ _) ?_
  refine ev_seg (eo_set_s0_r9 xs  _ _) ?_
  refine ev_seg (eo_set_s0_r10 xs  _ _) ?_
  refine ev_seg (eo_set_s0_r11 xs  _ _) ?_
  refine ev_call (eo_set_s0_r12 xs  _ _) (eh_set_s0 (ev_x1 xs 0) ev_I0 ev_J0 ev_R0 [] (xs 2) hb) ?_
  rintro r0 _ _ _ (⟨d95, rfl, rfl, rfl, rfl⟩)
  refine ev_seg (eo_set_s0_r13 xs  _ _) ?_
  refine ev_seg (eo_set_s0_r14 xs  _ _) ?_
  refine ev_seg (eo_set_s0_r15 xs  _ _) ?_
  refine ev_seg (eo_set_s0_r16 xs  _ _) ?_
  refine ev_seg (eo_set_s0_r17 xs  _ _) ?_
  refine ev_ret (eo_set_s0_r18 xs  _ _) ?_
  exact ⟨rfl, by omega, by omega⟩
set_option maxRecDepth 100000 in
set_option maxHeartbeats 100000 in
theorem ef_set_s1_r1 (X : ez_X) (I : Nat → Nat → Int32) (J : Nat → Nat → Int64) (R : Nat → Nat) (T : List ez_C) (b : Int32) (cz kz : Nat) : ∀ G : ez_F, fx_up X 4 G 42 0 [.ref 0, .int 1, .int b] [] (ev_hp ev_I0 ev_J0 ev_R0 []) cz kz = ev_C G 55 [.int 1, .int 0, .int 2] (ev_hp ev_I0 ev_J0 ev_R0 []) fun r h1 c1 k1 => G 42 6 [.ref 0, .int 1, .int b] (r.toList ++ []) h1 (cz + c1) (kz + k1) := by
  intro G
  rfl
set_option maxRecDepth 100000 in
set_option maxHeartbeats 100000 in
theorem ef_set_s1_r2 (X : ez_X) (I : Nat → Nat → Int32) (J : Nat → Nat → Int64) (R : Nat → Nat) (T : List ez_C) (b : Int32) (q130 : Int32) (cz kz : Nat) : ∀ G : ez_F, fx_up X 1 G 42 6 [.ref 0, .int 1, .int b] [.int q130] (ev_hp ev_I0 ev_J0 ev_R0 []) cz kz = bif decide (q130 = 0) then G 42 27 [.ref 0, .int 1, .int b] [] (ev_hp ev_I0 ev_J0 ev_R0 []) cz kz else G 42 9 [.ref 0, .int 1, .int b] [] (ev_hp ev_I0 ev_J0 ev_R0 []) cz kz := by
  intro G
  rfl
set_option maxRecDepth 100000 in
set_option maxHeartbeats 100000 in
theorem ef_set_s1_r3 (X : ez_X) (I : Nat → Nat → Int32) (J : Nat → Nat → Int64) (R : Nat → Nat) (T : List ez_C) (b : Int32) (q130 : Int32) (cz kz : Nat) : ∀ G : ez_F, fx_up X 8 G 42 9 [.ref 0, .int 1, .int b] [] (ev_hp ev_I0 ev_J0 ev_R0 []) cz kz = ev_C G 55 [.int b, .int 0, .int 1] (ev_hp ev_I0 ev_J0 ev_R0 []) fun r h1 c1 k1 => G 42 24 [.ref 0, .int 1, .int b] (r.toList ++ []) h1 (cz + c1) (kz + k1) := by
  intro G
  rfl
set_option maxRecDepth 100000 in
set_option maxHeartbeats 100000 in
theorem ef_set_s1_r4 (X : ez_X) (I : Nat → Nat → Int32) (J : Nat → Nat → Int64) (R : Nat → Nat) (T : List ez_C) (b : Int32) (q130 : Int32) (q131 : Int32) (cz kz : Nat) : ∀ G : ez_F, fx_up X 1 G 42 24 [.ref 0, .int 1, .int b] [.int q131] (ev_hp ev_I0 ev_J0 ev_R0 []) cz kz = bif decide (¬ q131 = 0) then G 42 30 [.ref 0, .int 1, .int b] [] (ev_hp ev_I0 ev_J0 ev_R0 []) cz kz else G 42 27 [.ref 0, .int 1, .int b] [] (ev_hp ev_I0 ev_J0 ev_R0 []) cz kz := by
  intro G
  rfl
set_option maxRecDepth 100000 in
set_option maxHeartbeats 100000 in
theorem ef_set_s1_r5 (X : ez_X) (I : Nat → Nat → Int32) (J : Nat → Nat → Int64) (R : Nat → Nat) (T : List ez_C) (b : Int32) (q130 : Int32) (q131 : Int32) (cz kz : Nat) : ∀ G : ez_F, fx_up X 2 G 42 27 [.ref 0, .int 1, .int b] [] (ev_hp ev_I0 ev_J0 ev_R0 []) cz kz = some (some (.int (-3)), (ev_hp ev_I0 ev_J0 ev_R0 []), cz, kz) := by
  intro G
  rfl
theorem ef_set_s1 (X : ez_X) (I : Nat → Nat → Int32) (J : Nat → Nat → Int64) (R : Nat → Nat) (T : List ez_C) (b : Int32) (hb : ev_wi b 0 1 = 0) : ev_W X 42 0 (ez_lay [.ref 0, .int 1, .int b]) [] (ev_hp ev_I0 ev_J0 ev_R0 []) 0 0 (fun r h1 c1 k1 => ((¬ (((ev_wi 1 0 2)) = 0)) ∧ (¬ (¬ ((ev_wi b 0 1)) = 0)) ∧ r = some (.int (-3)) ∧ h1 = (ev_hp ev_I0 ev_J0 ev_R0 []) ∧ c1 = 0 ∧ k1 = 0)) := by
  refine ev_call (ef_set_s1_r1 X I J R T b _ _) (ec_within X (ev_hp ev_I0 ev_J0 ev_R0 []) 1 0 2) ?_
  rintro _ _ _ _ ⟨rfl, rfl, rfl, rfl⟩
  generalize hq130 : (ev_wi 1 0 2) = q130
  refine ev_if (ef_set_s1_r2 X I J R T b q130 _ _) (fun b1 => ?_) (fun b1 => ?_)
  · replace b1 := of_decide_eq_true b1
    exact absurd (hq130.trans b1) (by decide)
  · replace b1 := of_decide_eq_false b1
    refine ev_call (ef_set_s1_r3 X I J R T b q130 _ _) (ec_within X (ev_hp ev_I0 ev_J0 ev_R0 []) b 0 1) ?_
    rintro _ _ _ _ ⟨rfl, rfl, rfl, rfl⟩
    generalize hq131 : (ev_wi b 0 1) = q131
    refine ev_if (ef_set_s1_r4 X I J R T b q130 q131 _ _) (fun b2 => ?_) (fun b2 => ?_)
    · replace b2 := of_decide_eq_true b2
      exact (b2 (by rw [← hq131]; exact hb)).elim
    · replace b2 := of_decide_eq_false b2
      refine ev_ret (ef_set_s1_r5 X I J R T b q130 q131 _ _) ?_
      subst hq131
      subst hq130
      exact ⟨b1, b2, rfl, rfl, rfl, rfl⟩
set_option maxRecDepth 100000 in
set_option maxHeartbeats 100000 in
theorem eh_set_s1_r1 (X : ez_X) (I : Nat → Nat → Int32) (J : Nat → Nat → Int64) (R : Nat → Nat) (T : List ez_C) (b : Int32) (cz kz : Nat) : ∀ G : ez_F, fx_up X 10 G 219 0 [.ref 35, .int 1, .int b] [] (ev_hp ev_I0 ev_J0 ev_R0 []) cz kz = ev_C G 198 [.long (b.toInt64), .long 0, .long 1] (ev_hp ev_I0 ev_J0 ev_R0 []) fun r h1 c1 k1 => G 219 40 [.ref 35, .int 1, .int b] (r.toList ++ []) h1 (cz + c1) (kz + k1) := by
  intro G
  rfl
set_option maxRecDepth 100000 in
set_option maxHeartbeats 100000 in
theorem eh_set_s1_r2 (X : ez_X) (I : Nat → Nat → Int32) (J : Nat → Nat → Int64) (R : Nat → Nat) (T : List ez_C) (b : Int32) (q132 : Int32) (cz kz : Nat) : ∀ G : ez_F, fx_up X 1 G 219 40 [.ref 35, .int 1, .int b] [.int q132] (ev_hp ev_I0 ev_J0 ev_R0 []) cz kz = bif decide (q132 = 0) then G 219 55 [.ref 35, .int 1, .int b] [] (ev_hp ev_I0 ev_J0 ev_R0 []) cz kz else G 219 43 [.ref 35, .int 1, .int b] [] (ev_hp ev_I0 ev_J0 ev_R0 []) cz kz := by
  intro G
  rfl
set_option maxRecDepth 100000 in
set_option maxHeartbeats 100000 in
theorem eh_set_s1_r3 (X : ez_X) (I : Nat → Nat → Int32) (J : Nat → Nat → Int64) (R : Nat → Nat) (T : List ez_C) (b : Int32) (q132 : Int32) (cz kz : Nat) : ∀ G : ez_F, fx_up X 5 G 219 55 [.ref 35, .int 1, .int b] [] (ev_hp ev_I0 ev_J0 ev_R0 []) cz kz = some (some (.int (-3)), (ev_hp ev_I0 ev_J0 ev_R0 []), cz, kz) := by
  intro G
  rfl
theorem eh_set_s1 (X : ez_X) (I : Nat → Nat → Int32) (J : Nat → Nat → Int64) (R : Nat → Nat) (T : List ez_C) (b : Int32) (hb : ev_wi b 0 1 = 0) : ev_W X 219 0 (ez_lay [.ref 35, .int 1, .int b]) [] (ev_hp ev_I0 ev_J0 ev_R0 []) 0 0 (fun r h1 c1 k1 => ((((ev_il (b.toInt64) 0 1)) = 0) ∧ r = some (.int (-3)) ∧ h1 = (ev_hp ev_I0 ev_J0 ev_R0 []) ∧ c1 = 0 ∧ k1 = 0)) := by
  refine ev_call (eh_set_s1_r1 X I J R T b _ _) (ec_in X (ev_hp ev_I0 ev_J0 ev_R0 []) (b.toInt64) 0 1) ?_
  rintro _ _ _ _ ⟨rfl, rfl, rfl, rfl⟩
  generalize hq132 : (ev_il (b.toInt64) 0 1) = q132
  refine ev_if (eh_set_s1_r2 X I J R T b q132 _ _) (fun b1 => ?_) (fun b1 => ?_)
  · replace b1 := of_decide_eq_true b1
    refine ev_ret (eh_set_s1_r3 X I J R T b q132 _ _) ?_
    subst hq132
    exact ⟨b1, rfl, rfl, rfl, rfl⟩
  · replace b1 := of_decide_eq_false b1
    exact (b1 (by rw [← hq132]; exact ((ev_il_wi b 0 1).trans hb))).elim
set_option maxRecDepth 100000 in
set_option maxHeartbeats 100000 in
theorem eo_set_s1_r1 (xs : Nat → Int32)  (cz kz : Nat) : ∀ G : ez_F, fx_up (ev_x1 xs 1) 2 G 241 276 [ez_scr, .ref 0, .ref 35, .int 0] [] (ev_hp ev_I0 ev_J0 ev_R0 []) cz kz = G 241 278 [ez_scr, .ref 0, .ref 35, .int 0] [ez_scr, .ref 0] (ev_hp ev_I0 ev_J0 ev_R0 []) cz kz := by
  intro G
  rfl
set_option maxRecDepth 100000 in
set_option maxHeartbeats 100000 in
theorem eo_set_s1_r2 (xs : Nat → Int32)  (cz kz : Nat) : ∀ G : ez_F, fx_up (ev_x1 xs 1) 2 G 241 278 [ez_scr, .ref 0, .ref 35, .int 0] [ez_scr, .ref 0] (ev_hp ev_I0 ev_J0 ev_R0 []) cz kz = G 241 280 [ez_scr, .ref 0, .ref 35, .int 0] [.int 1, .int 0, ez_scr, .ref 0] (ev_hp ev_I0 ev_J0 ev_R0 []) cz kz := by
  intro G
  rfl
set_option maxRecDepth 100000 in
set_option maxHeartbeats 100000 in
theorem eo_set_s1_r3 (xs : Nat → Int32)  (cz kz : Nat) : ∀ G : ez_F, fx_up (ev_x1 xs 1) 2 G 241 280 [ez_scr, .ref 0, .ref 35, .int 0] [.int 1, .int 0, ez_scr, .ref 0] (ev_hp ev_I0 ev_J0 ev_R0 []) cz kz = G 241 282 [ez_scr, .ref 0, .ref 35, .int 0] [.int 1, .ref 0] (ev_hp ev_I0 ev_J0 ev_R0 []) cz kz := by
  intro G
  rfl
set_option maxRecDepth 100000 in
set_option maxHeartbeats 100000 in
theorem eo_set_s1_r4 (xs : Nat → Int32)  (cz kz : Nat) : ∀ G : ez_F, fx_up (ev_x1 xs 1) 2 G 241 282 [ez_scr, .ref 0, .ref 35, .int 0] [.int 1, .ref 0] (ev_hp ev_I0 ev_J0 ev_R0 []) cz kz = G 241 284 [ez_scr, .ref 0, .ref 35, .int 0] [.int 0, ez_scr, .int 1, .ref 0] (ev_hp ev_I0 ev_J0 ev_R0 []) cz kz := by
  intro G
  rfl
set_option maxRecDepth 100000 in
set_option maxHeartbeats 100000 in
theorem eo_set_s1_r5 (xs : Nat → Int32)  (cz kz : Nat) : ∀ G : ez_F, fx_up (ev_x1 xs 1) 2 G 241 284 [ez_scr, .ref 0, .ref 35, .int 0] [.int 0, ez_scr, .int 1, .ref 0] (ev_hp ev_I0 ev_J0 ev_R0 []) cz kz = G 241 286 [ez_scr, .ref 0, .ref 35, .int 0] [.int 2, ez_scr, .int 1, .ref 0] (ev_hp ev_I0 ev_J0 ev_R0 []) cz kz := by
  intro G
  rfl
set_option maxRecDepth 100000 in
set_option maxHeartbeats 100000 in
theorem eo_set_s1_r6 (xs : Nat → Int32)  (cz kz : Nat) : ∀ G : ez_F, fx_up (ev_x1 xs 1) 2 G 241 286 [ez_scr, .ref 0, .ref 35, .int 0] [.int 2, ez_scr, .int 1, .ref 0] (ev_hp ev_I0 ev_J0 ev_R0 []) cz kz = ev_C G 42 [.ref 0, .int 1, .int (xs 2)] (ev_hp ev_I0 ev_J0 ev_R0 []) fun r h1 c1 k1 => G 241 290 [ez_scr, .ref 0, .ref 35, .int 0] (r.toList ++ []) h1 (cz + c1) (kz + k1) := by
  intro G
  rfl
set_option maxRecDepth 100000 in
set_option maxHeartbeats 100000 in
theorem eo_set_s1_r7 (xs : Nat → Int32)  (cz kz : Nat) : ∀ G : ez_F, fx_up (ev_x1 xs 1) 2 G 241 290 [ez_scr, .ref 0, .ref 35, .int 0] [.int (-3)] (ev_hp ev_I0 ev_J0 ev_R0 []) cz kz = G 241 292 [ez_scr, .ref 0, .ref 35, .int 0] [ez_scr, .ref 35, .int (-3)] (ev_hp ev_I0 ev_J0 ev_R0 []) cz kz := by
  intro G
  rfl
set_option maxRecDepth 100000 in
set_option maxHeartbeats 100000 in
theorem eo_set_s1_r8 (xs : Nat → Int32)  (cz kz : Nat) : ∀ G : ez_F, fx_up (ev_x1 xs 1) 2 G 241 292 [ez_scr, .ref 0, .ref 35, .int 0] [ez_scr, .ref 35, .int (-3)] (ev_hp ev_I0 ev_J0 ev_R0 []) cz kz = G 241 294 [ez_scr, .ref 0, .ref 35, .int 0] [.int 1, .int 0, ez_scr, .ref 35, .int (-3)] (ev_hp ev_I0 ev_J0 ev_R0 []) cz kz := by
  intro G
  rfl
set_option maxRecDepth 100000 in
set_option maxHeartbeats 100000 in
theorem eo_set_s1_r9 (xs : Nat → Int32)  (cz kz : Nat) : ∀ G : ez_F, fx_up (ev_x1 xs 1) 2 G 241 294 [ez_scr, .ref 0, .ref 35, .int 0] [.int 1, .int 0, ez_scr, .ref 35, .int (-3)] (ev_hp ev_I0 ev_J0 ev_R0 []) cz kz = G 241 296 [ez_scr, .ref 0, .ref 35, .int 0] [.int 1, .ref 35, .int (-3)] (ev_hp ev_I0 ev_J0 ev_R0 []) cz kz := by
  intro G
  rfl
set_option maxRecDepth 100000 in
set_option maxHeartbeats 100000 in
theorem eo_set_s1_r10 (xs : Nat → Int32)  (cz kz : Nat) : ∀ G : ez_F, fx_up (ev_x1 xs 1) 2 G 241 296 [ez_scr, .ref 0, .ref 35, .int 0] [.int 1, .ref 35, .int (-3)] (ev_hp ev_I0 ev_J0 ev_R0 []) cz kz = G 241 298 [ez_scr, .ref 0, .ref 35, .int 0] [.int 0, ez_scr, .int 1, .ref 35, .int (-3)] (ev_hp ev_I0 ev_J0 ev_R0 []) cz kz := by
  intro G
  rfl
set_option maxRecDepth 100000 in
set_option maxHeartbeats 100000 in
theorem eo_set_s1_r11 (xs : Nat → Int32)  (cz kz : Nat) : ∀ G : ez_F, fx_up (ev_x1 xs 1) 2 G 241 298 [ez_scr, .ref 0, .ref 35, .int 0] [.int 0, ez_scr, .int 1, .ref 35, .int (-3)] (ev_hp ev_I0 ev_J0 ev_R0 []) cz kz = G 241 300 [ez_scr, .ref 0, .ref 35, .int 0] [.int 2, ez_scr, .int 1, .ref 35, .int (-3)] (ev_hp ev_I0 ev_J0 ev_R0 []) cz kz := by
  intro G
  rfl
set_option maxRecDepth 100000 in
set_option maxHeartbeats 100000 in
theorem eo_set_s1_r12 (xs : Nat → Int32)  (cz kz : Nat) : ∀ G : ez_F, fx_up (ev_x1 xs 1) 2 G 241 300 [ez_scr, .ref 0, .ref 35, .int 0] [.int 2, ez_scr, .int 1, .ref 35, .int (-3)] (ev_hp ev_I0 ev_J0 ev_R0 []) cz kz = ev_C G 219 [.ref 35, .int 1, .int (xs 2)] (ev_hp ev_I0 ev_J0 ev_R0 []) fun r h1 c1 k1 => G 241 304 [ez_scr, .ref 0, .ref 35, .int 0] (r.toList ++ [.int (-3)]) h1 (cz + c1) (kz + k1) := by
  intro G
  rfl
set_option maxRecDepth 100000 in
set_option maxHeartbeats 100000 in
theorem eo_set_s1_r13 (xs : Nat → Int32)  (cz kz : Nat) : ∀ G : ez_F, fx_up (ev_x1 xs 1) 2 G 241 304 [ez_scr, .ref 0, .ref 35, .int 0] [.int (-3), .int (-3)] (ev_hp ev_I0 ev_J0 ev_R0 []) cz kz = G 241 1078 [ez_scr, .ref 0, .ref 35, .int 4] [] (ev_hp ev_I0 ev_J0 ev_R0 []) cz kz := by
  intro G
  rfl
set_option maxRecDepth 100000 in
set_option maxHeartbeats 100000 in
theorem eo_set_s1_r14 (xs : Nat → Int32)  (cz kz : Nat) : ∀ G : ez_F, fx_up (ev_x1 xs 1) 2 G 241 1078 [ez_scr, .ref 0, .ref 35, .int 4] [] (ev_hp ev_I0 ev_J0 ev_R0 []) cz kz = G 241 19 [ez_scr, .ref 0, .ref 35, .int 4] [.int 4] (ev_hp ev_I0 ev_J0 ev_R0 []) cz kz := by
  intro G
  rfl
set_option maxRecDepth 100000 in
set_option maxHeartbeats 100000 in
theorem eo_set_s1_r15 (xs : Nat → Int32)  (cz kz : Nat) : ∀ G : ez_F, fx_up (ev_x1 xs 1) 2 G 241 19 [ez_scr, .ref 0, .ref 35, .int 4] [.int 4] (ev_hp ev_I0 ev_J0 ev_R0 []) cz kz = G 241 21 [ez_scr, .ref 0, .ref 35, .int 4] [.int 4, .int 4] (ev_hp ev_I0 ev_J0 ev_R0 []) cz kz := by
  intro G
  rfl
set_option maxRecDepth 100000 in
set_option maxHeartbeats 100000 in
theorem eo_set_s1_r16 (xs : Nat → Int32)  (cz kz : Nat) : ∀ G : ez_F, fx_up (ev_x1 xs 1) 2 G 241 21 [ez_scr, .ref 0, .ref 35, .int 4] [.int 4, .int 4] (ev_hp ev_I0 ev_J0 ev_R0 []) cz kz = G 241 23 [ez_scr, .ref 0, .ref 35, .int 4] [.int 0, .int 4] (ev_hp ev_I0 ev_J0 ev_R0 []) cz kz := by
  intro G
  rfl
set_option maxRecDepth 100000 in
set_option maxHeartbeats 100000 in
theorem eo_set_s1_r17 (xs : Nat → Int32)  (cz kz : Nat) : ∀ G : ez_F, fx_up (ev_x1 xs 1) 2 G 241 23 [ez_scr, .ref 0, .ref 35, .int 4] [.int 0, .int 4] (ev_hp ev_I0 ev_J0 ev_R0 []) cz kz = G 241 1082 [ez_scr, .ref 0, .ref 35, .int 4] [.int 1] (ev_hp ev_I0 ev_J0 ev_R0 []) cz kz := by
  intro G
  rfl
set_option maxRecDepth 100000 in
set_option maxHeartbeats 100000 in
theorem eo_set_s1_r18 (xs : Nat → Int32)  (cz kz : Nat) : ∀ G : ez_F, fx_up (ev_x1 xs 1) 1 G 241 1082 [ez_scr, .ref 0, .ref 35, .int 4] [.int 1] (ev_hp ev_I0 ev_J0 ev_R0 []) cz kz = some (some (.int 1), (ev_hp ev_I0 ev_J0 ev_R0 []), cz, kz) := by
  intro G
  rfl
theorem eo_set_s1 (xs : Nat → Int32) (hb : ev_wi (xs 2) 0 1 = 0) : ev_P1 (ev_x1 xs 1) 276 := by
  refine ev_seg (eo_set_s1_r1 xs  _ _) ?_
  refine ev_seg (eo_set_s1_r2 xs  _ _) ?_
  refine ev_seg (eo_set_s1_r3 xs  _ _) ?_
  refine ev_seg (eo_set_s1_r4 xs  _ _) ?_
  refine ev_seg (eo_set_s1_r5 xs  _ _) ?_
  refine ev_call (eo_set_s1_r6 xs  _ _) (ef_set_s1 (ev_x1 xs 1) ev_I0 ev_J0 ev_R0 [] (xs 2) hb) ?_
  rintro r0 _ _ _ (⟨d96, d97, rfl, rfl, rfl, rfl⟩)
  refine ev_seg (eo_set_s1_r7 xs  _ _) ?_
  refine ev_seg (eo_set_s1_r8 xs  _ _) ?_
  refine ev_seg (eo_set_s1_r9 xs  _ _) ?_
  refine ev_seg (eo_set_s1_r10 xs  _ _) ?_
  refine ev_seg (eo_set_s1_r11 xs  _ _) ?_
  refine ev_call (eo_set_s1_r12 xs  _ _) (eh_set_s1 (ev_x1 xs 1) ev_I0 ev_J0 ev_R0 [] (xs 2) hb) ?_
  rintro r0 _ _ _ (⟨d98, rfl, rfl, rfl, rfl⟩)
  refine ev_seg (eo_set_s1_r13 xs  _ _) ?_
  refine ev_seg (eo_set_s1_r14 xs  _ _) ?_
  refine ev_seg (eo_set_s1_r15 xs  _ _) ?_
  refine ev_seg (eo_set_s1_r16 xs  _ _) ?_
  refine ev_seg (eo_set_s1_r17 xs  _ _) ?_
  refine ev_ret (eo_set_s1_r18 xs  _ _) ?_
  exact ⟨rfl, by omega, by omega⟩
set_option maxRecDepth 100000 in
set_option maxHeartbeats 100000 in
theorem ef_set_s2_r1 (X : ez_X) (I : Nat → Nat → Int32) (J : Nat → Nat → Int64) (R : Nat → Nat) (T : List ez_C) (b : Int32) (cz kz : Nat) : ∀ G : ez_F, fx_up X 4 G 42 0 [.ref 0, .int 2, .int b] [] (ev_hp ev_I0 ev_J0 ev_R0 []) cz kz = ev_C G 55 [.int 2, .int 0, .int 2] (ev_hp ev_I0 ev_J0 ev_R0 []) fun r h1 c1 k1 => G 42 6 [.ref 0, .int 2, .int b] (r.toList ++ []) h1 (cz + c1) (kz + k1) := by
  intro G
  rfl
set_option maxRecDepth 100000 in
set_option maxHeartbeats 100000 in
theorem ef_set_s2_r2 (X : ez_X) (I : Nat → Nat → Int32) (J : Nat → Nat → Int64) (R : Nat → Nat) (T : List ez_C) (b : Int32) (q133 : Int32) (cz kz : Nat) : ∀ G : ez_F, fx_up X 1 G 42 6 [.ref 0, .int 2, .int b] [.int q133] (ev_hp ev_I0 ev_J0 ev_R0 []) cz kz = bif decide (q133 = 0) then G 42 27 [.ref 0, .int 2, .int b] [] (ev_hp ev_I0 ev_J0 ev_R0 []) cz kz else G 42 9 [.ref 0, .int 2, .int b] [] (ev_hp ev_I0 ev_J0 ev_R0 []) cz kz := by
  intro G
  rfl
set_option maxRecDepth 100000 in
set_option maxHeartbeats 100000 in
theorem ef_set_s2_r3 (X : ez_X) (I : Nat → Nat → Int32) (J : Nat → Nat → Int64) (R : Nat → Nat) (T : List ez_C) (b : Int32) (q133 : Int32) (cz kz : Nat) : ∀ G : ez_F, fx_up X 7 G 42 9 [.ref 0, .int 2, .int b] [] (ev_hp ev_I0 ev_J0 ev_R0 []) cz kz = ev_C G 55 [.int b, .int 0, .int 2] (ev_hp ev_I0 ev_J0 ev_R0 []) fun r h1 c1 k1 => G 42 24 [.ref 0, .int 2, .int b] (r.toList ++ []) h1 (cz + c1) (kz + k1) := by
  intro G
  rfl
set_option maxRecDepth 100000 in
set_option maxHeartbeats 100000 in
theorem ef_set_s2_r4 (X : ez_X) (I : Nat → Nat → Int32) (J : Nat → Nat → Int64) (R : Nat → Nat) (T : List ez_C) (b : Int32) (q133 : Int32) (q134 : Int32) (cz kz : Nat) : ∀ G : ez_F, fx_up X 1 G 42 24 [.ref 0, .int 2, .int b] [.int q134] (ev_hp ev_I0 ev_J0 ev_R0 []) cz kz = bif decide (¬ q134 = 0) then G 42 30 [.ref 0, .int 2, .int b] [] (ev_hp ev_I0 ev_J0 ev_R0 []) cz kz else G 42 27 [.ref 0, .int 2, .int b] [] (ev_hp ev_I0 ev_J0 ev_R0 []) cz kz := by
  intro G
  rfl
set_option maxRecDepth 100000 in
set_option maxHeartbeats 100000 in
theorem ef_set_s2_r5 (X : ez_X) (I : Nat → Nat → Int32) (J : Nat → Nat → Int64) (R : Nat → Nat) (T : List ez_C) (b : Int32) (q133 : Int32) (q134 : Int32) (cz kz : Nat) : ∀ G : ez_F, fx_up X 2 G 42 27 [.ref 0, .int 2, .int b] [] (ev_hp ev_I0 ev_J0 ev_R0 []) cz kz = some (some (.int (-3)), (ev_hp ev_I0 ev_J0 ev_R0 []), cz, kz) := by
  intro G
  rfl
theorem ef_set_s2 (X : ez_X) (I : Nat → Nat → Int32) (J : Nat → Nat → Int64) (R : Nat → Nat) (T : List ez_C) (b : Int32) (hb : ev_wi b 0 2 = 0) : ev_W X 42 0 (ez_lay [.ref 0, .int 2, .int b]) [] (ev_hp ev_I0 ev_J0 ev_R0 []) 0 0 (fun r h1 c1 k1 => ((¬ (((ev_wi 2 0 2)) = 0)) ∧ (¬ (¬ ((ev_wi b 0 2)) = 0)) ∧ r = some (.int (-3)) ∧ h1 = (ev_hp ev_I0 ev_J0 ev_R0 []) ∧ c1 = 0 ∧ k1 = 0)) := by
  refine ev_call (ef_set_s2_r1 X I J R T b _ _) (ec_within X (ev_hp ev_I0 ev_J0 ev_R0 []) 2 0 2) ?_
  rintro _ _ _ _ ⟨rfl, rfl, rfl, rfl⟩
  generalize hq133 : (ev_wi 2 0 2) = q133
  refine ev_if (ef_set_s2_r2 X I J R T b q133 _ _) (fun b1 => ?_) (fun b1 => ?_)
  · replace b1 := of_decide_eq_true b1
    exact absurd (hq133.trans b1) (by decide)
  · replace b1 := of_decide_eq_false b1
    refine ev_call (ef_set_s2_r3 X I J R T b q133 _ _) (ec_within X (ev_hp ev_I0 ev_J0 ev_R0 []) b 0 2) ?_
    rintro _ _ _ _ ⟨rfl, rfl, rfl, rfl⟩
    generalize hq134 : (ev_wi b 0 2) = q134
    refine ev_if (ef_set_s2_r4 X I J R T b q133 q134 _ _) (fun b2 => ?_) (fun b2 => ?_)
    · replace b2 := of_decide_eq_true b2
      exact (b2 (by rw [← hq134]; exact hb)).elim
    · replace b2 := of_decide_eq_false b2
      refine ev_ret (ef_set_s2_r5 X I J R T b q133 q134 _ _) ?_
      subst hq134
      subst hq133
      exact ⟨b1, b2, rfl, rfl, rfl, rfl⟩
set_option maxRecDepth 100000 in
set_option maxHeartbeats 100000 in
theorem eh_set_s2_r1 (X : ez_X) (I : Nat → Nat → Int32) (J : Nat → Nat → Int64) (R : Nat → Nat) (T : List ez_C) (b : Int32) (cz kz : Nat) : ∀ G : ez_F, fx_up X 13 G 219 0 [.ref 35, .int 2, .int b] [] (ev_hp ev_I0 ev_J0 ev_R0 []) cz kz = ev_C G 198 [.long (b.toInt64), .long 0, .long 2] (ev_hp ev_I0 ev_J0 ev_R0 []) fun r h1 c1 k1 => G 219 69 [.ref 35, .int 2, .int b] (r.toList ++ []) h1 (cz + c1) (kz + k1) := by
  intro G
  rfl
set_option maxRecDepth 100000 in
set_option maxHeartbeats 100000 in
theorem eh_set_s2_r2 (X : ez_X) (I : Nat → Nat → Int32) (J : Nat → Nat → Int64) (R : Nat → Nat) (T : List ez_C) (b : Int32) (q135 : Int32) (cz kz : Nat) : ∀ G : ez_F, fx_up X 1 G 219 69 [.ref 35, .int 2, .int b] [.int q135] (ev_hp ev_I0 ev_J0 ev_R0 []) cz kz = bif decide (q135 = 0) then G 219 84 [.ref 35, .int 2, .int b] [] (ev_hp ev_I0 ev_J0 ev_R0 []) cz kz else G 219 72 [.ref 35, .int 2, .int b] [] (ev_hp ev_I0 ev_J0 ev_R0 []) cz kz := by
  intro G
  rfl
set_option maxRecDepth 100000 in
set_option maxHeartbeats 100000 in
theorem eh_set_s2_r3 (X : ez_X) (I : Nat → Nat → Int32) (J : Nat → Nat → Int64) (R : Nat → Nat) (T : List ez_C) (b : Int32) (q135 : Int32) (cz kz : Nat) : ∀ G : ez_F, fx_up X 2 G 219 84 [.ref 35, .int 2, .int b] [] (ev_hp ev_I0 ev_J0 ev_R0 []) cz kz = some (some (.int (-3)), (ev_hp ev_I0 ev_J0 ev_R0 []), cz, kz) := by
  intro G
  rfl
theorem eh_set_s2 (X : ez_X) (I : Nat → Nat → Int32) (J : Nat → Nat → Int64) (R : Nat → Nat) (T : List ez_C) (b : Int32) (hb : ev_wi b 0 2 = 0) : ev_W X 219 0 (ez_lay [.ref 35, .int 2, .int b]) [] (ev_hp ev_I0 ev_J0 ev_R0 []) 0 0 (fun r h1 c1 k1 => ((((ev_il (b.toInt64) 0 2)) = 0) ∧ r = some (.int (-3)) ∧ h1 = (ev_hp ev_I0 ev_J0 ev_R0 []) ∧ c1 = 0 ∧ k1 = 0)) := by
  refine ev_call (eh_set_s2_r1 X I J R T b _ _) (ec_in X (ev_hp ev_I0 ev_J0 ev_R0 []) (b.toInt64) 0 2) ?_
  rintro _ _ _ _ ⟨rfl, rfl, rfl, rfl⟩
  generalize hq135 : (ev_il (b.toInt64) 0 2) = q135
  refine ev_if (eh_set_s2_r2 X I J R T b q135 _ _) (fun b1 => ?_) (fun b1 => ?_)
  · replace b1 := of_decide_eq_true b1
    refine ev_ret (eh_set_s2_r3 X I J R T b q135 _ _) ?_
    subst hq135
    exact ⟨b1, rfl, rfl, rfl, rfl⟩
  · replace b1 := of_decide_eq_false b1
    exact (b1 (by rw [← hq135]; exact ((ev_il_wi b 0 2).trans hb))).elim
set_option maxRecDepth 100000 in
set_option maxHeartbeats 100000 in
theorem eo_set_s2_r1 (xs : Nat → Int32)  (cz kz : Nat) : ∀ G : ez_F, fx_up (ev_x1 xs 2) 2 G 241 276 [ez_scr, .ref 0, .ref 35, .int 0] [] (ev_hp ev_I0 ev_J0 ev_R0 []) cz kz = G 241 278 [ez_scr, .ref 0, .ref 35, .int 0] [ez_scr, .ref 0] (ev_hp ev_I0 ev_J0 ev_R0 []) cz kz := by
  intro G
  rfl
set_option maxRecDepth 100000 in
set_option maxHeartbeats 100000 in
theorem eo_set_s2_r2 (xs : Nat → Int32)  (cz kz : Nat) : ∀ G : ez_F, fx_up (ev_x1 xs 2) 2 G 241 278 [ez_scr, .ref 0, .ref 35, .int 0] [ez_scr, .ref 0] (ev_hp ev_I0 ev_J0 ev_R0 []) cz kz = G 241 280 [ez_scr, .ref 0, .ref 35, .int 0] [.int 1, .int 0, ez_scr, .ref 0] (ev_hp ev_I0 ev_J0 ev_R0 []) cz kz := by
  intro G
  rfl
set_option maxRecDepth 100000 in
set_option maxHeartbeats 100000 in
theorem eo_set_s2_r3 (xs : Nat → Int32)  (cz kz : Nat) : ∀ G : ez_F, fx_up (ev_x1 xs 2) 2 G 241 280 [ez_scr, .ref 0, .ref 35, .int 0] [.int 1, .int 0, ez_scr, .ref 0] (ev_hp ev_I0 ev_J0 ev_R0 []) cz kz = G 241 282 [ez_scr, .ref 0, .ref 35, .int 0] [.int 2, .ref 0] (ev_hp ev_I0 ev_J0 ev_R0 []) cz kz := by
  intro G
  rfl
set_option maxRecDepth 100000 in
set_option maxHeartbeats 100000 in
theorem eo_set_s2_r4 (xs : Nat → Int32)  (cz kz : Nat) : ∀ G : ez_F, fx_up (ev_x1 xs 2) 2 G 241 282 [ez_scr, .ref 0, .ref 35, .int 0] [.int 2, .ref 0] (ev_hp ev_I0 ev_J0 ev_R0 []) cz kz = G 241 284 [ez_scr, .ref 0, .ref 35, .int 0] [.int 0, ez_scr, .int 2, .ref 0] (ev_hp ev_I0 ev_J0 ev_R0 []) cz kz := by
  intro G
  rfl
set_option maxRecDepth 100000 in
set_option maxHeartbeats 100000 in
theorem eo_set_s2_r5 (xs : Nat → Int32)  (cz kz : Nat) : ∀ G : ez_F, fx_up (ev_x1 xs 2) 2 G 241 284 [ez_scr, .ref 0, .ref 35, .int 0] [.int 0, ez_scr, .int 2, .ref 0] (ev_hp ev_I0 ev_J0 ev_R0 []) cz kz = G 241 286 [ez_scr, .ref 0, .ref 35, .int 0] [.int 2, ez_scr, .int 2, .ref 0] (ev_hp ev_I0 ev_J0 ev_R0 []) cz kz := by
  intro G
  rfl
set_option maxRecDepth 100000 in
set_option maxHeartbeats 100000 in
theorem eo_set_s2_r6 (xs : Nat → Int32)  (cz kz : Nat) : ∀ G : ez_F, fx_up (ev_x1 xs 2) 2 G 241 286 [ez_scr, .ref 0, .ref 35, .int 0] [.int 2, ez_scr, .int 2, .ref 0] (ev_hp ev_I0 ev_J0 ev_R0 []) cz kz = ev_C G 42 [.ref 0, .int 2, .int (xs 2)] (ev_hp ev_I0 ev_J0 ev_R0 []) fun r h1 c1 k1 => G 241 290 [ez_scr, .ref 0, .ref 35, .int 0] (r.toList ++ []) h1 (cz + c1) (kz + k1) := by
  intro G
  rfl
set_option maxRecDepth 100000 in
set_option maxHeartbeats 100000 in
theorem eo_set_s2_r7 (xs : Nat → Int32)  (cz kz : Nat) : ∀ G : ez_F, fx_up (ev_x1 xs 2) 2 G 241 290 [ez_scr, .ref 0, .ref 35, .int 0] [.int (-3)] (ev_hp ev_I0 ev_J0 ev_R0 []) cz kz = G 241 292 [ez_scr, .ref 0, .ref 35, .int 0] [ez_scr, .ref 35, .int (-3)] (ev_hp ev_I0 ev_J0 ev_R0 []) cz kz := by
  intro G
  rfl
set_option maxRecDepth 100000 in
set_option maxHeartbeats 100000 in
theorem eo_set_s2_r8 (xs : Nat → Int32)  (cz kz : Nat) : ∀ G : ez_F, fx_up (ev_x1 xs 2) 2 G 241 292 [ez_scr, .ref 0, .ref 35, .int 0] [ez_scr, .ref 35, .int (-3)] (ev_hp ev_I0 ev_J0 ev_R0 []) cz kz = G 241 294 [ez_scr, .ref 0, .ref 35, .int 0] [.int 1, .int 0, ez_scr, .ref 35, .int (-3)] (ev_hp ev_I0 ev_J0 ev_R0 []) cz kz := by
  intro G
  rfl
set_option maxRecDepth 100000 in
set_option maxHeartbeats 100000 in
theorem eo_set_s2_r9 (xs : Nat → Int32)  (cz kz : Nat) : ∀ G : ez_F, fx_up (ev_x1 xs 2) 2 G 241 294 [ez_scr, .ref 0, .ref 35, .int 0] [.int 1, .int 0, ez_scr, .ref 35, .int (-3)] (ev_hp ev_I0 ev_J0 ev_R0 []) cz kz = G 241 296 [ez_scr, .ref 0, .ref 35, .int 0] [.int 2, .ref 35, .int (-3)] (ev_hp ev_I0 ev_J0 ev_R0 []) cz kz := by
  intro G
  rfl
set_option maxRecDepth 100000 in
set_option maxHeartbeats 100000 in
theorem eo_set_s2_r10 (xs : Nat → Int32)  (cz kz : Nat) : ∀ G : ez_F, fx_up (ev_x1 xs 2) 2 G 241 296 [ez_scr, .ref 0, .ref 35, .int 0] [.int 2, .ref 35, .int (-3)] (ev_hp ev_I0 ev_J0 ev_R0 []) cz kz = G 241 298 [ez_scr, .ref 0, .ref 35, .int 0] [.int 0, ez_scr, .int 2, .ref 35, .int (-3)] (ev_hp ev_I0 ev_J0 ev_R0 []) cz kz := by
  intro G
  rfl
set_option maxRecDepth 100000 in
set_option maxHeartbeats 100000 in
theorem eo_set_s2_r11 (xs : Nat → Int32)  (cz kz : Nat) : ∀ G : ez_F, fx_up (ev_x1 xs 2) 2 G 241 298 [ez_scr, .ref 0, .ref 35, .int 0] [.int 0, ez_scr, .int 2, .ref 35, .int (-3)] (ev_hp ev_I0 ev_J0 ev_R0 []) cz kz = G 241 300 [ez_scr, .ref 0, .ref 35, .int 0] [.int 2, ez_scr, .int 2, .ref 35, .int (-3)] (ev_hp ev_I0 ev_J0 ev_R0 []) cz kz := by
  intro G
  rfl
set_option maxRecDepth 100000 in
set_option maxHeartbeats 100000 in
theorem eo_set_s2_r12 (xs : Nat → Int32)  (cz kz : Nat) : ∀ G : ez_F, fx_up (ev_x1 xs 2) 2 G 241 300 [ez_scr, .ref 0, .ref 35, .int 0] [.int 2, ez_scr, .int 2, .ref 35, .int (-3)] (ev_hp ev_I0 ev_J0 ev_R0 []) cz kz = ev_C G 219 [.ref 35, .int 2, .int (xs 2)] (ev_hp ev_I0 ev_J0 ev_R0 []) fun r h1 c1 k1 => G 241 304 [ez_scr, .ref 0, .ref 35, .int 0] (r.toList ++ [.int (-3)]) h1 (cz + c1) (kz + k1) := by
  intro G
  rfl
set_option maxRecDepth 100000 in
set_option maxHeartbeats 100000 in
theorem eo_set_s2_r13 (xs : Nat → Int32)  (cz kz : Nat) : ∀ G : ez_F, fx_up (ev_x1 xs 2) 2 G 241 304 [ez_scr, .ref 0, .ref 35, .int 0] [.int (-3), .int (-3)] (ev_hp ev_I0 ev_J0 ev_R0 []) cz kz = G 241 1078 [ez_scr, .ref 0, .ref 35, .int 4] [] (ev_hp ev_I0 ev_J0 ev_R0 []) cz kz := by
  intro G
  rfl
set_option maxRecDepth 100000 in
set_option maxHeartbeats 100000 in
theorem eo_set_s2_r14 (xs : Nat → Int32)  (cz kz : Nat) : ∀ G : ez_F, fx_up (ev_x1 xs 2) 2 G 241 1078 [ez_scr, .ref 0, .ref 35, .int 4] [] (ev_hp ev_I0 ev_J0 ev_R0 []) cz kz = G 241 19 [ez_scr, .ref 0, .ref 35, .int 4] [.int 4] (ev_hp ev_I0 ev_J0 ev_R0 []) cz kz := by
  intro G
  rfl
set_option maxRecDepth 100000 in
set_option maxHeartbeats 100000 in
theorem eo_set_s2_r15 (xs : Nat → Int32)  (cz kz : Nat) : ∀ G : ez_F, fx_up (ev_x1 xs 2) 2 G 241 19 [ez_scr, .ref 0, .ref 35, .int 4] [.int 4] (ev_hp ev_I0 ev_J0 ev_R0 []) cz kz = G 241 21 [ez_scr, .ref 0, .ref 35, .int 4] [.int 4, .int 4] (ev_hp ev_I0 ev_J0 ev_R0 []) cz kz := by
  intro G
  rfl
set_option maxRecDepth 100000 in
set_option maxHeartbeats 100000 in
theorem eo_set_s2_r16 (xs : Nat → Int32)  (cz kz : Nat) : ∀ G : ez_F, fx_up (ev_x1 xs 2) 2 G 241 21 [ez_scr, .ref 0, .ref 35, .int 4] [.int 4, .int 4] (ev_hp ev_I0 ev_J0 ev_R0 []) cz kz = G 241 23 [ez_scr, .ref 0, .ref 35, .int 4] [.int 0, .int 4] (ev_hp ev_I0 ev_J0 ev_R0 []) cz kz := by
  intro G
  rfl
set_option maxRecDepth 100000 in
set_option maxHeartbeats 100000 in
theorem eo_set_s2_r17 (xs : Nat → Int32)  (cz kz : Nat) : ∀ G : ez_F, fx_up (ev_x1 xs 2) 2 G 241 23 [ez_scr, .ref 0, .ref 35, .int 4] [.int 0, .int 4] (ev_hp ev_I0 ev_J0 ev_R0 []) cz kz = G 241 1082 [ez_scr, .ref 0, .ref 35, .int 4] [.int 1] (ev_hp ev_I0 ev_J0 ev_R0 []) cz kz := by
  intro G
  rfl
set_option maxRecDepth 100000 in
set_option maxHeartbeats 100000 in
theorem eo_set_s2_r18 (xs : Nat → Int32)  (cz kz : Nat) : ∀ G : ez_F, fx_up (ev_x1 xs 2) 1 G 241 1082 [ez_scr, .ref 0, .ref 35, .int 4] [.int 1] (ev_hp ev_I0 ev_J0 ev_R0 []) cz kz = some (some (.int 1), (ev_hp ev_I0 ev_J0 ev_R0 []), cz, kz) := by
  intro G
  rfl
theorem eo_set_s2 (xs : Nat → Int32) (hb : ev_wi (xs 2) 0 2 = 0) : ev_P1 (ev_x1 xs 2) 276 := by
  refine ev_seg (eo_set_s2_r1 xs  _ _) ?_
  refine ev_seg (eo_set_s2_r2 xs  _ _) ?_
  refine ev_seg (eo_set_s2_r3 xs  _ _) ?_
  refine ev_seg (eo_set_s2_r4 xs  _ _) ?_
  refine ev_seg (eo_set_s2_r5 xs  _ _) ?_
  refine ev_call (eo_set_s2_r6 xs  _ _) (ef_set_s2 (ev_x1 xs 2) ev_I0 ev_J0 ev_R0 [] (xs 2) hb) ?_
  rintro r0 _ _ _ (⟨d99, d100, rfl, rfl, rfl, rfl⟩)
  refine ev_seg (eo_set_s2_r7 xs  _ _) ?_
  refine ev_seg (eo_set_s2_r8 xs  _ _) ?_
  refine ev_seg (eo_set_s2_r9 xs  _ _) ?_
  refine ev_seg (eo_set_s2_r10 xs  _ _) ?_
  refine ev_seg (eo_set_s2_r11 xs  _ _) ?_
  refine ev_call (eo_set_s2_r12 xs  _ _) (eh_set_s2 (ev_x1 xs 2) ev_I0 ev_J0 ev_R0 [] (xs 2) hb) ?_
  rintro r0 _ _ _ (⟨d101, rfl, rfl, rfl, rfl⟩)
  refine ev_seg (eo_set_s2_r13 xs  _ _) ?_
  refine ev_seg (eo_set_s2_r14 xs  _ _) ?_
  refine ev_seg (eo_set_s2_r15 xs  _ _) ?_
  refine ev_seg (eo_set_s2_r16 xs  _ _) ?_
  refine ev_seg (eo_set_s2_r17 xs  _ _) ?_
  refine ev_ret (eo_set_s2_r18 xs  _ _) ?_
  exact ⟨rfl, by omega, by omega⟩
set_option maxRecDepth 100000 in
set_option maxHeartbeats 100000 in
theorem ef_many_r_r1 (X : ez_X) (I : Nat → Nat → Int32) (J : Nat → Nat → Int64) (R : Nat → Nat) (T : List ez_C) (a : Int32) (cz kz : Nat) : ∀ G : ez_F, fx_up X 1 G 33 0 [.ref 0, .int a] [] (ev_hp ev_I0 ev_J0 ev_R0 []) cz kz = G 33 1 [.ref 0, .int a] [.int a] (ev_hp ev_I0 ev_J0 ev_R0 []) cz kz := by
  intro G
  rfl
set_option maxRecDepth 100000 in
set_option maxHeartbeats 100000 in
theorem ef_many_r_r2 (X : ez_X) (I : Nat → Nat → Int32) (J : Nat → Nat → Int64) (R : Nat → Nat) (T : List ez_C) (a : Int32) (cz kz : Nat) : ∀ G : ez_F, fx_up X 2 G 33 79 [.ref 0, .int a] [] (ev_hp ev_I0 ev_J0 ev_R0 []) cz kz = some (some (.int (-3)), (ev_hp ev_I0 ev_J0 ev_R0 []), cz, kz) := by
  intro G
  rfl
theorem ef_many_r (X : ez_X) (I : Nat → Nat → Int32) (J : Nat → Nat → Int64) (R : Nat → Nat) (T : List ez_C) (a : Int32) (ha : ev_wi a 0 4 = 0) : ev_W X 33 0 (ez_lay [.ref 0, .int a]) [] (ev_hp ev_I0 ev_J0 ev_R0 []) 0 0 (fun r h1 c1 k1 => (r = some (.int (-3)) ∧ h1 = (ev_hp ev_I0 ev_J0 ev_R0 []) ∧ c1 = 0 ∧ k1 = 0)) := by
  refine ev_seg (ef_many_r_r1 X I J R T a _ _) ?_
  refine ev_swd (q := 79) (by rfl) (ev_wi_out ha) (by rfl) ?_
  refine ev_ret (ef_many_r_r2 X I J R T a _ _) ?_
  exact ⟨rfl, rfl, rfl, rfl⟩
set_option maxRecDepth 100000 in
set_option maxHeartbeats 100000 in
theorem eh_many_r_r1 (X : ez_X) (I : Nat → Nat → Int32) (J : Nat → Nat → Int64) (R : Nat → Nat) (T : List ez_C) (a : Int32) (cz kz : Nat) : ∀ G : ez_F, fx_up X 3 G 210 0 [.ref 35, .int a] [] (ev_hp ev_I0 ev_J0 ev_R0 []) cz kz = G 210 3 [.ref 35, .int a, .int 0] [.int a] (ev_hp ev_I0 ev_J0 ev_R0 []) cz kz := by
  intro G
  rfl
set_option maxRecDepth 100000 in
set_option maxHeartbeats 100000 in
theorem eh_many_r_r2 (X : ez_X) (I : Nat → Nat → Int32) (J : Nat → Nat → Int64) (R : Nat → Nat) (T : List ez_C) (a : Int32) (cz kz : Nat) : ∀ G : ez_F, fx_up X 2 G 210 128 [.ref 35, .int a, .int 0] [] (ev_hp ev_I0 ev_J0 ev_R0 []) cz kz = some (some (.int (-3)), (ev_hp ev_I0 ev_J0 ev_R0 []), cz, kz) := by
  intro G
  rfl
theorem eh_many_r (X : ez_X) (I : Nat → Nat → Int32) (J : Nat → Nat → Int64) (R : Nat → Nat) (T : List ez_C) (a : Int32) (ha : ev_wi a 0 4 = 0) : ev_W X 210 0 (ez_lay [.ref 35, .int a]) [] (ev_hp ev_I0 ev_J0 ev_R0 []) 0 0 (fun r h1 c1 k1 => (r = some (.int (-3)) ∧ h1 = (ev_hp ev_I0 ev_J0 ev_R0 []) ∧ c1 = 0 ∧ k1 = 0)) := by
  refine ev_seg (eh_many_r_r1 X I J R T a _ _) ?_
  refine ev_swd (q := 128) (by rfl) (ev_wi_out ha) (by rfl) ?_
  refine ev_ret (eh_many_r_r2 X I J R T a _ _) ?_
  exact ⟨rfl, rfl, rfl, rfl⟩
set_option maxRecDepth 100000 in
set_option maxHeartbeats 100000 in
theorem eo_many_r_r1 (xs : Nat → Int32)  (cz kz : Nat) : ∀ G : ez_F, fx_up (4, xs) 2 G 241 1052 [ez_scr, .ref 0, .ref 35, .int 0] [] (ev_hp ev_I0 ev_J0 ev_R0 []) cz kz = G 241 1054 [ez_scr, .ref 0, .ref 35, .int 0] [ez_scr, .ref 0] (ev_hp ev_I0 ev_J0 ev_R0 []) cz kz := by
  intro G
  rfl
set_option maxRecDepth 100000 in
set_option maxHeartbeats 100000 in
theorem eo_many_r_r2 (xs : Nat → Int32)  (cz kz : Nat) : ∀ G : ez_F, fx_up (4, xs) 2 G 241 1054 [ez_scr, .ref 0, .ref 35, .int 0] [ez_scr, .ref 0] (ev_hp ev_I0 ev_J0 ev_R0 []) cz kz = G 241 1056 [ez_scr, .ref 0, .ref 35, .int 0] [.int 1, .int 0, ez_scr, .ref 0] (ev_hp ev_I0 ev_J0 ev_R0 []) cz kz := by
  intro G
  rfl
set_option maxRecDepth 100000 in
set_option maxHeartbeats 100000 in
theorem eo_many_r_r3 (xs : Nat → Int32)  (cz kz : Nat) : ∀ G : ez_F, fx_up (4, xs) 2 G 241 1056 [ez_scr, .ref 0, .ref 35, .int 0] [.int 1, .int 0, ez_scr, .ref 0] (ev_hp ev_I0 ev_J0 ev_R0 []) cz kz = G 241 1058 [ez_scr, .ref 0, .ref 35, .int 0] [.int (xs 1), .ref 0] (ev_hp ev_I0 ev_J0 ev_R0 []) cz kz := by
  intro G
  rfl
set_option maxRecDepth 100000 in
set_option maxHeartbeats 100000 in
theorem eo_many_r_r4 (xs : Nat → Int32)  (cz kz : Nat) : ∀ G : ez_F, fx_up (4, xs) 1 G 241 1058 [ez_scr, .ref 0, .ref 35, .int 0] [.int (xs 1), .ref 0] (ev_hp ev_I0 ev_J0 ev_R0 []) cz kz = ev_C G 33 [.ref 0, .int (xs 1)] (ev_hp ev_I0 ev_J0 ev_R0 []) fun r h1 c1 k1 => G 241 1061 [ez_scr, .ref 0, .ref 35, .int 0] (r.toList ++ []) h1 (cz + c1) (kz + k1) := by
  intro G
  rfl
set_option maxRecDepth 100000 in
set_option maxHeartbeats 100000 in
theorem eo_many_r_r5 (xs : Nat → Int32)  (cz kz : Nat) : ∀ G : ez_F, fx_up (4, xs) 2 G 241 1061 [ez_scr, .ref 0, .ref 35, .int 0] [.int (-3)] (ev_hp ev_I0 ev_J0 ev_R0 []) cz kz = G 241 1063 [ez_scr, .ref 0, .ref 35, .int 0] [ez_scr, .ref 35, .int (-3)] (ev_hp ev_I0 ev_J0 ev_R0 []) cz kz := by
  intro G
  rfl
set_option maxRecDepth 100000 in
set_option maxHeartbeats 100000 in
theorem eo_many_r_r6 (xs : Nat → Int32)  (cz kz : Nat) : ∀ G : ez_F, fx_up (4, xs) 2 G 241 1063 [ez_scr, .ref 0, .ref 35, .int 0] [ez_scr, .ref 35, .int (-3)] (ev_hp ev_I0 ev_J0 ev_R0 []) cz kz = G 241 1065 [ez_scr, .ref 0, .ref 35, .int 0] [.int 1, .int 0, ez_scr, .ref 35, .int (-3)] (ev_hp ev_I0 ev_J0 ev_R0 []) cz kz := by
  intro G
  rfl
set_option maxRecDepth 100000 in
set_option maxHeartbeats 100000 in
theorem eo_many_r_r7 (xs : Nat → Int32)  (cz kz : Nat) : ∀ G : ez_F, fx_up (4, xs) 2 G 241 1065 [ez_scr, .ref 0, .ref 35, .int 0] [.int 1, .int 0, ez_scr, .ref 35, .int (-3)] (ev_hp ev_I0 ev_J0 ev_R0 []) cz kz = G 241 1067 [ez_scr, .ref 0, .ref 35, .int 0] [.int (xs 1), .ref 35, .int (-3)] (ev_hp ev_I0 ev_J0 ev_R0 []) cz kz := by
  intro G
  rfl
set_option maxRecDepth 100000 in
set_option maxHeartbeats 100000 in
theorem eo_many_r_r8 (xs : Nat → Int32)  (cz kz : Nat) : ∀ G : ez_F, fx_up (4, xs) 1 G 241 1067 [ez_scr, .ref 0, .ref 35, .int 0] [.int (xs 1), .ref 35, .int (-3)] (ev_hp ev_I0 ev_J0 ev_R0 []) cz kz = ev_C G 210 [.ref 35, .int (xs 1)] (ev_hp ev_I0 ev_J0 ev_R0 []) fun r h1 c1 k1 => G 241 1070 [ez_scr, .ref 0, .ref 35, .int 0] (r.toList ++ [.int (-3)]) h1 (cz + c1) (kz + k1) := by
  intro G
  rfl
set_option maxRecDepth 100000 in
set_option maxHeartbeats 100000 in
theorem eo_many_r_r9 (xs : Nat → Int32)  (cz kz : Nat) : ∀ G : ez_F, fx_up (4, xs) 2 G 241 1070 [ez_scr, .ref 0, .ref 35, .int 0] [.int (-3), .int (-3)] (ev_hp ev_I0 ev_J0 ev_R0 []) cz kz = G 241 1078 [ez_scr, .ref 0, .ref 35, .int 4] [] (ev_hp ev_I0 ev_J0 ev_R0 []) cz kz := by
  intro G
  rfl
set_option maxRecDepth 100000 in
set_option maxHeartbeats 100000 in
theorem eo_many_r_r10 (xs : Nat → Int32)  (cz kz : Nat) : ∀ G : ez_F, fx_up (4, xs) 2 G 241 1078 [ez_scr, .ref 0, .ref 35, .int 4] [] (ev_hp ev_I0 ev_J0 ev_R0 []) cz kz = G 241 19 [ez_scr, .ref 0, .ref 35, .int 4] [.int 4] (ev_hp ev_I0 ev_J0 ev_R0 []) cz kz := by
  intro G
  rfl
set_option maxRecDepth 100000 in
set_option maxHeartbeats 100000 in
theorem eo_many_r_r11 (xs : Nat → Int32)  (cz kz : Nat) : ∀ G : ez_F, fx_up (4, xs) 2 G 241 19 [ez_scr, .ref 0, .ref 35, .int 4] [.int 4] (ev_hp ev_I0 ev_J0 ev_R0 []) cz kz = G 241 21 [ez_scr, .ref 0, .ref 35, .int 4] [.int 4, .int 4] (ev_hp ev_I0 ev_J0 ev_R0 []) cz kz := by
  intro G
  rfl
set_option maxRecDepth 100000 in
set_option maxHeartbeats 100000 in
theorem eo_many_r_r12 (xs : Nat → Int32)  (cz kz : Nat) : ∀ G : ez_F, fx_up (4, xs) 2 G 241 21 [ez_scr, .ref 0, .ref 35, .int 4] [.int 4, .int 4] (ev_hp ev_I0 ev_J0 ev_R0 []) cz kz = G 241 23 [ez_scr, .ref 0, .ref 35, .int 4] [.int 0, .int 4] (ev_hp ev_I0 ev_J0 ev_R0 []) cz kz := by
  intro G
  rfl
set_option maxRecDepth 100000 in
set_option maxHeartbeats 100000 in
theorem eo_many_r_r13 (xs : Nat → Int32)  (cz kz : Nat) : ∀ G : ez_F, fx_up (4, xs) 2 G 241 23 [ez_scr, .ref 0, .ref 35, .int 4] [.int 0, .int 4] (ev_hp ev_I0 ev_J0 ev_R0 []) cz kz = G 241 1082 [ez_scr, .ref 0, .ref 35, .int 4] [.int 1] (ev_hp ev_I0 ev_J0 ev_R0 []) cz kz := by
  intro G
  rfl
set_option maxRecDepth 100000 in
set_option maxHeartbeats 100000 in
theorem eo_many_r_r14 (xs : Nat → Int32)  (cz kz : Nat) : ∀ G : ez_F, fx_up (4, xs) 1 G 241 1082 [ez_scr, .ref 0, .ref 35, .int 4] [.int 1] (ev_hp ev_I0 ev_J0 ev_R0 []) cz kz = some (some (.int 1), (ev_hp ev_I0 ev_J0 ev_R0 []), cz, kz) := by
  intro G
  rfl
theorem eo_many_r (xs : Nat → Int32) (ha : ev_wi (xs 1) 0 4 = 0) : ev_P1 (4, xs) 1052 := by
  refine ev_seg (eo_many_r_r1 xs  _ _) ?_
  refine ev_seg (eo_many_r_r2 xs  _ _) ?_
  refine ev_seg (eo_many_r_r3 xs  _ _) ?_
  refine ev_call (eo_many_r_r4 xs  _ _) (ef_many_r (4, xs) ev_I0 ev_J0 ev_R0 [] (xs 1) ha) ?_
  rintro r0 _ _ _ (⟨rfl, rfl, rfl, rfl⟩)
  refine ev_seg (eo_many_r_r5 xs  _ _) ?_
  refine ev_seg (eo_many_r_r6 xs  _ _) ?_
  refine ev_seg (eo_many_r_r7 xs  _ _) ?_
  refine ev_call (eo_many_r_r8 xs  _ _) (eh_many_r (4, xs) ev_I0 ev_J0 ev_R0 [] (xs 1) ha) ?_
  rintro r0 _ _ _ (⟨rfl, rfl, rfl, rfl⟩)
  refine ev_seg (eo_many_r_r9 xs  _ _) ?_
  refine ev_seg (eo_many_r_r10 xs  _ _) ?_
  refine ev_seg (eo_many_r_r11 xs  _ _) ?_
  refine ev_seg (eo_many_r_r12 xs  _ _) ?_
  refine ev_seg (eo_many_r_r13 xs  _ _) ?_
  refine ev_ret (eo_many_r_r14 xs  _ _) ?_
  exact ⟨rfl, by omega, by omega⟩
